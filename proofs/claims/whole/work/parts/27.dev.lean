section DEV
variable {T L : Nat → Nat} {P : Nat → Nat → Option Nat} {I : Nat → Nat → Int} {hn : Nat}
def oldB (I : Nat → Nat → Int) (p : Int) : Int := if p < 0 ∨ 120 ≤ p then 0 else if I 47 p.toNat ≠ 0 then I 49 p.toNat else I 43 p.toNat
def newQ (I : Nat → Nat → Int) (k : Int) : Int := if I 41 5 = 0 then k else I 44 3 - 1 - k
def dAll (I : Nat → Nat → Int) : Int := I 41 4 + 1 + 2 * I 44 3 + 1
/-- what the device's next write does, but for its count -/
def dW0 (I : Nat → Nat → Int) : Nat → Nat → Int :=
  if I 41 6 - I 41 4 < 0 then mI I 49 (I 48 (I 41 6).toNat).toNat (I 43 (I 48 (I 41 6).toNat).toNat)
  else if dAll I ≤ I 41 6 + 1 then mI (mI (mI I 42 1 (I 44 3)) 41 9 0) 41 10 0
  else if (I 41 6 - I 41 4) % 2 = 0 then mI I 41 7 ((I 41 6 - I 41 4) / 2)
  else mI I 43 (newQ I ((I 41 6 - I 41 4) / 2)).toNat ((oldB I (I 45 (newQ I ((I 41 6 - I 41 4) / 2)).toNat) + I 46 (newQ I ((I 41 6 - I 41 4) / 2)).toNat) % 256)
def dW (I : Nat → Nat → Int) : Nat → Nat → Int := mI (dW0 I) 41 6 (I 41 6 + 1)
/-- what holds while an update is begun -/
def DB (I : Nat → Nat → Int) : Prop := (0 ≤ I 41 4 ∧ I 41 4 ≤ 120) ∧ (0 ≤ I 41 6 ∧ I 41 6 < dAll I) ∧ (0 ≤ I 44 3 ∧ I 44 3 ≤ 120) ∧ (∀ k : Nat, (k : Int) < I 41 4 → 0 ≤ I 48 k ∧ I 48 k < 120) ∧ (∀ x : Nat, (x : Int) < I 44 3 → (-1 ≤ I 45 x ∧ I 45 x < 120) ∧ 0 ≤ I 46 x ∧ I 46 x < 256) ∧ (∀ j, j < 120 → (0 ≤ I 43 j ∧ I 43 j < 256) ∧ 0 ≤ I 49 j ∧ I 49 j < 256) ∧ (I 41 5 = 0 ∨ I 41 5 = 1)

set_option maxHeartbeats 4000000 in
set_option maxRecDepth 100000 in
theorem k_endUpdate (hW : Wd T L P) : iX1_endUpdate [.inr (some 41)] T L P I hn (fun r J => r = none ∧ J = mI (mI I 41 9 0) 41 10 0) := by
  refine CT.by (by decide) (Nat.le_of_ble_eq_true rfl) fun X Y Q hQ K hv => ?_
  refine r_aload_n K dX1_endUpdate_0 rfl ?_
  refine r_iconst K dX1_endUpdate_1 ?_
  refine r_putI K dX1_endUpdate_2 f_X1_73 rfl rfl (Or.inr ⟨rfl, by first | exact Or.inl rfl | exact Or.inr rfl⟩) (by first | assumption | exact hW.1 _ _ rfl | exact hW.2.2.1 _ _ _ rfl) ?_
  refine r_aload_n K dX1_endUpdate_5 rfl ?_
  refine r_iconst K dX1_endUpdate_6 ?_
  refine r_putI K dX1_endUpdate_7 f_X1_77 rfl rfl (Or.inr ⟨rfl, by first | exact Or.inl rfl | exact Or.inr rfl⟩) (by first | assumption | exact hW.1 _ _ rfl | exact hW.2.2.1 _ _ _ rfl) ?_
  exact q_vret K hQ rfl dX1_endUpdate_10 (Nat.le_refl _) (Nat.le_refl _) (⟨rfl, rfl, rfl, rfl, rfl, rfl⟩)
set_option maxHeartbeats 4000000 in
set_option maxRecDepth 100000 in
theorem k_X1_allWrites (hW : Wd T L P) (h1 : 0 ≤ I 41 4 ∧ I 41 4 ≤ 1000) (h2 : 0 ≤ I 44 3 ∧ I 44 3 ≤ 1000) : pX1_allWrites [.inr (some 41)] T L P I hn (.inl (dAll I)) := by
  refine CT.by (by decide) (Nat.le_of_ble_eq_true rfl) fun X Y Q hQ K hv => ?_
  refine r_aload_n K dX1_allWrites_0 rfl ?_
  refine r_getI K dX1_allWrites_1 f_X1_60 rfl (by first | assumption | exact hW.1 _ _ rfl | exact hW.2.2.1 _ _ _ rfl) ?_
  refine r_iconst K dX1_allWrites_4 ?_
  refine r_iadd K dX1_allWrites_5 ?_
  refine r_iconst K dX1_allWrites_6 ?_
  refine r_aload_n K dX1_allWrites_7 rfl ?_
  refine r_getR K dX1_allWrites_8 f_X1_23 rfl (by first | assumption | exact hW.1 _ _ rfl | exact hW.2.2.1 _ _ _ rfl) (by first | assumption | exact hW.1 _ _ rfl | exact hW.2.2.1 _ _ _ rfl) ?_
  refine r_getI K dX1_allWrites_11 f_X1_80 rfl (by first | assumption | exact hW.1 _ _ rfl | exact hW.2.2.1 _ _ _ rfl) ?_
  refine r_imul K dX1_allWrites_14 ?_
  refine r_iadd K dX1_allWrites_15 ?_
  refine r_iconst K dX1_allWrites_16 ?_
  refine r_iadd K dX1_allWrites_17 ?_
  exact q_iret K hQ rfl dX1_allWrites_18 (Nat.le_refl _) (Nat.le_refl _) (⟨rfl, rfl, rfl, rfl, rfl, rfl⟩)
set_option maxHeartbeats 4000000 in
set_option maxRecDepth 100000 in
theorem k_writesLeft (hW : Wd T L P) (h1 : 0 ≤ I 41 4 ∧ I 41 4 ≤ 1000) (h2 : 0 ≤ I 44 3 ∧ I 44 3 ≤ 1000) (h3 : 0 ≤ I 41 6 ∧ I 41 6 ≤ 100000) : pX1_writesLeft [.inr (some 41)] T L P I hn (.inl (if I 41 9 ≠ 0 then dAll I - I 41 6 else 0)) := by
  refine CT.by (by decide) (Nat.le_of_ble_eq_true rfl) fun X Y Q hQ K hv => ?_
  have hd : 0 ≤ dAll I ∧ dAll I ≤ 10000 := by unfold dAll; omega
  refine r_aload_n K dX1_writesLeft_0 rfl ?_
  refine r_getI K dX1_writesLeft_1 f_X1_73 rfl (by first | assumption | exact hW.1 _ _ rfl | exact hW.2.2.1 _ _ _ rfl) ?_
  refine r_if_eq K 19 dX1_writesLeft_4 (by decide) (fun c4 => ?_) (fun c4 => ?_)
  · refine r_iconst K dX1_writesLeft_19 ?_
    exact q_iret K hQ rfl dX1_writesLeft_20 (Nat.le_refl _) (Nat.le_refl _) (⟨by first | rw [if_pos (by omega)] | rw [if_neg (by omega)], rfl, rfl, rfl, rfl, rfl⟩)
  · refine r_aload_n K dX1_writesLeft_7 rfl ?_
    refine rcV0p K dX1_writesLeft_8 c_X1_81 v_X1_allWrites (by first | assumption | exact hW.1 _ _ rfl | exact hW.2.2.1 _ _ _ rfl) (k_X1_allWrites hW h1 h2) (by decide) (Nat.le_of_ble_eq_true rfl) ?_
    refine r_aload_n K dX1_writesLeft_11 rfl ?_
    refine r_getI K dX1_writesLeft_12 f_X1_67 rfl (by first | assumption | exact hW.1 _ _ rfl | exact hW.2.2.1 _ _ _ rfl) ?_
    refine r_isub K dX1_writesLeft_15 ?_
    refine r_goto K 20 dX1_writesLeft_16 (by decide) ?_
    exact q_iret K hQ rfl dX1_writesLeft_20 (Nat.le_refl _) (Nat.le_refl _) (⟨by first | rw [if_pos (by omega)] | rw [if_neg (by omega)], rfl, rfl, rfl, rfl, rfl⟩)
set_option maxHeartbeats 4000000 in
set_option maxRecDepth 100000 in
theorem k_oldByte {p : Int} (hW : Wd T L P) : pX1_oldByte [.inr (some 41), .inl p] T L P I hn (.inl (oldB I p)) := by
  refine CT.by (by decide) (Nat.le_of_ble_eq_true rfl) fun X Y Q hQ K hv => ?_
  have l43 : L 43 = 120 := hW.2.1 43 120 rfl (by decide)
  have l45 : L 45 = 120 := hW.2.1 45 120 rfl (by decide)
  have l46 : L 46 = 120 := hW.2.1 46 120 rfl (by decide)
  have l47 : L 47 = 120 := hW.2.1 47 120 rfl (by decide)
  have l48 : L 48 = 120 := hW.2.1 48 120 rfl (by decide)
  have l49 : L 49 = 120 := hW.2.1 49 120 rfl (by decide)
  have hk := k_isKept (T := T) (L := L) (P := P) (I := I) (hn := hn) (t := 44) (tp := 45) (tb := 46) (tk := 47) (p := p) (hW.1 _ _ rfl) (hW.2.2.1 _ _ _ rfl) (hW.2.2.1 _ _ _ rfl) (hW.2.2.1 _ _ _ rfl) (hW.1 _ _ rfl) (hW.1 _ _ rfl) (hW.1 _ _ rfl) l45 l46 l47
  refine r_iload_n K dX1_oldByte_0 rfl ?_
  refine r_if_lt K 10 dX1_oldByte_1 (by decide) (fun c1 => ?_) (fun c1 => ?_)
  · refine r_iconst K dX1_oldByte_10 ?_
    exact q_iret K hQ rfl dX1_oldByte_11 (Nat.le_refl _) (Nat.le_refl _) (⟨by rw [oldB, if_pos (by omega)], rfl, rfl, rfl, rfl, rfl⟩)
  · refine r_iload_n K dX1_oldByte_4 rfl ?_
    refine r_bipush K dX1_oldByte_5 ?_
    refine r_icmp_lt K 12 dX1_oldByte_7 (by decide) (fun c7 => ?_) (fun c7 => ?_)
    · refine r_aload_n K dX1_oldByte_12 rfl ?_
      refine r_getR K dX1_oldByte_13 f_X1_23 rfl (by first | assumption | exact hW.1 _ _ rfl | exact hW.2.2.1 _ _ _ rfl) (by first | assumption | exact hW.1 _ _ rfl | exact hW.2.2.1 _ _ _ rfl) ?_
      refine r_iload_n K dX1_oldByte_16 rfl ?_
      refine rcV1p K dX1_oldByte_17 c_X1_63 v_X6_isKept (by first | assumption | exact hW.1 _ _ rfl | exact hW.2.2.1 _ _ _ rfl) hk (by decide) (Nat.le_of_ble_eq_true rfl) ?_
      refine r_if_eq K 32 dX1_oldByte_20 (by decide) (fun c20 => ?_) (fun c20 => ?_)
      · have hkk : ¬ I 47 p.toNat ≠ 0 := fun h => by rw [if_pos ⟨by omega, by omega, h⟩] at c20; exact absurd c20 (by decide)
        refine r_aload_n K dX1_oldByte_32 rfl ?_
        refine r_getR K dX1_oldByte_33 f_X1_14 rfl (by first | assumption | exact hW.1 _ _ rfl | exact hW.2.2.1 _ _ _ rfl) (by first | assumption | exact hW.1 _ _ rfl | exact hW.2.2.1 _ _ _ rfl) ?_
        refine r_getR K dX1_oldByte_36 f_X1_90 rfl (by first | assumption | exact hW.1 _ _ rfl | exact hW.2.2.1 _ _ _ rfl) (by first | assumption | exact hW.1 _ _ rfl | exact hW.2.2.1 _ _ _ rfl) ?_
        refine r_iload_n K dX1_oldByte_39 rfl ?_
        refine r_iald K dX1_oldByte_40 (by first | assumption | exact hW.1 _ _ rfl | exact hW.2.2.1 _ _ _ rfl) (by omega) (by omega) ?_
        exact q_iret K hQ rfl dX1_oldByte_41 (Nat.le_refl _) (Nat.le_refl _) (⟨by rw [oldB, if_neg (by omega)]; first | rw [if_pos hkk] | rw [if_neg hkk], rfl, rfl, rfl, rfl, rfl⟩)
      · have hkk : I 47 p.toNat ≠ 0 := fun h => by rw [if_neg (by omega)] at c20; exact absurd rfl c20
        refine r_aload_n K dX1_oldByte_23 rfl ?_
        refine r_getR K dX1_oldByte_24 f_X1_31 rfl (by first | assumption | exact hW.1 _ _ rfl | exact hW.2.2.1 _ _ _ rfl) (by first | assumption | exact hW.1 _ _ rfl | exact hW.2.2.1 _ _ _ rfl) ?_
        refine r_iload_n K dX1_oldByte_27 rfl ?_
        refine r_iald K dX1_oldByte_28 (by first | assumption | exact hW.1 _ _ rfl | exact hW.2.2.1 _ _ _ rfl) (by omega) (by omega) ?_
        refine r_goto K 41 dX1_oldByte_29 (by decide) ?_
        exact q_iret K hQ rfl dX1_oldByte_41 (Nat.le_refl _) (Nat.le_refl _) (⟨by rw [oldB, if_neg (by omega)]; first | rw [if_pos hkk] | rw [if_neg hkk], rfl, rfl, rfl, rfl, rfl⟩)
    · refine r_iconst K dX1_oldByte_10 ?_
      exact q_iret K hQ rfl dX1_oldByte_11 (Nat.le_refl _) (Nat.le_refl _) (⟨by rw [oldB, if_pos (by omega)], rfl, rfl, rfl, rfl, rfl⟩)
set_option maxHeartbeats 4000000 in
set_option maxRecDepth 100000 in
theorem k_writeNewByte {k : Int} (hW : Wd T L P) (hD : DB I) (h1 : 0 ≤ k) (h2 : k < I 44 3) : iX1_writeNewByte [.inr (some 41), .inl k] T L P I hn (fun r J => r = none ∧ J = mI I 43 (newQ I k).toNat ((oldB I (I 45 (newQ I k).toNat) + I 46 (newQ I k).toNat) % 256)) := by
  refine CT.by (by decide) (Nat.le_of_ble_eq_true rfl) fun X Y Q hQ K hv => ?_
  have l43 : L 43 = 120 := hW.2.1 43 120 rfl (by decide)
  have l45 : L 45 = 120 := hW.2.1 45 120 rfl (by decide)
  have l46 : L 46 = 120 := hW.2.1 46 120 rfl (by decide)
  have l47 : L 47 = 120 := hW.2.1 47 120 rfl (by decide)
  have l48 : L 48 = 120 := hW.2.1 48 120 rfl (by decide)
  have l49 : L 49 = 120 := hW.2.1 49 120 rfl (by decide)
  obtain ⟨b1, b2, b3, b4, b5, b6, b7⟩ := hD
  have hq : 0 ≤ newQ I k ∧ newQ I k < I 44 3 := by unfold newQ; split <;> omega
  have b5q := b5 (newQ I k).toNat (by omega)
  have hob : 0 ≤ oldB I (I 45 (newQ I k).toNat) ∧ oldB I (I 45 (newQ I k).toNat) < 256 := by
    unfold oldB
    split
    · exact ⟨by omega, by omega⟩
    · have := b6 (I 45 (newQ I k).toNat).toNat (by omega)
      split
      · exact this.2
      · exact this.1
  have j22 : RR X Y Q 0 0 22 (ls0 [.inr (some 41), .inl k] 3) [.inl (newQ I k)] T L P I hn := by
    refine r_istore_n K dX1_writeNewByte_22 (by decide) ?_
    refine r_iload_n K dX1_writeNewByte_23 rfl ?_
    refine r_if_lt K 38 dX1_writeNewByte_24 (by decide) (fun c24 => ?_) (fun c24 => ?_)
    · exact absurd c24 (by omega)
    · refine r_iload_n K dX1_writeNewByte_27 rfl ?_
      refine r_aload_n K dX1_writeNewByte_28 rfl ?_
      refine r_getR K dX1_writeNewByte_29 f_X1_23 rfl (by first | assumption | exact hW.1 _ _ rfl | exact hW.2.2.1 _ _ _ rfl) (by first | assumption | exact hW.1 _ _ rfl | exact hW.2.2.1 _ _ _ rfl) ?_
      refine r_getI K dX1_writeNewByte_32 f_X1_80 rfl (by first | assumption | exact hW.1 _ _ rfl | exact hW.2.2.1 _ _ _ rfl) ?_
      refine r_icmp_lt K 39 dX1_writeNewByte_35 (by decide) (fun c35 => ?_) (fun c35 => ?_)
      · refine r_aload_n K dX1_writeNewByte_39 rfl ?_
        refine r_getR K dX1_writeNewByte_40 f_X1_14 rfl (by first | assumption | exact hW.1 _ _ rfl | exact hW.2.2.1 _ _ _ rfl) (by first | assumption | exact hW.1 _ _ rfl | exact hW.2.2.1 _ _ _ rfl) ?_
        refine r_getR K dX1_writeNewByte_43 f_X1_90 rfl (by first | assumption | exact hW.1 _ _ rfl | exact hW.2.2.1 _ _ _ rfl) (by first | assumption | exact hW.1 _ _ rfl | exact hW.2.2.1 _ _ _ rfl) ?_
        refine r_iload_n K dX1_writeNewByte_46 rfl ?_
        refine r_aload_n K dX1_writeNewByte_47 rfl ?_
        refine r_aload_n K dX1_writeNewByte_48 rfl ?_
        refine r_getR K dX1_writeNewByte_49 f_X1_23 rfl (by first | assumption | exact hW.1 _ _ rfl | exact hW.2.2.1 _ _ _ rfl) (by first | assumption | exact hW.1 _ _ rfl | exact hW.2.2.1 _ _ _ rfl) ?_
        refine r_getR K dX1_writeNewByte_52 f_X1_96 rfl (by first | assumption | exact hW.1 _ _ rfl | exact hW.2.2.1 _ _ _ rfl) (by first | assumption | exact hW.1 _ _ rfl | exact hW.2.2.1 _ _ _ rfl) ?_
        refine r_iload_n K dX1_writeNewByte_55 rfl ?_
        refine r_iald K dX1_writeNewByte_56 (by first | assumption | exact hW.1 _ _ rfl | exact hW.2.2.1 _ _ _ rfl) (by omega) (by omega) ?_
        refine rcV1p K dX1_writeNewByte_57 c_X1_99 v_X1_oldByte (by first | assumption | exact hW.1 _ _ rfl | exact hW.2.2.1 _ _ _ rfl) (k_oldByte hW) (by decide) (Nat.le_of_ble_eq_true rfl) ?_
        refine r_aload_n K dX1_writeNewByte_60 rfl ?_
        refine r_getR K dX1_writeNewByte_61 f_X1_23 rfl (by first | assumption | exact hW.1 _ _ rfl | exact hW.2.2.1 _ _ _ rfl) (by first | assumption | exact hW.1 _ _ rfl | exact hW.2.2.1 _ _ _ rfl) ?_
        refine r_getR K dX1_writeNewByte_64 f_X1_102 rfl (by first | assumption | exact hW.1 _ _ rfl | exact hW.2.2.1 _ _ _ rfl) (by first | assumption | exact hW.1 _ _ rfl | exact hW.2.2.1 _ _ _ rfl) ?_
        refine r_iload_n K dX1_writeNewByte_67 rfl ?_
        refine r_iald K dX1_writeNewByte_68 (by first | assumption | exact hW.1 _ _ rfl | exact hW.2.2.1 _ _ _ rfl) (by omega) (by omega) ?_
        refine r_iadd K dX1_writeNewByte_69 ?_
        refine r_sipush K dX1_writeNewByte_70 ?_
        refine r_iand K dX1_writeNewByte_73 ?_
        rw [zAnd_255 (show rg _ from ⟨by omega, by omega⟩)]
        refine r_iast K dX1_writeNewByte_74 (by first | assumption | exact hW.1 _ _ rfl | exact hW.2.2.1 _ _ _ rfl) (by omega) (by omega) ?_
        exact q_vret K hQ rfl dX1_writeNewByte_75 (Nat.le_refl _) (Nat.le_refl _) (⟨rfl, rfl, rfl, rfl, rfl, rfl⟩)
      · exact absurd c35 (by omega)
  refine r_aload_n K dX1_writeNewByte_0 rfl ?_
  refine r_getI K dX1_writeNewByte_1 f_X1_57 rfl (by first | assumption | exact hW.1 _ _ rfl | exact hW.2.2.1 _ _ _ rfl) ?_
  refine r_if_ne K 11 dX1_writeNewByte_4 (by decide) (fun c4 => ?_) (fun c4 => ?_)
  · refine r_aload_n K dX1_writeNewByte_11 rfl ?_
    refine r_getR K dX1_writeNewByte_12 f_X1_23 rfl (by first | assumption | exact hW.1 _ _ rfl | exact hW.2.2.1 _ _ _ rfl) (by first | assumption | exact hW.1 _ _ rfl | exact hW.2.2.1 _ _ _ rfl) ?_
    refine r_getI K dX1_writeNewByte_15 f_X1_80 rfl (by first | assumption | exact hW.1 _ _ rfl | exact hW.2.2.1 _ _ _ rfl) ?_
    refine r_iconst K dX1_writeNewByte_18 ?_
    refine r_isub K dX1_writeNewByte_19 ?_
    refine r_iload_n K dX1_writeNewByte_20 rfl ?_
    refine r_isub K dX1_writeNewByte_21 ?_
    first
      | (have e : newQ I k = k := by rw [newQ, if_pos c4]
         rw [e] at j22
         exact j22)
      | (have e : newQ I k = I 44 3 - 1 - k := by rw [newQ, if_neg c4]
         rw [e] at j22
         exact j22)
  · refine r_iload_n K dX1_writeNewByte_7 rfl ?_
    refine r_goto K 22 dX1_writeNewByte_8 (by decide) ?_
    first
      | (have e : newQ I k = k := by rw [newQ, if_pos c4]
         rw [e] at j22
         exact j22)
      | (have e : newQ I k = I 44 3 - 1 - k := by rw [newQ, if_neg c4]
         rw [e] at j22
         exact j22)
set_option maxHeartbeats 4000000 in
set_option maxRecDepth 100000 in
theorem k_makeNextWrite (hW : Wd T L P) (hD : DB I) : iX1_makeNextWrite [.inr (some 41)] T L P I hn (fun r J => r = none ∧ J = dW I) := by
  refine CT.by (by decide) (Nat.le_of_ble_eq_true rfl) fun X Y Q hQ K hv => ?_
  have l43 : L 43 = 120 := hW.2.1 43 120 rfl (by decide)
  have l45 : L 45 = 120 := hW.2.1 45 120 rfl (by decide)
  have l46 : L 46 = 120 := hW.2.1 46 120 rfl (by decide)
  have l47 : L 47 = 120 := hW.2.1 47 120 rfl (by decide)
  have l48 : L 48 = 120 := hW.2.1 48 120 rfl (by decide)
  have l49 : L 49 = 120 := hW.2.1 49 120 rfl (by decide)
  have hD0 := hD
  obtain ⟨b1, b2, b3, b4, b5, b6, b7⟩ := hD
  have hall : dAll I = I 41 4 + 1 + 2 * I 44 3 + 1 := rfl
  have j99 : ∀ (J : Nat → Nat → Int) (g1 g2 : Option PV), J = dW0 I → J 41 6 = I 41 6 → RR X Y Q 0 0 99 [some (.inr (some 41)), g1, g2] [] T L P J hn := by
    intro J g1 g2 hJ h6
    refine r_aload_n K dX1_makeNextWrite_99 rfl ?_
    refine r_dup K dX1_makeNextWrite_100 ?_
    refine r_getI K dX1_makeNextWrite_101 f_X1_67 rfl (by first | assumption | exact hW.1 _ _ rfl | exact hW.2.2.1 _ _ _ rfl) ?_
    rw [h6]
    refine r_iconst K dX1_makeNextWrite_104 ?_
    refine r_iadd K dX1_makeNextWrite_105 ?_
    refine r_putI K dX1_makeNextWrite_106 f_X1_67 rfl rfl (Or.inl rfl) (by first | assumption | exact hW.1 _ _ rfl | exact hW.2.2.1 _ _ _ rfl) ?_
    exact q_vret K hQ rfl dX1_makeNextWrite_109 (Nat.le_refl _) (Nat.le_refl _) (⟨rfl, rfl, rfl, rfl, rfl, by rw [dW, hJ]⟩)
  refine r_aload_n K dX1_makeNextWrite_0 rfl ?_
  refine r_getI K dX1_makeNextWrite_1 f_X1_67 rfl (by first | assumption | exact hW.1 _ _ rfl | exact hW.2.2.1 _ _ _ rfl) ?_
  refine r_aload_n K dX1_makeNextWrite_4 rfl ?_
  refine r_getI K dX1_makeNextWrite_5 f_X1_60 rfl (by first | assumption | exact hW.1 _ _ rfl | exact hW.2.2.1 _ _ _ rfl) ?_
  refine r_isub K dX1_makeNextWrite_8 ?_
  refine r_istore_n K dX1_makeNextWrite_9 (by decide) ?_
  refine r_iload_n K dX1_makeNextWrite_10 rfl ?_
  refine r_if_ge K 42 dX1_makeNextWrite_11 (by decide) (fun c11 => ?_) (fun c11 => ?_)
  · refine r_aload_n K dX1_makeNextWrite_42 rfl ?_
    refine r_getI K dX1_makeNextWrite_43 f_X1_67 rfl (by first | assumption | exact hW.1 _ _ rfl | exact hW.2.2.1 _ _ _ rfl) ?_
    refine r_iconst K dX1_makeNextWrite_46 ?_
    refine r_iadd K dX1_makeNextWrite_47 ?_
    refine r_aload_n K dX1_makeNextWrite_48 rfl ?_
    refine rcV0p K dX1_makeNextWrite_49 c_X1_81 v_X1_allWrites (by first | assumption | exact hW.1 _ _ rfl | exact hW.2.2.1 _ _ _ rfl) (k_X1_allWrites hW (by omega) (by omega)) (by decide) (Nat.le_of_ble_eq_true rfl) ?_
    refine r_icmp_lt K 76 dX1_makeNextWrite_52 (by decide) (fun c52 => ?_) (fun c52 => ?_)
    · refine r_iload_n K dX1_makeNextWrite_76 rfl ?_
      refine r_iconst K dX1_makeNextWrite_77 ?_
      refine r_irem K dX1_makeNextWrite_78 (by omega) (by omega) ?_
      refine r_if_ne K 92 dX1_makeNextWrite_79 (by decide) (fun c79 => ?_) (fun c79 => ?_)
      · refine r_aload_n K dX1_makeNextWrite_92 rfl ?_
        refine r_iload_n K dX1_makeNextWrite_93 rfl ?_
        refine r_iconst K dX1_makeNextWrite_94 ?_
        refine r_idiv K dX1_makeNextWrite_95 (by omega) (by omega) ?_
        refine rcV1i K dX1_makeNextWrite_96 c_X1_93 v_X1_writeNewByte (by first | assumption | exact hW.1 _ _ rfl | exact hW.2.2.1 _ _ _ rfl) (k_writeNewByte hW hD0 (by omega) (by omega)) (by decide) (Nat.le_of_ble_eq_true rfl) ?_
        rintro _ J1 ⟨rfl, hJ1⟩
        first
          | exact j99 _ _ _ (by rw [dW0, if_pos (by omega)]) (by rw [mI_ne (by decide)])
          | exact j99 _ _ _ (by rw [dW0, if_neg (by omega), if_pos (by omega)]; exact hJ1) (by rw [hJ1, mI_nj (by decide), mI_nj (by decide), mI_ne (by decide)])
          | exact j99 _ _ _ (by rw [dW0, if_neg (by omega), if_neg (by omega), if_pos (by omega)]) (mI_nj (by decide))
          | exact j99 _ _ _ (by rw [dW0, if_neg (by omega), if_neg (by omega), if_neg (by omega)]; exact hJ1) (by rw [hJ1, mI_ne (by decide)])
      · refine r_aload_n K dX1_makeNextWrite_82 rfl ?_
        refine r_iload_n K dX1_makeNextWrite_83 rfl ?_
        refine r_iconst K dX1_makeNextWrite_84 ?_
        refine r_idiv K dX1_makeNextWrite_85 (by omega) (by omega) ?_
        refine r_putI K dX1_makeNextWrite_86 f_X1_70 rfl rfl (Or.inl rfl) (by first | assumption | exact hW.1 _ _ rfl | exact hW.2.2.1 _ _ _ rfl) ?_
        refine r_goto K 99 dX1_makeNextWrite_89 (by decide) ?_
        first
          | exact j99 _ _ _ (by rw [dW0, if_pos (by omega)]) (by rw [mI_ne (by decide)])
          | exact j99 _ _ _ (by rw [dW0, if_neg (by omega), if_pos (by omega)]; exact hJ1) (by rw [hJ1, mI_nj (by decide), mI_nj (by decide), mI_ne (by decide)])
          | exact j99 _ _ _ (by rw [dW0, if_neg (by omega), if_neg (by omega), if_pos (by omega)]) (mI_nj (by decide))
          | exact j99 _ _ _ (by rw [dW0, if_neg (by omega), if_neg (by omega), if_neg (by omega)]; exact hJ1) (by rw [hJ1, mI_ne (by decide)])
    · refine r_aload_n K dX1_makeNextWrite_55 rfl ?_
      refine r_getR K dX1_makeNextWrite_56 f_X1_14 rfl (by first | assumption | exact hW.1 _ _ rfl | exact hW.2.2.1 _ _ _ rfl) (by first | assumption | exact hW.1 _ _ rfl | exact hW.2.2.1 _ _ _ rfl) ?_
      refine r_aload_n K dX1_makeNextWrite_59 rfl ?_
      refine r_getR K dX1_makeNextWrite_60 f_X1_23 rfl (by first | assumption | exact hW.1 _ _ rfl | exact hW.2.2.1 _ _ _ rfl) (by first | assumption | exact hW.1 _ _ rfl | exact hW.2.2.1 _ _ _ rfl) ?_
      refine r_getI K dX1_makeNextWrite_63 f_X1_80 rfl (by first | assumption | exact hW.1 _ _ rfl | exact hW.2.2.1 _ _ _ rfl) ?_
      refine r_putI K dX1_makeNextWrite_66 f_X1_34 rfl rfl (Or.inl rfl) (by first | assumption | exact hW.1 _ _ rfl | exact hW.2.2.1 _ _ _ rfl) ?_
      refine r_aload_n K dX1_makeNextWrite_69 rfl ?_
      refine rcV0i K dX1_makeNextWrite_70 c_X1_42 v_X1_endUpdate (by first | assumption | exact hW.1 _ _ rfl | exact hW.2.2.1 _ _ _ rfl) (k_endUpdate hW) (by decide) (Nat.le_of_ble_eq_true rfl) ?_
      rintro _ J1 ⟨rfl, hJ1⟩
      refine r_goto K 99 dX1_makeNextWrite_73 (by decide) ?_
      first
        | exact j99 _ _ _ (by rw [dW0, if_pos (by omega)]) (by rw [mI_ne (by decide)])
        | exact j99 _ _ _ (by rw [dW0, if_neg (by omega), if_pos (by omega)]; exact hJ1) (by rw [hJ1, mI_nj (by decide), mI_nj (by decide), mI_ne (by decide)])
        | exact j99 _ _ _ (by rw [dW0, if_neg (by omega), if_neg (by omega), if_pos (by omega)]) (mI_nj (by decide))
        | exact j99 _ _ _ (by rw [dW0, if_neg (by omega), if_neg (by omega), if_neg (by omega)]; exact hJ1) (by rw [hJ1, mI_ne (by decide)])
  · have b4q := b4 (I 41 6).toNat (by omega)
    refine r_aload_n K dX1_makeNextWrite_14 rfl ?_
    refine r_getR K dX1_makeNextWrite_15 f_X1_27 rfl (by first | assumption | exact hW.1 _ _ rfl | exact hW.2.2.1 _ _ _ rfl) (by first | assumption | exact hW.1 _ _ rfl | exact hW.2.2.1 _ _ _ rfl) ?_
    refine r_aload_n K dX1_makeNextWrite_18 rfl ?_
    refine r_getI K dX1_makeNextWrite_19 f_X1_67 rfl (by first | assumption | exact hW.1 _ _ rfl | exact hW.2.2.1 _ _ _ rfl) ?_
    refine r_iald K dX1_makeNextWrite_22 (by first | assumption | exact hW.1 _ _ rfl | exact hW.2.2.1 _ _ _ rfl) (by omega) (by omega) ?_
    refine r_istore_n K dX1_makeNextWrite_23 (by decide) ?_
    refine r_aload_n K dX1_makeNextWrite_24 rfl ?_
    refine r_getR K dX1_makeNextWrite_25 f_X1_31 rfl (by first | assumption | exact hW.1 _ _ rfl | exact hW.2.2.1 _ _ _ rfl) (by first | assumption | exact hW.1 _ _ rfl | exact hW.2.2.1 _ _ _ rfl) ?_
    refine r_iload_n K dX1_makeNextWrite_28 rfl ?_
    refine r_aload_n K dX1_makeNextWrite_29 rfl ?_
    refine r_getR K dX1_makeNextWrite_30 f_X1_14 rfl (by first | assumption | exact hW.1 _ _ rfl | exact hW.2.2.1 _ _ _ rfl) (by first | assumption | exact hW.1 _ _ rfl | exact hW.2.2.1 _ _ _ rfl) ?_
    refine r_getR K dX1_makeNextWrite_33 f_X1_90 rfl (by first | assumption | exact hW.1 _ _ rfl | exact hW.2.2.1 _ _ _ rfl) (by first | assumption | exact hW.1 _ _ rfl | exact hW.2.2.1 _ _ _ rfl) ?_
    refine r_iload_n K dX1_makeNextWrite_36 rfl ?_
    refine r_iald K dX1_makeNextWrite_37 (by first | assumption | exact hW.1 _ _ rfl | exact hW.2.2.1 _ _ _ rfl) (by omega) (by omega) ?_
    refine r_iast K dX1_makeNextWrite_38 (by first | assumption | exact hW.1 _ _ rfl | exact hW.2.2.1 _ _ _ rfl) (by omega) (by omega) ?_
    refine r_goto K 99 dX1_makeNextWrite_39 (by decide) ?_
    first
      | exact j99 _ _ _ (by rw [dW0, if_pos (by omega)]) (by rw [mI_ne (by decide)])
      | exact j99 _ _ _ (by rw [dW0, if_neg (by omega), if_pos (by omega)]; exact hJ1) (by rw [hJ1, mI_nj (by decide), mI_nj (by decide), mI_ne (by decide)])
      | exact j99 _ _ _ (by rw [dW0, if_neg (by omega), if_neg (by omega), if_pos (by omega)]) (mI_nj (by decide))
      | exact j99 _ _ _ (by rw [dW0, if_neg (by omega), if_neg (by omega), if_neg (by omega)]; exact hJ1) (by rw [hJ1, mI_ne (by decide)])
theorem dAll_keep {I J : Nat → Nat → Int} (h1 : J 41 4 = I 41 4) (h2 : J 44 = I 44) : dAll J = dAll I := by rw [dAll, dAll, h1, h2]
/-- a write keeps what holds, or ends the update -/
theorem DB.next (hD : DB I) : (dW I 41 9 = I 41 9 ∧ DB (dW I)) ∨ (dW I 41 9 = 0 ∧ dW I 41 10 = 0 ∧ dAll I ≤ I 41 6 + 1) := by
  obtain ⟨b1, b2, b3, b4, b5, b6, b7⟩ := hD
  have hall : dAll I = I 41 4 + 1 + 2 * I 44 3 + 1 := rfl
  by_cases c1 : I 41 6 - I 41 4 < 0
  · left
    have e : dW I = mI (mI I 49 (I 48 (I 41 6).toNat).toNat (I 43 (I 48 (I 41 6).toNat).toNat)) 41 6 (I 41 6 + 1) := by rw [dW, dW0, if_pos c1]
    have h48 := b4 (I 41 6).toNat (by omega)
    have g : ∀ c, c ≠ 41 → c ≠ 49 → dW I c = I c := fun c h1 h2 => by rw [e, mI_ne h1, mI_ne h2]
    have g41 : ∀ j, j ≠ 6 → dW I 41 j = I 41 j := fun j hj => by rw [e, mI_nj hj, mI_ne (by decide)]
    refine ⟨g41 9 (by decide), by rw [g41 4 (by decide)]; exact b1, ⟨by rw [e, mI_eq]; omega, ?_⟩, by rw [g 44 (by decide) (by decide)]; exact b3, by rw [g41 4 (by decide), g 48 (by decide) (by decide)]; exact b4, by rw [g 44 (by decide) (by decide), g 45 (by decide) (by decide), g 46 (by decide) (by decide)]; exact b5, fun j hj => ?_, by rw [g41 5 (by decide)]; exact b7⟩
    · rw [dAll_keep (g41 4 (by decide)) (g 44 (by decide) (by decide)), e, mI_eq]; omega
    · rw [g 43 (by decide) (by decide)]
      refine ⟨(b6 j hj).1, ?_⟩
      rw [e, mI_ne (by decide), mI_row]
      split
      · exact (b6 _ (by omega)).1
      · exact (b6 j hj).2
  · by_cases c2 : dAll I ≤ I 41 6 + 1
    · right
      have e : dW I = mI (mI (mI (mI I 42 1 (I 44 3)) 41 9 0) 41 10 0) 41 6 (I 41 6 + 1) := by rw [dW, dW0, if_neg c1, if_pos c2]
      refine ⟨by rw [e, mI_nj (by decide), mI_nj (by decide), mI_eq], by rw [e, mI_nj (by decide), mI_eq], c2⟩
    · left
      by_cases c3 : (I 41 6 - I 41 4) % 2 = 0
      · have e : dW I = mI (mI I 41 7 ((I 41 6 - I 41 4) / 2)) 41 6 (I 41 6 + 1) := by rw [dW, dW0, if_neg c1, if_neg c2, if_pos c3]
        have g : ∀ c, c ≠ 41 → dW I c = I c := fun c h1 => by rw [e, mI_ne h1, mI_ne h1]
        have g41 : ∀ j, j ≠ 6 → j ≠ 7 → dW I 41 j = I 41 j := fun j hj h7 => by rw [e, mI_nj hj, mI_nj h7]
        refine ⟨g41 9 (by decide) (by decide), by rw [g41 4 (by decide) (by decide)]; exact b1, ⟨by rw [e, mI_eq]; omega, ?_⟩, by rw [g 44 (by decide)]; exact b3, by rw [g41 4 (by decide) (by decide), g 48 (by decide)]; exact b4, by rw [g 44 (by decide), g 45 (by decide), g 46 (by decide)]; exact b5, fun j hj => ?_, by rw [g41 5 (by decide) (by decide)]; exact b7⟩
        · rw [dAll_keep (g41 4 (by decide) (by decide)) (g 44 (by decide)), e, mI_eq]; omega
        · rw [g 43 (by decide), g 49 (by decide)]; exact b6 j hj
      · have e : dW I = mI (mI I 43 (newQ I ((I 41 6 - I 41 4) / 2)).toNat ((oldB I (I 45 (newQ I ((I 41 6 - I 41 4) / 2)).toNat) + I 46 (newQ I ((I 41 6 - I 41 4) / 2)).toNat) % 256)) 41 6 (I 41 6 + 1) := by rw [dW, dW0, if_neg c1, if_neg c2, if_neg c3]
        have g : ∀ c, c ≠ 41 → c ≠ 43 → dW I c = I c := fun c h1 h2 => by rw [e, mI_ne h1, mI_ne h2]
        have g41 : ∀ j, j ≠ 6 → dW I 41 j = I 41 j := fun j hj => by rw [e, mI_nj hj, mI_ne (by decide)]
        refine ⟨g41 9 (by decide), by rw [g41 4 (by decide)]; exact b1, ⟨by rw [e, mI_eq]; omega, ?_⟩, by rw [g 44 (by decide) (by decide)]; exact b3, by rw [g41 4 (by decide), g 48 (by decide) (by decide)]; exact b4, by rw [g 44 (by decide) (by decide), g 45 (by decide) (by decide), g 46 (by decide) (by decide)]; exact b5, fun j hj => ?_, by rw [g41 5 (by decide)]; exact b7⟩
        · rw [dAll_keep (g41 4 (by decide)) (g 44 (by decide) (by decide)), e, mI_eq]; omega
        · rw [g 49 (by decide) (by decide)]
          refine ⟨?_, (b6 j hj).2⟩
          rw [e, mI_ne (by decide), mI_row]
          split
          · exact ⟨Int.emod_nonneg _ (by decide), Int.emod_lt_of_pos _ (by decide)⟩
          · exact (b6 j hj).1
/-- k writes, or as many as are left; and how many were made -/
def dIt : Nat → (Nat → Nat → Int) → (Nat → Nat → Int) × Nat
  | 0, I => (I, 0)
  | k + 1, I => if I 41 9 ≠ 0 then ((dIt k (dW I)).1, (dIt k (dW I)).2 + 1) else (I, 0)
theorem dW_8 (I : Nat → Nat → Int) : dW I 41 8 = I 41 8 := by
  unfold dW dW0
  split
  · rw [mI_nj (by decide), mI_ne (by decide)]
  · split
    · rw [mI_nj (by decide), mI_nj (by decide), mI_nj (by decide), mI_ne (by decide)]
    · split
      · rw [mI_nj (by decide), mI_nj (by decide)]
      · rw [mI_nj (by decide), mI_ne (by decide)]
theorem dIt_8 : ∀ (k : Nat) (I : Nat → Nat → Int), (dIt k I).1 41 8 = I 41 8 ∧ (dIt k I).2 ≤ k
  | 0, I => ⟨rfl, Nat.le_refl _⟩
  | k + 1, I => by
    rw [dIt]
    split
    · have := dIt_8 k (dW I)
      exact ⟨this.1.trans (dW_8 I), by simp only; omega⟩
    · exact ⟨rfl, by simp only; omega⟩
set_option maxHeartbeats 4000000 in
set_option maxRecDepth 100000 in
theorem k_makeWrites {n : Nat} (hW : Wd T L P) (hn1 : n ≤ 1000) (hD : I 41 9 ≠ 0 → DB I) (h8 : 0 ≤ I 41 8 ∧ I 41 8 ≤ 1000000000) : iX1_makeWrites [.inr (some 41), .inl (n : Int)] T L P I hn (fun r J => r = some (.inl ((dIt n I).2 : Nat)) ∧ J = mI (dIt n I).1 41 8 (I 41 8 + (dIt n I).2)) := by
  refine CT.by (by decide) (Nat.le_of_ble_eq_true rfl) fun X Y Q hQ K hv => ?_
  have i8 := dIt_8 n I
  have loop : ∀ (d k : Nat) (z : Int) (J : Nat → Nat → Int), z = k → k + d = n → (J 41 9 ≠ 0 → DB J) → (dIt d J).1 = (dIt n I).1 → k + (dIt d J).2 = (dIt n I).2 → RR X Y Q 0 0 2 [some (.inr (some 41)), some (.inl (n : Int)), some (.inl z)] [] T L P J hn := by
    intro d
    induction d with
    | zero =>
      intro k z J hz hk hDJ e1 e2
      subst hz
      have e1 : J = (dIt n I).1 := e1
      have e2 : k = (dIt n I).2 := e2
      refine r_iload_n K dX1_makeWrites_2 rfl ?_
      refine r_iload_n K dX1_makeWrites_3 rfl ?_
      refine r_icmp_ge K 24 dX1_makeWrites_4 (by decide) (fun c4 => ?_) (fun c4 => ?_)
      · refine r_aload_n K dX1_makeWrites_24 rfl ?_
        refine r_dup K dX1_makeWrites_25 ?_
        refine r_getI K dX1_makeWrites_26 f_X1_87 rfl (by first | assumption | exact hW.1 _ _ rfl | exact hW.2.2.1 _ _ _ rfl) ?_
        rw [e1, i8.1]
        refine r_iload_n K dX1_makeWrites_29 rfl ?_
        refine r_iadd K dX1_makeWrites_30 ?_
        refine r_putI K dX1_makeWrites_31 f_X1_87 rfl rfl (Or.inl rfl) (by first | assumption | exact hW.1 _ _ rfl | exact hW.2.2.1 _ _ _ rfl) ?_
        refine r_iload_n K dX1_makeWrites_34 rfl ?_
        exact q_iret K hQ rfl dX1_makeWrites_35 (Nat.le_refl _) (Nat.le_refl _) (⟨rfl, rfl, rfl, rfl, by rw [e2], by rw [e2]⟩)
      · exact absurd c4 (by omega)
    | succ d ih =>
      intro k z J hz hk hDJ e1 e2
      subst hz
      rw [dIt] at e1 e2
      refine r_iload_n K dX1_makeWrites_2 rfl ?_
      refine r_iload_n K dX1_makeWrites_3 rfl ?_
      refine r_icmp_ge K 24 dX1_makeWrites_4 (by decide) (fun c4 => ?_) (fun c4 => ?_)
      · exact absurd c4 (by omega)
      · refine r_aload_n K dX1_makeWrites_7 rfl ?_
        refine r_getI K dX1_makeWrites_8 f_X1_73 rfl (by first | assumption | exact hW.1 _ _ rfl | exact hW.2.2.1 _ _ _ rfl) ?_
        refine r_if_eq K 24 dX1_makeWrites_11 (by decide) (fun c11 => ?_) (fun c11 => ?_)
        · rw [if_neg (by omega)] at e1 e2
          have e1 : J = (dIt n I).1 := e1
          have e2 : k = (dIt n I).2 := e2
          refine r_aload_n K dX1_makeWrites_24 rfl ?_
          refine r_dup K dX1_makeWrites_25 ?_
          refine r_getI K dX1_makeWrites_26 f_X1_87 rfl (by first | assumption | exact hW.1 _ _ rfl | exact hW.2.2.1 _ _ _ rfl) ?_
          rw [e1, i8.1]
          refine r_iload_n K dX1_makeWrites_29 rfl ?_
          refine r_iadd K dX1_makeWrites_30 ?_
          refine r_putI K dX1_makeWrites_31 f_X1_87 rfl rfl (Or.inl rfl) (by first | assumption | exact hW.1 _ _ rfl | exact hW.2.2.1 _ _ _ rfl) ?_
          refine r_iload_n K dX1_makeWrites_34 rfl ?_
          exact q_iret K hQ rfl dX1_makeWrites_35 (Nat.le_refl _) (Nat.le_refl _) (⟨rfl, rfl, rfl, rfl, by rw [e2], by rw [e2]⟩)
        · rw [if_pos c11] at e1 e2
          have e1 : (dIt d (dW J)).1 = (dIt n I).1 := e1
          have e2 : k + ((dIt d (dW J)).2 + 1) = (dIt n I).2 := e2
          refine r_aload_n K dX1_makeWrites_14 rfl ?_
          refine rcV0i K dX1_makeWrites_15 c_X1_84 v_X1_makeNextWrite (by first | assumption | exact hW.1 _ _ rfl | exact hW.2.2.1 _ _ _ rfl) (k_makeNextWrite hW (hDJ c11)) (by decide) (Nat.le_of_ble_eq_true rfl) ?_
          rintro _ J1 ⟨rfl, hJ1⟩
          refine r_iinc K dX1_makeWrites_18 (by decide) rfl ?_
          refine r_goto K 2 dX1_makeWrites_21 (by decide) ?_
          subst hJ1
          exact ih (k + 1) _ _ (by omega) (by omega) (fun h => by
            rcases DB.next (hDJ c11) with q | q
            · exact q.2
            · exact absurd q.1 h) e1 (by omega)
  refine r_iconst K dX1_makeWrites_0 ?_
  refine r_istore_n K dX1_makeWrites_1 (by decide) ?_
  exact loop n 0 0 I rfl (by omega) hD rfl (by omega)
set_option maxHeartbeats 4000000 in
set_option maxRecDepth 100000 in
theorem k_resume (hW : Wd T L P) (h1 : 0 ≤ I 41 4 ∧ I 41 4 ≤ 1000) (h2 : -1 ≤ I 41 7 ∧ I 41 7 ≤ 1000) : iX1_resume [.inr (some 41)] T L P I hn (fun r J => r = none ∧ J = mI (mI I 41 10 0) 41 6 (if I 41 7 = -1 then 0 else I 41 4 + 1 + 2 * I 41 7)) := by
  refine CT.by (by decide) (Nat.le_of_ble_eq_true rfl) fun X Y Q hQ K hv => ?_
  refine r_aload_n K dX1_resume_0 rfl ?_
  refine r_iconst K dX1_resume_1 ?_
  refine r_putI K dX1_resume_2 f_X1_77 rfl rfl (Or.inr ⟨rfl, by first | exact Or.inl rfl | exact Or.inr rfl⟩) (by first | assumption | exact hW.1 _ _ rfl | exact hW.2.2.1 _ _ _ rfl) ?_
  refine r_aload_n K dX1_resume_5 rfl ?_
  refine r_aload_n K dX1_resume_6 rfl ?_
  refine r_getI K dX1_resume_7 f_X1_70 rfl (by first | assumption | exact hW.1 _ _ rfl | exact hW.2.2.1 _ _ _ rfl) ?_
  try simp only [mI_row, Nat.reduceEqDiff, if_false]
  refine r_iconst K dX1_resume_10 ?_
  refine r_icmp_ne K 18 dX1_resume_11 (by decide) (fun c11 => ?_) (fun c11 => ?_)
  · refine r_aload_n K dX1_resume_18 rfl ?_
    refine r_getI K dX1_resume_19 f_X1_60 rfl (by first | assumption | exact hW.1 _ _ rfl | exact hW.2.2.1 _ _ _ rfl) ?_
    try simp only [mI_row, Nat.reduceEqDiff, if_false]
    refine r_iconst K dX1_resume_22 ?_
    refine r_iadd K dX1_resume_23 ?_
    refine r_iconst K dX1_resume_24 ?_
    refine r_aload_n K dX1_resume_25 rfl ?_
    refine r_getI K dX1_resume_26 f_X1_70 rfl (by first | assumption | exact hW.1 _ _ rfl | exact hW.2.2.1 _ _ _ rfl) ?_
    try simp only [mI_row, Nat.reduceEqDiff, if_false]
    refine r_imul K dX1_resume_29 ?_
    refine r_iadd K dX1_resume_30 ?_
    refine r_putI K dX1_resume_31 f_X1_67 rfl rfl (Or.inl rfl) (by first | assumption | exact hW.1 _ _ rfl | exact hW.2.2.1 _ _ _ rfl) ?_
    exact q_vret K hQ rfl dX1_resume_34 (Nat.le_refl _) (Nat.le_refl _) (⟨rfl, rfl, rfl, rfl, rfl, by first | rw [if_pos c11] | rw [if_neg c11]⟩)
  · refine r_iconst K dX1_resume_14 ?_
    refine r_goto K 31 dX1_resume_15 (by decide) ?_
    refine r_putI K dX1_resume_31 f_X1_67 rfl rfl (Or.inl rfl) (by first | assumption | exact hW.1 _ _ rfl | exact hW.2.2.1 _ _ _ rfl) ?_
    exact q_vret K hQ rfl dX1_resume_34 (Nat.le_refl _) (Nat.le_refl _) (⟨rfl, rfl, rfl, rfl, rfl, by first | rw [if_pos c11] | rw [if_neg c11]⟩)
set_option maxHeartbeats 4000000 in
set_option maxRecDepth 100000 in
theorem k_areaByte {i : Int} (hW : Wd T L P) : pX1_areaByte [.inr (some 41), .inl i] T L P I hn (.inl (if 0 ≤ i ∧ i < 120 then I 43 i.toNat else -1)) := by
  refine CT.by (by decide) (Nat.le_of_ble_eq_true rfl) fun X Y Q hQ K hv => ?_
  have l43 : L 43 = 120 := hW.2.1 43 120 rfl (by decide)
  have l45 : L 45 = 120 := hW.2.1 45 120 rfl (by decide)
  have l46 : L 46 = 120 := hW.2.1 46 120 rfl (by decide)
  have l47 : L 47 = 120 := hW.2.1 47 120 rfl (by decide)
  have l48 : L 48 = 120 := hW.2.1 48 120 rfl (by decide)
  have l49 : L 49 = 120 := hW.2.1 49 120 rfl (by decide)
  refine r_iload_n K dX1_areaByte_0 rfl ?_
  refine r_if_lt K 22 dX1_areaByte_1 (by decide) (fun c1 => ?_) (fun c1 => ?_)
  · refine r_iconst K dX1_areaByte_22 ?_
    exact q_iret K hQ rfl dX1_areaByte_23 (Nat.le_refl _) (Nat.le_refl _) (⟨by first | rw [if_pos (by omega)] | rw [if_neg (by omega)], rfl, rfl, rfl, rfl, rfl⟩)
  · refine r_iload_n K dX1_areaByte_4 rfl ?_
    refine r_bipush K dX1_areaByte_5 ?_
    refine r_icmp_ge K 22 dX1_areaByte_7 (by decide) (fun c7 => ?_) (fun c7 => ?_)
    · refine r_iconst K dX1_areaByte_22 ?_
      exact q_iret K hQ rfl dX1_areaByte_23 (Nat.le_refl _) (Nat.le_refl _) (⟨by first | rw [if_pos (by omega)] | rw [if_neg (by omega)], rfl, rfl, rfl, rfl, rfl⟩)
    · refine r_aload_n K dX1_areaByte_10 rfl ?_
      refine r_getR K dX1_areaByte_11 f_X1_14 rfl (by first | assumption | exact hW.1 _ _ rfl | exact hW.2.2.1 _ _ _ rfl) (by first | assumption | exact hW.1 _ _ rfl | exact hW.2.2.1 _ _ _ rfl) ?_
      refine r_getR K dX1_areaByte_14 f_X1_90 rfl (by first | assumption | exact hW.1 _ _ rfl | exact hW.2.2.1 _ _ _ rfl) (by first | assumption | exact hW.1 _ _ rfl | exact hW.2.2.1 _ _ _ rfl) ?_
      refine r_iload_n K dX1_areaByte_17 rfl ?_
      refine r_iald K dX1_areaByte_18 (by first | assumption | exact hW.1 _ _ rfl | exact hW.2.2.1 _ _ _ rfl) (by omega) (by omega) ?_
      refine r_goto K 23 dX1_areaByte_19 (by decide) ?_
      exact q_iret K hQ rfl dX1_areaByte_23 (Nat.le_refl _) (Nat.le_refl _) (⟨by first | rw [if_pos (by omega)] | rw [if_neg (by omega)], rfl, rfl, rfl, rfl, rfl⟩)
end DEV
