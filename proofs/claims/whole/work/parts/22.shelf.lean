section SHE
variable {T L : Nat → Nat} {P : Nat → Nat → Option Nat} {I : Nat → Nat → Int} {hn : Nat}
theorem Wd.ver (hW : Wd T L P) {v : Nat} (h : v < 5) : P 7 v = some (18 + 2 * v) ∧ T (18 + 2 * v) = 0 ∧ P (18 + 2 * v) 0 = some (19 + 2 * v) ∧ T (19 + 2 * v) = 10 ∧ L (19 + 2 * v) = 120 := by
  match v, h with
  | 0, _ => exact ⟨hW.2.2.1 _ _ _ rfl, hW.1 _ _ rfl, hW.2.2.1 _ _ _ rfl, hW.1 _ _ rfl, hW.2.1 _ _ rfl (by decide)⟩
  | 1, _ => exact ⟨hW.2.2.1 _ _ _ rfl, hW.1 _ _ rfl, hW.2.2.1 _ _ _ rfl, hW.1 _ _ rfl, hW.2.1 _ _ rfl (by decide)⟩
  | 2, _ => exact ⟨hW.2.2.1 _ _ _ rfl, hW.1 _ _ rfl, hW.2.2.1 _ _ _ rfl, hW.1 _ _ rfl, hW.2.1 _ _ rfl (by decide)⟩
  | 3, _ => exact ⟨hW.2.2.1 _ _ _ rfl, hW.1 _ _ rfl, hW.2.2.1 _ _ _ rfl, hW.1 _ _ rfl, hW.2.1 _ _ rfl (by decide)⟩
  | 4, _ => exact ⟨hW.2.2.1 _ _ _ rfl, hW.1 _ _ rfl, hW.2.2.1 _ _ _ rfl, hW.1 _ _ rfl, hW.2.1 _ _ rfl (by decide)⟩
  | n + 5, h => exact absurd h (by omega)
/-- has the shelf a version v -/
abbrev hasV (I : Nat → Nat → Int) (v : Int) : Prop := 0 ≤ v ∧ v < 5 ∧ 0 < I (18 + 2 * v.toNat) 1

set_option maxHeartbeats 4000000 in
set_option maxRecDepth 100000 in
theorem k_has {v : Int} (hW : Wd T L P) : pX5_has [.inr (some 6), .inl v] T L P I hn (.inl (if hasV I v then 1 else 0)) := by
  refine CT.by (by decide) (Nat.le_of_ble_eq_true rfl) fun X Y Q hQ K hv => ?_
  have l7 : L 7 = 5 := hW.2.1 7 5 rfl (by decide)
  refine r_iload_n K dX5_has_0 rfl ?_
  refine r_if_lt K 25 dX5_has_1 (by decide) (fun c1 => ?_) (fun c1 => ?_)
  · refine r_iconst K dX5_has_25 ?_
    exact q_zret K hQ rfl dX5_has_26 (by first | exact Or.inl rfl | exact Or.inr rfl) (Nat.le_refl _) (Nat.le_refl _) (⟨by first | rw [if_pos (by omega)] | rw [if_neg (by omega)], rfl, rfl, rfl, rfl, rfl⟩)
  · refine r_iload_n K dX5_has_4 rfl ?_
    refine r_iconst K dX5_has_5 ?_
    refine r_icmp_ge K 25 dX5_has_6 (by decide) (fun c6 => ?_) (fun c6 => ?_)
    · refine r_iconst K dX5_has_25 ?_
      exact q_zret K hQ rfl dX5_has_26 (by first | exact Or.inl rfl | exact Or.inr rfl) (Nat.le_refl _) (Nat.le_refl _) (⟨by first | rw [if_pos (by omega)] | rw [if_neg (by omega)], rfl, rfl, rfl, rfl, rfl⟩)
    · refine r_aload_n K dX5_has_9 rfl ?_
      refine r_getR K dX5_has_10 f_X5_11 rfl (by first | assumption | exact hW.1 _ _ rfl | exact hW.2.2.1 _ _ _ rfl) (by first | assumption | exact hW.1 _ _ rfl | exact hW.2.2.1 _ _ _ rfl) ?_
      refine r_iload_n K dX5_has_13 rfl ?_
      refine r_aald K dX5_has_14 (by first | exact Or.inl (by first | assumption | exact hW.1 _ _ rfl | exact hW.2.2.1 _ _ _ rfl) | exact Or.inr (by first | assumption | exact hW.1 _ _ rfl | exact hW.2.2.1 _ _ _ rfl)) (by omega) (by omega) ?_
      obtain ⟨w1, w2, w3, w4, w5⟩ := hW.ver (v := v.toNat) (by omega)
      rw [w1]
      refine r_getI K dX5_has_15 f_X5_37 rfl (by first | assumption | exact hW.1 _ _ rfl | exact hW.2.2.1 _ _ _ rfl) ?_
      refine r_if_le K 25 dX5_has_18 (by decide) (fun c18 => ?_) (fun c18 => ?_)
      · refine r_iconst K dX5_has_25 ?_
        exact q_zret K hQ rfl dX5_has_26 (by first | exact Or.inl rfl | exact Or.inr rfl) (Nat.le_refl _) (Nat.le_refl _) (⟨by first | rw [if_pos (by omega)] | rw [if_neg (by omega)], rfl, rfl, rfl, rfl, rfl⟩)
      · refine r_iconst K dX5_has_21 ?_
        refine r_goto K 26 dX5_has_22 (by decide) ?_
        exact q_zret K hQ rfl dX5_has_26 (by first | exact Or.inl rfl | exact Or.inr rfl) (Nat.le_refl _) (Nat.le_refl _) (⟨by first | rw [if_pos (by omega)] | rw [if_neg (by omega)], rfl, rfl, rfl, rfl, rfl⟩)
set_option maxHeartbeats 4000000 in
set_option maxRecDepth 100000 in
theorem k_bytesOf {v : Nat} (hW : Wd T L P) (hv : v < 5) : pX5_bytesOf [.inr (some 6), .inl (v : Int)] T L P I hn (.inr (some (18 + 2 * v))) := by
  refine CT.by (by decide) (Nat.le_of_ble_eq_true rfl) fun X Y Q hQ K hvv => ?_
  have l7 : L 7 = 5 := hW.2.1 7 5 rfl (by decide)
  refine r_aload_n K dX5_bytesOf_0 rfl ?_
  refine r_getR K dX5_bytesOf_1 f_X5_11 rfl (by first | assumption | exact hW.1 _ _ rfl | exact hW.2.2.1 _ _ _ rfl) (by first | assumption | exact hW.1 _ _ rfl | exact hW.2.2.1 _ _ _ rfl) ?_
  refine r_iload_n K dX5_bytesOf_4 rfl ?_
  refine r_aald K dX5_bytesOf_5 (by first | exact Or.inl (by first | assumption | exact hW.1 _ _ rfl | exact hW.2.2.1 _ _ _ rfl) | exact Or.inr (by first | assumption | exact hW.1 _ _ rfl | exact hW.2.2.1 _ _ _ rfl)) (by omega) (by omega) ?_
  rw [Int.toNat_natCast, (hW.ver hv).1]
  exact q_aret K hQ rfl dX5_bytesOf_6 (Nat.le_refl _) (Nat.le_refl _) (⟨rfl, rfl, rfl, rfl, rfl, rfl⟩)
def gre (c : Nat → Int) : Nat → Int
  | 0 => -1
  | k + 1 => if 0 < c k then k else gre c k
theorem gre_in (c : Nat → Int) : ∀ k, -1 ≤ gre c k ∧ gre c k < k ∧ (0 ≤ gre c k → 0 < c (gre c k).toNat) ∧ (∀ j : Nat, j < k → gre c k < j → ¬ 0 < c j)
  | 0 => ⟨by simp [gre], by simp [gre], fun h => absurd h (by simp [gre]), fun j h => absurd h (by omega)⟩
  | k + 1 => by
    have ih := gre_in c k
    simp only [gre]
    split
    · rename_i h
      exact ⟨by omega, by omega, fun _ => by rw [Int.toNat_natCast]; exact h, fun j h1 h2 => by omega⟩
    · rename_i h
      refine ⟨by omega, by omega, ih.2.2.1, fun j h1 h2 => ?_⟩
      rcases Nat.lt_or_ge j k with e | e
      · exact ih.2.2.2 j e h2
      · have : j = k := by omega
        subst this; exact h
/-- the greatest version there is, or -1 -/
abbrev grV (I : Nat → Nat → Int) : Int := gre (fun v => I (18 + 2 * v) 1) 5
set_option maxHeartbeats 4000000 in
set_option maxRecDepth 100000 in
theorem k_X5_greatest (hW : Wd T L P) : pX5_greatest [.inr (some 6)] T L P I hn (.inl (grV I)) := by
  refine CT.by (by decide) (Nat.le_of_ble_eq_true rfl) fun X Y Q hQ K hv => ?_
  have loop : ∀ (k : Nat) (z : Int), z = (k : Int) - 1 → k ≤ 5 → gre (fun v => I (18 + 2 * v) 1) k = grV I → RR X Y Q 0 0 2 [some (.inr (some 6)), some (.inl z)] [] T L P I hn := by
    intro k
    induction k with
    | zero =>
      intro z hz hk he
      refine r_iload_n K dX5_greatest_2 rfl ?_
      refine r_if_lt K 22 dX5_greatest_3 (by decide) (fun c3 => ?_) (fun c3 => ?_)
      · refine r_iconst K dX5_greatest_22 ?_
        exact q_iret K hQ rfl dX5_greatest_23 (Nat.le_refl _) (Nat.le_refl _) (⟨by rw [← he]; rfl, rfl, rfl, rfl, rfl, rfl⟩)
      · exact absurd c3 (by omega)
    | succ k ih =>
      intro z hz hk he
      have hz : z = k := by omega
      subst hz
      rw [gre] at he
      refine r_iload_n K dX5_greatest_2 rfl ?_
      refine r_if_lt K 22 dX5_greatest_3 (by decide) (fun c3 => ?_) (fun c3 => ?_)
      · exact absurd c3 (by omega)
      · refine r_aload_n K dX5_greatest_6 rfl ?_
        refine r_iload_n K dX5_greatest_7 rfl ?_
        refine rcV1p K dX5_greatest_8 c_X5_41 v_X5_has (hW.1 6 5 rfl) (k_has hW) (by decide) (Nat.le_of_ble_eq_true rfl) ?_
        refine r_if_eq K 16 dX5_greatest_11 (by decide) (fun c11 => ?_) (fun c11 => ?_)
        · have hno : ¬ 0 < I (18 + 2 * k) 1 := fun h => by
            rw [if_pos ⟨by omega, by omega, by rw [Int.toNat_natCast]; exact h⟩] at c11; exact absurd c11 (by decide)
          rw [if_neg hno] at he
          refine r_iinc K dX5_greatest_16 (by decide) rfl ?_
          refine r_goto K 2 dX5_greatest_19 (by decide) ?_
          exact ih _ (by omega) (by omega) he
        · have hyes : 0 < I (18 + 2 * k) 1 := by
            by_cases h : hasV I k
            · have := h.2.2; rw [Int.toNat_natCast] at this; exact this
            · rw [if_neg h] at c11; exact absurd rfl c11
          rw [if_pos hyes] at he
          refine r_iload_n K dX5_greatest_14 rfl ?_
          exact q_iret K hQ rfl dX5_greatest_15 (Nat.le_refl _) (Nat.le_refl _) (⟨by rw [← he], rfl, rfl, rfl, rfl, rfl⟩)
  refine r_iconst K dX5_greatest_0 ?_
  refine r_istore_n K dX5_greatest_1 (by decide) ?_
  exact loop 5 4 rfl (Nat.le_refl _) rfl
set_option maxHeartbeats 4000000 in
set_option maxRecDepth 100000 in
theorem k_replace {v : Nat} {b w : Nat} {n : Int} (hW : Wd T L P) (hv : v < 5) (g1 : T b = 0) (g2 : P b 0 = some w) (g3 : T w = 10) (h5 : 0 ≤ n) (h6 : n ≤ 120) (h7 : n ≤ I b 1) (h8 : I b 1 ≤ L w) : iX5_replace [.inr (some 6), .inl (v : Int), .inr (some b), .inl n] T L P I hn (fun r J => r = none ∧ ∃ J0, J0 = mI (mR I (19 + 2 * v) (fun j => if j < n.toNat then I w j else if j < 120 then 0 else I (19 + 2 * v) j)) (18 + 2 * v) 1 n ∧ (∀ c, c ≠ 9 → J c = J0 c) ∧ ∀ j, J 9 j = if j < 25 ∧ (j / 5 = v ∨ j % 5 = v) then 0 else J0 9 j) := by
  refine CT.by (by decide) (Nat.le_of_ble_eq_true rfl) fun X Y Q hQ K hvv => ?_
  have l7 : L 7 = 5 := hW.2.1 7 5 rfl (by decide)
  have l9 : L 9 = 25 := hW.2.1 9 25 rfl (by decide)
  obtain ⟨w1, w2, w3, w4, w5⟩ := hW.ver hv
  have htf := k_takeFirst (T := T) (L := L) (P := P) (I := I) (hn := hn) (n := n) w2 w3 w4 (by omega) g1 g2 g3 h5 (by omega) h7 h8
  rw [w5] at htf
  have loop : ∀ (J0 : Nat → Nat → Int) (d i : Nat) (z : Int) (J : Nat → Nat → Int), J0 = mI (mR I (19 + 2 * v) (fun j => if j < n.toNat then I w j else if j < 120 then 0 else I (19 + 2 * v) j)) (18 + 2 * v) 1 n → z = i → 5 - i = d → i ≤ 5 → (∀ c, c ≠ 9 → J c = J0 c) → (∀ j, J 9 j = if j < 25 ∧ ((j / 5 = v ∧ j % 5 < i) ∨ (j % 5 = v ∧ j / 5 < i)) then 0 else J0 9 j) → RR X Y Q 0 0 14 [some (.inr (some 6)), some (.inl (v : Int)), some (.inr (some b)), some (.inl n), some (.inl z)] [] T L P J hn := by
    intro J0 d
    induction d using Nat.strongRecOn with
    | ind d ih =>
      intro i z J hJ0 hz hd hi hfr hrow
      subst hz
      refine r_iload K dX5_replace_14 rfl ?_
      refine r_iconst K dX5_replace_16 ?_
      refine r_icmp_ge K 50 dX5_replace_17 (by decide) (fun c17 => ?_) (fun c17 => ?_)
      · exact q_vret K hQ rfl dX5_replace_50 (Nat.le_refl _) (Nat.le_refl _) (⟨rfl, rfl, rfl, rfl, rfl, J0, hJ0, hfr, fun j => by
          rw [hrow j]
          by_cases e : j < 25 ∧ (j / 5 = v ∨ j % 5 = v)
          · rw [if_pos e, if_pos (by omega)]
          · rw [if_neg e, if_neg (by omega)]⟩)
      · refine r_aload_n K dX5_replace_20 rfl ?_
        refine r_getR K dX5_replace_21 f_X5_23 rfl (by first | assumption | exact hW.1 _ _ rfl | exact hW.2.2.1 _ _ _ rfl) (by first | assumption | exact hW.1 _ _ rfl | exact hW.2.2.1 _ _ _ rfl) ?_
        refine r_iload_n K dX5_replace_24 rfl ?_
        refine r_iconst K dX5_replace_25 ?_
        refine r_imul K dX5_replace_26 ?_
        refine r_iload K dX5_replace_27 rfl ?_
        refine r_iadd K dX5_replace_29 ?_
        refine r_iconst K dX5_replace_30 ?_
        refine r_zast K dX5_replace_31 (by first | assumption | exact hW.1 _ _ rfl | exact hW.2.2.1 _ _ _ rfl) (by omega) (by omega) (by first | exact Or.inl rfl | exact Or.inr rfl) ?_
        refine r_aload_n K dX5_replace_32 rfl ?_
        refine r_getR K dX5_replace_33 f_X5_23 rfl (by first | assumption | exact hW.1 _ _ rfl | exact hW.2.2.1 _ _ _ rfl) (by first | assumption | exact hW.1 _ _ rfl | exact hW.2.2.1 _ _ _ rfl) ?_
        refine r_iload K dX5_replace_36 rfl ?_
        refine r_iconst K dX5_replace_38 ?_
        refine r_imul K dX5_replace_39 ?_
        refine r_iload_n K dX5_replace_40 rfl ?_
        refine r_iadd K dX5_replace_41 ?_
        refine r_iconst K dX5_replace_42 ?_
        refine r_zast K dX5_replace_43 (by first | assumption | exact hW.1 _ _ rfl | exact hW.2.2.1 _ _ _ rfl) (by omega) (by omega) (by first | exact Or.inl rfl | exact Or.inr rfl) ?_
        refine r_iinc K dX5_replace_44 (by decide) rfl ?_
        refine r_goto K 14 dX5_replace_47 (by decide) ?_
        refine ih _ (by omega) (i + 1) _ _ hJ0 (by omega) rfl (by omega) (fun c hc => by rw [mI_ne hc, mI_ne hc]; exact hfr c hc) (fun j => ?_)
        rw [mI_row, mI_row, hrow j]
        by_cases e1 : j = ((i : Int) * 5 + (v : Int)).toNat
        · rw [if_pos e1, if_pos (by omega)]
        · rw [if_neg e1]
          by_cases e2 : j = ((v : Int) * 5 + (i : Int)).toNat
          · rw [if_pos e2, if_pos (by omega)]
          · rw [if_neg e2]
            by_cases e : j < 25 ∧ ((j / 5 = v ∧ j % 5 < i) ∨ (j % 5 = v ∧ j / 5 < i))
            · rw [if_pos e, if_pos (by omega)]
            · rw [if_neg e, if_neg (by omega)]
  refine r_aload_n K dX5_replace_0 rfl ?_
  refine r_getR K dX5_replace_1 f_X5_11 rfl (by first | assumption | exact hW.1 _ _ rfl | exact hW.2.2.1 _ _ _ rfl) (by first | assumption | exact hW.1 _ _ rfl | exact hW.2.2.1 _ _ _ rfl) ?_
  refine r_iload_n K dX5_replace_4 rfl ?_
  refine r_aald K dX5_replace_5 (by first | exact Or.inl (by first | assumption | exact hW.1 _ _ rfl | exact hW.2.2.1 _ _ _ rfl) | exact Or.inr (by first | assumption | exact hW.1 _ _ rfl | exact hW.2.2.1 _ _ _ rfl)) (by omega) (by omega) ?_
  rw [Int.toNat_natCast, w1]
  refine r_aload_n K dX5_replace_6 rfl ?_
  refine r_iload_n K dX5_replace_7 rfl ?_
  refine rcV2i K dX5_replace_8 c_X5_45 v_X0_takeFirst (by first | assumption | exact hW.1 _ _ rfl | exact hW.2.2.1 _ _ _ rfl) htf (by decide) (Nat.le_of_ble_eq_true rfl) ?_
  rintro _ J1 ⟨rfl, hJ1⟩
  refine r_iconst K dX5_replace_11 ?_
  refine r_istore K dX5_replace_12 (by decide) ?_
  exact loop J1 _ 0 0 J1 hJ1 rfl rfl (by omega) (fun _ _ => rfl) (fun j => by rw [if_neg (by omega)])
end SHE
