/-! the model -/
theorem zByte_b (x : Int) : zByte x = x.bmod 256 := by
  unfold zByte
  rw [Int8.toInt_toInt32, Int32.toInt_toInt8, Int32.toInt_ofInt]
  have e1 : Int32.size = 4294967296 := rfl
  have e2 : (2 : Nat) ^ 8 = 256 := rfl
  rw [e1]
  first
  | (rw [e2]; exact Int.bmod_bmod_of_dvd (by decide))
  | exact Int.bmod_bmod_of_dvd (by decide)
theorem zByte_m (x : Int) : zByte x % 256 = x % 256 := by rw [zByte_b]; exact Int.bmod_emod
theorem zByte_in (x : Int) : -128 ≤ zByte x ∧ zByte x < 128 := by
  rw [zByte_b]
  have h1 := Int.le_bmod (x := x) (m := 256) (by decide)
  have h2 := Int.bmod_lt (x := x) (m := 256) (by decide)
  omega
theorem zByte_id {x : Int} (h : -128 ≤ x ∧ x < 128) : zByte x = x := by
  rw [zByte_b]
  exact Int.bmod_eq_of_le_mul_two (by omega) (by omega)
theorem zShr_d {x y : Int} {j : Nat} (hx : rg x) (hy : ((Int32.ofInt y &&& 31).toBitVec.smod 32).toNat = j) : zShr x y = x / 2 ^ j := by
  unfold zShr
  have e : (Int32.ofInt x >>> (Int32.ofInt y &&& 31)).toInt = ((Int32.ofInt x).toBitVec.sshiftRight (((Int32.ofInt y &&& 31).toBitVec.smod 32).toNat)).toInt := rfl
  have e2 : (Int32.ofInt x).toBitVec.toInt = x := oi_toInt hx
  rw [e, hy, BitVec.toInt_sshiftRight, e2, Int.shiftRight_eq_div_pow]
  rfl
theorem zsb {x : Int} (hx : rg x) {k : Nat} (hk : k < 4) : zByte (zShr x (24 - 8 * (k : Int))) % 256 = byt x k := by
  rw [zByte_m]
  unfold byt
  match k, hk with
  | 0, _ => rw [zShr_d (j := 24) hx (by decide)]; rfl
  | 1, _ => rw [zShr_d (j := 16) hx (by decide)]; rfl
  | 2, _ => rw [zShr_d (j := 8) hx (by decide)]; rfl
  | 3, _ => rw [zShr_d (j := 0) hx (by decide)]; rfl
section MO1
variable {T L : Nat → Nat} {P : Nat → Nat → Option Nat} {I : Nat → Nat → Int} {hn : Nat}
/-- version v is there, for the model -/
abbrev hasM (I : Nat → Nat → Int) (v : Int) : Prop := 0 ≤ v ∧ v < 5 ∧ 0 < I 57 v.toNat
/-- the bytes of the model's version v -/
abbrev mBy (I : Nat → Nat → Int) (v : Nat) : Nat → Int := fun i => I 56 (120 * v + i) % 256
/-- what always holds of the model's versions -/
def MV (I : Nat → Nat → Int) : Prop := (∀ v, v < 5 → 0 ≤ I 57 v ∧ I 57 v ≤ 120) ∧ ∀ j, -128 ≤ I 56 j ∧ I 56 j < 128
theorem MV.cong {J : Nat → Nat → Int} (h : MV I) (e6 : J 56 = I 56) (e7 : J 57 = I 57) : MV J := by unfold MV; rw [e6, e7]; exact h
set_option maxHeartbeats 4000000 in
set_option maxRecDepth 100000 in
theorem k_isIn {v a b : Int} : pX8_isIn [.inl v, .inl a, .inl b] T L P I hn (.inl (if a ≤ v ∧ v ≤ b then 1 else 0)) := by
  refine CT.by (by decide) (Nat.le_of_ble_eq_true rfl) fun X Y Q hQ K hv => ?_
  refine r_iload_n K dX8_isIn_0 rfl ?_
  refine r_iload_n K dX8_isIn_1 rfl ?_
  refine r_icmp_lt K 14 dX8_isIn_2 (by decide) (fun c2 => ?_) (fun c2 => ?_)
  · refine r_iconst K dX8_isIn_14 ?_
    exact q_zret K hQ rfl dX8_isIn_15 (by first | exact Or.inl rfl | exact Or.inr rfl) (Nat.le_refl _) (Nat.le_refl _) (⟨by first | rw [if_pos (by omega)] | rw [if_neg (by omega)], rfl, rfl, rfl, rfl, rfl⟩)
  · refine r_iload_n K dX8_isIn_5 rfl ?_
    refine r_iload_n K dX8_isIn_6 rfl ?_
    refine r_icmp_gt K 14 dX8_isIn_7 (by decide) (fun c7 => ?_) (fun c7 => ?_)
    · refine r_iconst K dX8_isIn_14 ?_
      exact q_zret K hQ rfl dX8_isIn_15 (by first | exact Or.inl rfl | exact Or.inr rfl) (Nat.le_refl _) (Nat.le_refl _) (⟨by first | rw [if_pos (by omega)] | rw [if_neg (by omega)], rfl, rfl, rfl, rfl, rfl⟩)
    · refine r_iconst K dX8_isIn_10 ?_
      refine r_goto K 15 dX8_isIn_11 (by decide) ?_
      exact q_zret K hQ rfl dX8_isIn_15 (by first | exact Or.inl rfl | exact Or.inr rfl) (Nat.le_refl _) (Nat.le_refl _) (⟨by first | rw [if_pos (by omega)] | rw [if_neg (by omega)], rfl, rfl, rfl, rfl, rfl⟩)
set_option maxHeartbeats 4000000 in
set_option maxRecDepth 100000 in
theorem k_isVersion {v : Int} (hW : Wd T L P) : pX8_isVersion [.inr (some 54), .inl v] T L P I hn (.inl (if hasM I v then 1 else 0)) := by
  refine CT.by (by decide) (Nat.le_of_ble_eq_true rfl) fun X Y Q hQ K hv => ?_
  have l57 : L 57 = 5 := hW.2.1 57 5 rfl (by decide)
  refine r_iload_n K dX8_isVersion_0 rfl ?_
  refine r_iconst K dX8_isVersion_1 ?_
  refine r_iconst K dX8_isVersion_2 ?_
  refine rcS3p K dX8_isVersion_3 c_X8_99 s_X8_isIn k_isIn (by decide) (Nat.le_of_ble_eq_true rfl) ?_
  refine r_if_eq K 22 dX8_isVersion_6 (by decide) (fun c6 => ?_) (fun c6 => ?_)
  · have h1 : ¬ (0 ≤ v ∧ v ≤ 4) := fun q => by rw [if_pos q] at c6; exact absurd c6 (by decide)
    refine r_iconst K dX8_isVersion_22 ?_
    exact q_zret K hQ rfl dX8_isVersion_23 (by first | exact Or.inl rfl | exact Or.inr rfl) (Nat.le_refl _) (Nat.le_refl _) (⟨by first | rw [if_pos (by omega)] | rw [if_neg (by omega)], rfl, rfl, rfl, rfl, rfl⟩)
  · have h1 : 0 ≤ v ∧ v ≤ 4 := by
      by_cases q : 0 ≤ v ∧ v ≤ 4
      · exact q
      · rw [if_neg q] at c6; exact absurd rfl c6
    refine r_aload_n K dX8_isVersion_9 rfl ?_
    refine r_getR K dX8_isVersion_10 f_X8_16 rfl (by first | assumption | exact hW.1 _ _ rfl | exact hW.2.2.1 _ _ _ rfl) (by first | assumption | exact hW.1 _ _ rfl | exact hW.2.2.1 _ _ _ rfl) ?_
    refine r_iload_n K dX8_isVersion_13 rfl ?_
    refine r_iald K dX8_isVersion_14 (by first | assumption | exact hW.1 _ _ rfl | exact hW.2.2.1 _ _ _ rfl) (by omega) (by omega) ?_
    refine r_if_le K 22 dX8_isVersion_15 (by decide) (fun c15 => ?_) (fun c15 => ?_)
    · refine r_iconst K dX8_isVersion_22 ?_
      exact q_zret K hQ rfl dX8_isVersion_23 (by first | exact Or.inl rfl | exact Or.inr rfl) (Nat.le_refl _) (Nat.le_refl _) (⟨by first | rw [if_pos (by omega)] | rw [if_neg (by omega)], rfl, rfl, rfl, rfl, rfl⟩)
    · refine r_iconst K dX8_isVersion_18 ?_
      refine r_goto K 23 dX8_isVersion_19 (by decide) ?_
      exact q_zret K hQ rfl dX8_isVersion_23 (by first | exact Or.inl rfl | exact Or.inr rfl) (Nat.le_refl _) (Nat.le_refl _) (⟨by first | rw [if_pos (by omega)] | rw [if_neg (by omega)], rfl, rfl, rfl, rfl, rfl⟩)
/-- four bytes are behind the model's tape -/
def mp4 (I : Nat → Nat → Int) (c : Nat) (x : Int) (J : Nat → Nat → Int) : Prop := (∀ k, k ≠ 54 → k ≠ 55 → J k = I k) ∧ (∀ j, j ≠ 1 → J 54 j = I 54 j) ∧ J 54 1 = (c : Int) + 4 ∧ (∀ j, j < c ∨ c + 4 ≤ j → J 55 j = I 55 j) ∧ ∀ j, j < 4 → J 55 (c + j) % 256 = byt x j ∧ -128 ≤ J 55 (c + j) ∧ J 55 (c + j) < 128
set_option maxHeartbeats 4000000 in
set_option maxRecDepth 100000 in
theorem k_four {c : Nat} {x : Int} (hW : Wd T L P) (hc : I 54 1 = c) (hc1 : c + 4 ≤ 200) : iX8_four [.inr (some 54), .inl x] T L P I hn (fun r J => r = none ∧ mp4 I c x J) := by
  refine CT.by (by decide) (Nat.le_of_ble_eq_true rfl) fun X Y Q hQ K hv => ?_
  have l55 : L 55 = 200 := hW.2.1 55 200 rfl (by decide)
  have hx : rg x := hv (.inl x) (List.mem_cons_of_mem _ List.mem_cons_self)
  have loop : ∀ (d k : Nat) (z : Int) (J : Nat → Nat → Int), z = 24 - 8 * (k : Int) → k + d = 4 → (∀ q, q ≠ 54 → q ≠ 55 → J q = I q) → (∀ j, j ≠ 1 → J 54 j = I 54 j) → J 54 1 = (c : Int) + k → (∀ j, j < c ∨ c + k ≤ j → J 55 j = I 55 j) → (∀ j, j < k → J 55 (c + j) % 256 = byt x j ∧ -128 ≤ J 55 (c + j) ∧ J 55 (c + j) < 128) → RR X Y Q 0 0 3 [some (.inr (some 54)), some (.inl x), some (.inl z)] [] T L P J hn := by
    intro d
    induction d with
    | zero =>
      intro k z J hz hd h1 h2 h3 h4 h5
      have hk : k = 4 := by omega
      subst hk
      refine r_iload_n K dX8_four_3 rfl ?_
      refine r_if_lt K 36 dX8_four_4 (by decide) (fun c4 => ?_) (fun c4 => ?_)
      · exact q_vret K hQ rfl dX8_four_36 (Nat.le_refl _) (Nat.le_refl _) (⟨rfl, rfl, rfl, rfl, rfl, h1, h2, by rw [h3]; rfl, h4, h5⟩)
      · exact absurd c4 (by omega)
    | succ d ih =>
      intro k z J hz hd h1 h2 h3 h4 h5
      refine r_iload_n K dX8_four_3 rfl ?_
      refine r_if_lt K 36 dX8_four_4 (by decide) (fun c4 => ?_) (fun c4 => ?_)
      · exact absurd c4 (by omega)
      · refine r_aload_n K dX8_four_7 rfl ?_
        refine r_getR K dX8_four_8 f_X8_7 rfl (by first | assumption | exact hW.1 _ _ rfl | exact hW.2.2.1 _ _ _ rfl) (by first | assumption | exact hW.1 _ _ rfl | exact hW.2.2.1 _ _ _ rfl) ?_
        refine r_aload_n K dX8_four_11 rfl ?_
        refine r_getI K dX8_four_12 f_X8_103 rfl (by first | assumption | exact hW.1 _ _ rfl | exact hW.2.2.1 _ _ _ rfl) ?_
        rw [h3]
        refine r_iload_n K dX8_four_15 rfl ?_
        refine r_iload_n K dX8_four_16 rfl ?_
        refine r_ishr K dX8_four_17 ?_
        refine r_i2b K dX8_four_18 ?_
        refine r_bast K dX8_four_19 (by first | assumption | exact hW.1 _ _ rfl | exact hW.2.2.1 _ _ _ rfl) (by omega) (by omega) ?_
        rw [show ((c : Int) + k).toNat = c + k by omega, zByte_id (zByte_in _)]
        refine r_aload_n K dX8_four_20 rfl ?_
        refine r_dup K dX8_four_21 ?_
        refine r_getI K dX8_four_22 f_X8_103 rfl (by first | assumption | exact hW.1 _ _ rfl | exact hW.2.2.1 _ _ _ rfl) ?_
        rw [mI_ne (by decide), h3]
        refine r_iconst K dX8_four_25 ?_
        refine r_iadd K dX8_four_26 ?_
        refine r_putI K dX8_four_27 f_X8_103 rfl rfl (Or.inl rfl) (by first | assumption | exact hW.1 _ _ rfl | exact hW.2.2.1 _ _ _ rfl) ?_
        refine r_iinc K dX8_four_30 (by decide) rfl ?_
        refine r_goto K 3 dX8_four_33 (by decide) ?_
        refine ih (k + 1) _ _ (by omega) (by omega) (fun q q1 q2 => by rw [mI_ne q1, mI_ne q2]; exact h1 q q1 q2) (fun j hj => by rw [mI_nj hj, mI_ne (by decide)]; exact h2 j hj) (by rw [mI_eq]; omega) (fun j hj => ?_) (fun j hj => ?_)
        · rw [mI_ne (by decide), mI_nj (by omega)]; exact h4 j (by omega)
        · rw [mI_ne (by decide), mI_row]
          by_cases e : j = k
          · rw [if_pos (by omega), e, hz]
            exact ⟨zsb hx (by omega), zByte_in _⟩
          · rw [if_neg (by omega)]; exact h5 j (by omega)
  refine r_bipush K dX8_four_0 ?_
  refine r_istore_n K dX8_four_2 (by decide) ?_
  exact loop 4 0 24 I (by decide) rfl (fun _ _ _ => rfl) (fun _ _ => rfl) (by rw [hc]; omega) (fun _ _ => rfl) (fun j hj => absurd hj (by omega))
def mfed (I : Nat → Nat → Int) (c : Nat) (a : Nat → Int) (J : Nat → Nat → Int) : Prop := (∀ k, k ≠ 54 → k ≠ 55 → J k = I k) ∧ (∀ j, j ≠ 1 → J 54 j = I 54 j) ∧ J 54 1 = (c : Int) + 20 ∧ (∀ j, j < c ∨ c + 20 ≤ j → J 55 j = I 55 j) ∧ ∀ j, j < 20 → J 55 (c + j) % 256 = byt (a (j / 4)) (j % 4) ∧ -128 ≤ J 55 (c + j) ∧ J 55 (c + j) < 128
set_option maxHeartbeats 4000000 in
set_option maxRecDepth 100000 in
theorem k_X8_feed {c : Nat} {x1 x2 x3 x4 x5 : Int} (hW : Wd T L P) (hc : I 54 1 = c) (hc1 : c ≤ 200) : iX8_feed [.inr (some 54), .inl x1, .inl x2, .inl x3, .inl x4, .inl x5] T L P I hn (fun r J => (200 < c + 20 ∧ r = some (.inl (-1)) ∧ J = I) ∨ (c + 20 ≤ 200 ∧ r = some (.inl ((c : Int) + 20)) ∧ mfed I c (ag x1 x2 x3 x4 x5) J)) := by
  refine CT.by (by decide) (Nat.le_of_ble_eq_true rfl) fun X Y Q hQ K hv => ?_
  refine r_aload_n K dX8_feed_0 rfl ?_
  refine r_getI K dX8_feed_1 f_X8_103 rfl (by first | assumption | exact hW.1 _ _ rfl | exact hW.2.2.1 _ _ _ rfl) ?_
  rw [hc]
  refine r_bipush K dX8_feed_4 ?_
  refine r_iadd K dX8_feed_6 ?_
  refine r_sipush K dX8_feed_7 ?_
  refine r_icmp_le K 15 dX8_feed_10 (by decide) (fun c10 => ?_) (fun c10 => ?_)
  · refine r_aload_n K dX8_feed_15 rfl ?_
    refine r_iload_n K dX8_feed_16 rfl ?_
    refine rcV1i K dX8_feed_17 c_X8_107 v_X8_four (by first | assumption | exact hW.1 _ _ rfl | exact hW.2.2.1 _ _ _ rfl) (k_four (T := T) (L := L) (P := P) (I := I) (hn := hn) (c := c) hW (by exact hc) (by omega)) (by decide) (Nat.le_of_ble_eq_true rfl) ?_
    rintro _ J1 ⟨rfl, p1⟩
    refine r_aload_n K dX8_feed_20 rfl ?_
    refine r_iload_n K dX8_feed_21 rfl ?_
    refine rcV1i K dX8_feed_22 c_X8_107 v_X8_four (by first | assumption | exact hW.1 _ _ rfl | exact hW.2.2.1 _ _ _ rfl) (k_four (T := T) (L := L) (P := P) (I := J1) (hn := hn) (c := c + 4) hW (by rw [p1.2.2.1]; omega) (by omega)) (by decide) (Nat.le_of_ble_eq_true rfl) ?_
    rintro _ J2 ⟨rfl, p2⟩
    refine r_aload_n K dX8_feed_25 rfl ?_
    refine r_iload_n K dX8_feed_26 rfl ?_
    refine rcV1i K dX8_feed_27 c_X8_107 v_X8_four (by first | assumption | exact hW.1 _ _ rfl | exact hW.2.2.1 _ _ _ rfl) (k_four (T := T) (L := L) (P := P) (I := J2) (hn := hn) (c := c + 8) hW (by rw [p2.2.2.1]; omega) (by omega)) (by decide) (Nat.le_of_ble_eq_true rfl) ?_
    rintro _ J3 ⟨rfl, p3⟩
    refine r_aload_n K dX8_feed_30 rfl ?_
    refine r_iload K dX8_feed_31 rfl ?_
    refine rcV1i K dX8_feed_33 c_X8_107 v_X8_four (by first | assumption | exact hW.1 _ _ rfl | exact hW.2.2.1 _ _ _ rfl) (k_four (T := T) (L := L) (P := P) (I := J3) (hn := hn) (c := c + 12) hW (by rw [p3.2.2.1]; omega) (by omega)) (by decide) (Nat.le_of_ble_eq_true rfl) ?_
    rintro _ J4 ⟨rfl, p4⟩
    refine r_aload_n K dX8_feed_36 rfl ?_
    refine r_iload K dX8_feed_37 rfl ?_
    refine rcV1i K dX8_feed_39 c_X8_107 v_X8_four (by first | assumption | exact hW.1 _ _ rfl | exact hW.2.2.1 _ _ _ rfl) (k_four (T := T) (L := L) (P := P) (I := J4) (hn := hn) (c := c + 16) hW (by rw [p4.2.2.1]; omega) (by omega)) (by decide) (Nat.le_of_ble_eq_true rfl) ?_
    rintro _ J5 ⟨rfl, p5⟩
    refine r_aload_n K dX8_feed_42 rfl ?_
    refine r_getI K dX8_feed_43 f_X8_103 rfl (by first | assumption | exact hW.1 _ _ rfl | exact hW.2.2.1 _ _ _ rfl) ?_
    rw [p5.2.2.1]
    exact q_iret K hQ rfl dX8_feed_46 (Nat.le_refl _) (Nat.le_refl _) (⟨rfl, rfl, rfl, rfl, Or.inr ⟨by omega, by rw [show ((c + 16 : Nat) : Int) + 4 = (c : Int) + 20 by omega], fun k k1 k2 => by rw [p5.1 k k1 k2, p4.1 k k1 k2, p3.1 k k1 k2, p2.1 k k1 k2, p1.1 k k1 k2], fun j hj => by rw [p5.2.1 j hj, p4.2.1 j hj, p3.2.1 j hj, p2.2.1 j hj, p1.2.1 j hj], by rw [p5.2.2.1]; omega, fun j hj => by rw [p5.2.2.2.1 j (by omega), p4.2.2.2.1 j (by omega), p3.2.2.2.1 j (by omega), p2.2.2.2.1 j (by omega), p1.2.2.2.1 j (by omega)], fun j hj => by
      rcases (show j / 4 = 0 ∨ j / 4 = 1 ∨ j / 4 = 2 ∨ j / 4 = 3 ∨ j / 4 = 4 by omega) with e | e | e | e | e
      · rw [p5.2.2.2.1 _ (by omega), p4.2.2.2.1 _ (by omega), p3.2.2.2.1 _ (by omega), p2.2.2.2.1 _ (by omega), e, show c + j = c + j % 4 by omega]; exact p1.2.2.2.2 (j % 4) (by omega)
      · rw [p5.2.2.2.1 _ (by omega), p4.2.2.2.1 _ (by omega), p3.2.2.2.1 _ (by omega), e, show c + j = c + 4 + j % 4 by omega]; exact p2.2.2.2.2 (j % 4) (by omega)
      · rw [p5.2.2.2.1 _ (by omega), p4.2.2.2.1 _ (by omega), e, show c + j = c + 8 + j % 4 by omega]; exact p3.2.2.2.2 (j % 4) (by omega)
      · rw [p5.2.2.2.1 _ (by omega), e, show c + j = c + 12 + j % 4 by omega]; exact p4.2.2.2.2 (j % 4) (by omega)
      · rw [e, show c + j = c + 16 + j % 4 by omega]; exact p5.2.2.2.2 (j % 4) (by omega)⟩⟩)
  · refine r_iconst K dX8_feed_13 ?_
    exact q_iret K hQ rfl dX8_feed_14 (Nat.le_refl _) (Nat.le_refl _) (⟨rfl, rfl, rfl, rfl, Or.inl ⟨by omega, rfl, rfl⟩⟩)
/-- the model's version v is now the first n bytes of its tape -/
def mvPost (I : Nat → Nat → Int) (v : Nat) (n : Int) (J : Nat → Nat → Int) : Prop := (∀ c, c ≠ 54 → c ≠ 56 → c ≠ 57 → J c = I c) ∧ (∀ j, j ≠ 1 → J 54 j = I 54 j) ∧ J 54 1 = 0 ∧ (∀ j, J 57 j = if j = v then n else I 57 j) ∧ ∀ j : Nat, J 56 j = if 120 * v ≤ j ∧ (j : Int) < 120 * v + n then I 55 (j - 120 * v) else I 56 j
set_option maxHeartbeats 4000000 in
set_option maxRecDepth 100000 in
theorem k_X8_version {v n : Int} (hW : Wd T L P) (h1 : 0 ≤ I 54 1 ∧ I 54 1 ≤ 200) (h55 : ∀ j, -128 ≤ I 55 j ∧ I 55 j < 128) : iX8_version [.inr (some 54), .inl v, .inl n] T L P I hn (fun r J => (¬ (0 ≤ v ∧ v < 5 ∧ 1 ≤ n ∧ n ≤ 120 ∧ n ≤ I 54 1) ∧ r = some (.inl (-1)) ∧ J = I) ∨ ((0 ≤ v ∧ v < 5 ∧ 1 ≤ n ∧ n ≤ 120 ∧ n ≤ I 54 1) ∧ r = some (.inl n) ∧ mvPost I v.toNat n J)) := by
  refine CT.by (by decide) (Nat.le_of_ble_eq_true rfl) fun X Y Q hQ K hv => ?_
  have l55 : L 55 = 200 := hW.2.1 55 200 rfl (by decide)
  have l56 : L 56 = 600 := hW.2.1 56 600 rfl (by decide)
  have l57 : L 57 = 5 := hW.2.1 57 5 rfl (by decide)
  have loop : ∀ (v0 : Nat) (d k : Nat) (z : Int) (J : Nat → Nat → Int), v = v0 → v0 < 5 → 1 ≤ n → n ≤ 120 → n ≤ I 54 1 → z = k → (k : Int) + d = n → (∀ c, c ≠ 56 → J c = I c) → (∀ j : Nat, J 56 j = if 120 * v0 ≤ j ∧ j < 120 * v0 + k then I 55 (j - 120 * v0) else I 56 j) → RR X Y Q 0 0 30 [some (.inr (some 54)), some (.inl v), some (.inl n), some (.inl z)] [] T L P J hn := by
    intro v0 d
    induction d with
    | zero =>
      intro k z J hv0 v05 n1 n2 n3 hz hd g1 g2
      subst hv0
      refine r_iload_n K dX8_version_30 rfl ?_
      refine r_iload_n K dX8_version_31 rfl ?_
      refine r_icmp_ge K 58 dX8_version_32 (by decide) (fun c32 => ?_) (fun c32 => ?_)
      · refine r_aload_n K dX8_version_58 rfl ?_
        refine r_getR K dX8_version_59 f_X8_16 rfl (by first | assumption | exact hW.1 _ _ rfl | exact hW.2.2.1 _ _ _ rfl) (by first | assumption | exact hW.1 _ _ rfl | exact hW.2.2.1 _ _ _ rfl) ?_
        refine r_iload_n K dX8_version_62 rfl ?_
        refine r_iload_n K dX8_version_63 rfl ?_
        refine r_iast K dX8_version_64 (by first | assumption | exact hW.1 _ _ rfl | exact hW.2.2.1 _ _ _ rfl) (by omega) (by omega) ?_
        refine r_aload_n K dX8_version_65 rfl ?_
        refine r_iconst K dX8_version_66 ?_
        refine r_putI K dX8_version_67 f_X8_103 rfl rfl (Or.inl rfl) (by first | assumption | exact hW.1 _ _ rfl | exact hW.2.2.1 _ _ _ rfl) ?_
        refine r_iload_n K dX8_version_70 rfl ?_
        exact q_iret K hQ rfl dX8_version_71 (Nat.le_refl _) (Nat.le_refl _) (⟨rfl, rfl, rfl, rfl, Or.inr ⟨by omega, rfl, fun c c1 c2 c3 => by rw [mI_ne c1, mI_ne c3, g1 c c2], fun j hj => by rw [mI_nj hj, mI_ne (by decide), g1 54 (by decide)], mI_eq, fun j => by rw [mI_ne (by decide), mI_row, g1 57 (by decide)], fun j => by
          rw [mI_ne (by decide), mI_ne (by decide), g2, Int.toNat_natCast]
          by_cases q : 120 * v0 ≤ j ∧ j < 120 * v0 + k
          · rw [if_pos q, if_pos (by omega)]
          · rw [if_neg q, if_neg (by omega)]⟩⟩)
      · exact absurd c32 (by omega)
    | succ d ih =>
      intro k z J hv0 v05 n1 n2 n3 hz hd g1 g2
      subst hv0 hz
      refine r_iload_n K dX8_version_30 rfl ?_
      refine r_iload_n K dX8_version_31 rfl ?_
      refine r_icmp_ge K 58 dX8_version_32 (by decide) (fun c32 => ?_) (fun c32 => ?_)
      · exact absurd c32 (by omega)
      · refine r_aload_n K dX8_version_35 rfl ?_
        refine r_getR K dX8_version_36 f_X8_13 rfl (by first | assumption | exact hW.1 _ _ rfl | exact hW.2.2.1 _ _ _ rfl) (by first | assumption | exact hW.1 _ _ rfl | exact hW.2.2.1 _ _ _ rfl) ?_
        refine r_bipush K dX8_version_39 ?_
        refine r_iload_n K dX8_version_41 rfl ?_
        refine r_imul K dX8_version_42 ?_
        refine r_iload_n K dX8_version_43 rfl ?_
        refine r_iadd K dX8_version_44 ?_
        refine r_aload_n K dX8_version_45 rfl ?_
        refine r_getR K dX8_version_46 f_X8_7 rfl (by first | assumption | exact hW.1 _ _ rfl | exact hW.2.2.1 _ _ _ rfl) (by first | assumption | exact hW.1 _ _ rfl | exact hW.2.2.1 _ _ _ rfl) ?_
        refine r_iload_n K dX8_version_49 rfl ?_
        refine r_bald K dX8_version_50 (by first | assumption | exact hW.1 _ _ rfl | exact hW.2.2.1 _ _ _ rfl) (by omega) (by omega) ?_
        rw [g1 55 (by decide)]
        refine r_bast K dX8_version_51 (by first | assumption | exact hW.1 _ _ rfl | exact hW.2.2.1 _ _ _ rfl) (by omega) (by omega) ?_
        rw [zByte_id (h55 _), show (120 * (v0 : Int) + k).toNat = 120 * v0 + k by omega, Int.toNat_natCast]
        refine r_iinc K dX8_version_52 (by decide) rfl ?_
        refine r_goto K 30 dX8_version_55 (by decide) ?_
        refine ih (k + 1) _ _ rfl v05 n1 n2 n3 (by omega) (by omega) (fun c c1 => by rw [mI_ne c1]; exact g1 c c1) (fun j => ?_)
        rw [mI_row]
        by_cases e : j = 120 * v0 + k
        · rw [if_pos e, if_pos (by omega), show j - 120 * v0 = k by omega]
        · rw [if_neg e, g2]
          by_cases q : 120 * v0 ≤ j ∧ j < 120 * v0 + k
          · rw [if_pos q, if_pos (by omega)]
          · rw [if_neg q, if_neg (by omega)]
  refine r_iload_n K dX8_version_0 rfl ?_
  refine r_iconst K dX8_version_1 ?_
  refine r_iconst K dX8_version_2 ?_
  refine rcS3p K dX8_version_3 c_X8_99 s_X8_isIn k_isIn (by decide) (Nat.le_of_ble_eq_true rfl) ?_
  refine r_if_eq K 26 dX8_version_6 (by decide) (fun c6 => ?_) (fun c6 => ?_)
  · have q1 : ¬ (0 ≤ v ∧ v ≤ 4) := fun q => by rw [if_pos q] at c6; exact absurd c6 (by decide)
    refine r_iconst K dX8_version_26 ?_
    exact q_iret K hQ rfl dX8_version_27 (Nat.le_refl _) (Nat.le_refl _) (⟨rfl, rfl, rfl, rfl, Or.inl ⟨by omega, rfl, rfl⟩⟩)
  · have q1 : 0 ≤ v ∧ v ≤ 4 := by
      by_cases q : 0 ≤ v ∧ v ≤ 4
      · exact q
      · rw [if_neg q] at c6; exact absurd rfl c6
    refine r_iload_n K dX8_version_9 rfl ?_
    refine r_iconst K dX8_version_10 ?_
    refine r_bipush K dX8_version_11 ?_
    refine r_aload_n K dX8_version_13 rfl ?_
    refine r_getI K dX8_version_14 f_X8_103 rfl (by first | assumption | exact hW.1 _ _ rfl | exact hW.2.2.1 _ _ _ rfl) ?_
    refine r_min K dX8_version_17 m_X8_111 (Nat.le_of_ble_eq_true rfl) (Nat.le_of_ble_eq_true rfl) (Nat.le_of_ble_eq_true rfl) (Nat.le_of_ble_eq_true rfl) ?_
    refine rcS3p K dX8_version_20 c_X8_99 s_X8_isIn k_isIn (by decide) (Nat.le_of_ble_eq_true rfl) ?_
    refine r_if_ne K 28 dX8_version_23 (by decide) (fun c23 => ?_) (fun c23 => ?_)
    · have q2 : 1 ≤ n ∧ n ≤ 120 ∧ n ≤ I 54 1 := by
        by_cases q : 1 ≤ n ∧ n ≤ (if I 54 1 < 120 then I 54 1 else 120)
        · split at q <;> omega
        · rw [if_neg q] at c23; exact absurd rfl c23
      refine r_iconst K dX8_version_28 ?_
      refine r_istore_n K dX8_version_29 (by decide) ?_
      exact loop v.toNat n.toNat 0 0 I (by omega) (by omega) (by omega) (by omega) (by omega) rfl (by omega) (fun _ _ => rfl) (fun j => by rw [if_neg (by omega)])
    · have q2 : ¬ (1 ≤ n ∧ n ≤ 120 ∧ n ≤ I 54 1) := fun q => by
        rw [if_pos ⟨q.1, by split <;> omega⟩] at c23
        exact absurd c23 (by decide)
      refine r_iconst K dX8_version_26 ?_
      exact q_iret K hQ rfl dX8_version_27 (Nat.le_refl _) (Nat.le_refl _) (⟨rfl, rfl, rfl, rfl, Or.inl ⟨by omega, rfl, rfl⟩⟩)
set_option maxHeartbeats 4000000 in
set_option maxRecDepth 100000 in
theorem k_byteOf {v i : Nat} (hW : Wd T L P) (hV : MV I) (h1 : 120 * v + i < 600) : pX8_byteOf [.inr (some 54), .inl (v : Int), .inl (i : Int)] T L P I hn (.inl (mBy I v i)) := by
  refine CT.by (by decide) (Nat.le_of_ble_eq_true rfl) fun X Y Q hQ K hv => ?_
  have l56 : L 56 = 600 := hW.2.1 56 600 rfl (by decide)
  have hb := hV.2 (120 * v + i)
  refine r_aload_n K dX8_byteOf_0 rfl ?_
  refine r_getR K dX8_byteOf_1 f_X8_13 rfl (by first | assumption | exact hW.1 _ _ rfl | exact hW.2.2.1 _ _ _ rfl) (by first | assumption | exact hW.1 _ _ rfl | exact hW.2.2.1 _ _ _ rfl) ?_
  refine r_bipush K dX8_byteOf_4 ?_
  refine r_iload_n K dX8_byteOf_6 rfl ?_
  refine r_imul K dX8_byteOf_7 ?_
  refine r_iload_n K dX8_byteOf_8 rfl ?_
  refine r_iadd K dX8_byteOf_9 ?_
  refine r_bald K dX8_byteOf_10 (by first | assumption | exact hW.1 _ _ rfl | exact hW.2.2.1 _ _ _ rfl) (by omega) (by omega) ?_
  rw [show (120 * (v : Int) + i).toNat = 120 * v + i by omega]
  refine r_sipush K dX8_byteOf_11 ?_
  refine r_iand K dX8_byteOf_14 ?_
  rw [zAnd_255 ⟨by omega, by omega⟩]
  exact q_iret K hQ rfl dX8_byteOf_15 (Nat.le_refl _) (Nat.le_refl _) (⟨rfl, rfl, rfl, rfl, rfl, rfl⟩)
set_option maxHeartbeats 4000000 in
set_option maxRecDepth 100000 in
theorem k_X8_told {v i : Int} (hW : Wd T L P) (hV : MV I) : pX8_told [.inr (some 54), .inl v, .inl i] T L P I hn (.inl (if hasM I v then (if i = -1 then I 57 v.toNat else if 0 ≤ i ∧ i < I 57 v.toNat ∧ i < 120 then mBy I v.toNat i.toNat else -1) else -1)) := by
  refine CT.by (by decide) (Nat.le_of_ble_eq_true rfl) fun X Y Q hQ K hv => ?_
  have l57 : L 57 = 5 := hW.2.1 57 5 rfl (by decide)
  refine r_aload_n K dX8_told_0 rfl ?_
  refine r_iload_n K dX8_told_1 rfl ?_
  refine rcV1p K dX8_told_2 c_X8_117 v_X8_isVersion (by first | assumption | exact hW.1 _ _ rfl | exact hW.2.2.1 _ _ _ rfl) (k_isVersion hW) (by decide) (Nat.le_of_ble_eq_true rfl) ?_
  refine r_if_ne K 12 dX8_told_5 (by decide) (fun c5 => ?_) (fun c5 => ?_)
  · have h1 : hasM I v := by
      by_cases q : hasM I v
      · exact q
      · rw [if_neg q] at c5; exact absurd rfl c5
    obtain ⟨v0, rfl⟩ : ∃ n : Nat, v = n := ⟨v.toNat, by have := h1.1; omega⟩
    have v05 : v0 < 5 := by have := h1.2.1; omega
    refine r_iload_n K dX8_told_12 rfl ?_
    refine r_iconst K dX8_told_13 ?_
    refine r_icmp_ne K 26 dX8_told_14 (by decide) (fun c14 => ?_) (fun c14 => ?_)
    · refine r_iload_n K dX8_told_26 rfl ?_
      refine r_iconst K dX8_told_27 ?_
      refine r_aload_n K dX8_told_28 rfl ?_
      refine r_getR K dX8_told_29 f_X8_16 rfl (by first | assumption | exact hW.1 _ _ rfl | exact hW.2.2.1 _ _ _ rfl) (by first | assumption | exact hW.1 _ _ rfl | exact hW.2.2.1 _ _ _ rfl) ?_
      refine r_iload_n K dX8_told_32 rfl ?_
      refine r_iald K dX8_told_33 (by first | assumption | exact hW.1 _ _ rfl | exact hW.2.2.1 _ _ _ rfl) (by omega) (by omega) ?_
      rw [Int.toNat_natCast]
      have hvs := hV.1 v0 v05
      refine r_iconst K dX8_told_34 ?_
      refine r_isub K dX8_told_35 ?_
      refine rcS3p K dX8_told_36 c_X8_99 s_X8_isIn k_isIn (by decide) (Nat.le_of_ble_eq_true rfl) ?_
      refine r_if_eq K 51 dX8_told_39 (by decide) (fun c39 => ?_) (fun c39 => ?_)
      · have q2 : ¬ (0 ≤ i ∧ i ≤ I 57 v0 - 1) := fun q => by rw [if_pos q] at c39; exact absurd c39 (by decide)
        refine r_iconst K dX8_told_51 ?_
        exact q_iret K hQ rfl dX8_told_52 (Nat.le_refl _) (Nat.le_refl _) (by first
          | exact ⟨by rw [if_neg h1], rfl, rfl, rfl, rfl, rfl⟩
          | exact ⟨by rw [if_pos h1, if_pos c14]; try rw [Int.toNat_natCast], rfl, rfl, rfl, rfl, rfl⟩
          | exact ⟨by rw [if_pos h1, if_neg c14, if_pos ⟨by omega, by rw [Int.toNat_natCast]; omega, by omega⟩, Int.toNat_natCast, Int.toNat_natCast], rfl, rfl, rfl, rfl, rfl⟩
          | exact ⟨by rw [if_pos h1, if_neg c14, if_neg (by rw [Int.toNat_natCast]; omega)], rfl, rfl, rfl, rfl, rfl⟩)
      · have q2 : 0 ≤ i ∧ i ≤ I 57 v0 - 1 := by
          by_cases q : 0 ≤ i ∧ i ≤ I 57 v0 - 1
          · exact q
          · rw [if_neg q] at c39; exact absurd rfl c39
        obtain ⟨i0, rfl⟩ : ∃ n : Nat, i = n := ⟨i.toNat, by omega⟩
        refine r_aload_n K dX8_told_42 rfl ?_
        refine r_iload_n K dX8_told_43 rfl ?_
        refine r_iload_n K dX8_told_44 rfl ?_
        refine rcV2p K dX8_told_45 c_X8_121 v_X8_byteOf (by first | assumption | exact hW.1 _ _ rfl | exact hW.2.2.1 _ _ _ rfl) (k_byteOf (v := v0) (i := i0) hW hV (by omega)) (by decide) (Nat.le_of_ble_eq_true rfl) ?_
        refine r_goto K 52 dX8_told_48 (by decide) ?_
        exact q_iret K hQ rfl dX8_told_52 (Nat.le_refl _) (Nat.le_refl _) (by first
          | exact ⟨by rw [if_neg h1], rfl, rfl, rfl, rfl, rfl⟩
          | exact ⟨by rw [if_pos h1, if_pos c14]; try rw [Int.toNat_natCast], rfl, rfl, rfl, rfl, rfl⟩
          | exact ⟨by rw [if_pos h1, if_neg c14, if_pos ⟨by omega, by rw [Int.toNat_natCast]; omega, by omega⟩, Int.toNat_natCast, Int.toNat_natCast], rfl, rfl, rfl, rfl, rfl⟩
          | exact ⟨by rw [if_pos h1, if_neg c14, if_neg (by rw [Int.toNat_natCast]; omega)], rfl, rfl, rfl, rfl, rfl⟩)
    · refine r_aload_n K dX8_told_17 rfl ?_
      refine r_getR K dX8_told_18 f_X8_16 rfl (by first | assumption | exact hW.1 _ _ rfl | exact hW.2.2.1 _ _ _ rfl) (by first | assumption | exact hW.1 _ _ rfl | exact hW.2.2.1 _ _ _ rfl) ?_
      refine r_iload_n K dX8_told_21 rfl ?_
      refine r_iald K dX8_told_22 (by first | assumption | exact hW.1 _ _ rfl | exact hW.2.2.1 _ _ _ rfl) (by omega) (by omega) ?_
      refine r_goto K 52 dX8_told_23 (by decide) ?_
      exact q_iret K hQ rfl dX8_told_52 (Nat.le_refl _) (Nat.le_refl _) (by first
        | exact ⟨by rw [if_neg h1], rfl, rfl, rfl, rfl, rfl⟩
        | exact ⟨by rw [if_pos h1, if_pos c14]; try rw [Int.toNat_natCast], rfl, rfl, rfl, rfl, rfl⟩
        | exact ⟨by rw [if_pos h1, if_neg c14, if_pos ⟨by omega, by rw [Int.toNat_natCast]; omega, by omega⟩, Int.toNat_natCast, Int.toNat_natCast], rfl, rfl, rfl, rfl, rfl⟩
        | exact ⟨by rw [if_pos h1, if_neg c14, if_neg (by rw [Int.toNat_natCast]; omega)], rfl, rfl, rfl, rfl, rfl⟩)
  · have h1 : ¬ (hasM I v) := fun q => by rw [if_pos q] at c5; exact absurd c5 (by decide)
    refine r_iconst K dX8_told_8 ?_
    refine r_goto K 52 dX8_told_9 (by decide) ?_
    exact q_iret K hQ rfl dX8_told_52 (Nat.le_refl _) (Nat.le_refl _) (by first
      | exact ⟨by rw [if_neg h1], rfl, rfl, rfl, rfl, rfl⟩
      | exact ⟨by rw [if_pos h1, if_pos c14]; try rw [Int.toNat_natCast], rfl, rfl, rfl, rfl, rfl⟩
      | exact ⟨by rw [if_pos h1, if_neg c14, if_pos ⟨by omega, by rw [Int.toNat_natCast]; omega, by omega⟩, Int.toNat_natCast, Int.toNat_natCast], rfl, rfl, rfl, rfl, rfl⟩
      | exact ⟨by rw [if_pos h1, if_neg c14, if_neg (by rw [Int.toNat_natCast]; omega)], rfl, rfl, rfl, rfl, rfl⟩)
set_option maxHeartbeats 4000000 in
set_option maxRecDepth 100000 in
theorem k_next {c v : Int} (h1 : 0 ≤ c ∧ c < 65521) (h2 : 0 ≤ v ∧ v < 256) : pX8_next [.inl c, .inl v] T L P I hn (.inl ((c * 31 + v + 1) % 65521)) := by
  refine CT.by (by decide) (Nat.le_of_ble_eq_true rfl) fun X Y Q hQ K hv => ?_
  refine r_iload_n K dX8_next_0 rfl ?_
  refine r_bipush K dX8_next_1 ?_
  refine r_imul K dX8_next_3 ?_
  refine r_iload_n K dX8_next_4 rfl ?_
  refine r_iadd K dX8_next_5 ?_
  refine r_iconst K dX8_next_6 ?_
  refine r_iadd K dX8_next_7 ?_
  refine r_ldc (n := 65521) K dX8_next_8 k_X8_124 rfl ?_
  refine r_irem K dX8_next_10 (by omega) (by omega) ?_
  exact q_iret K hQ rfl dX8_next_11 (Nat.le_refl _) (Nat.le_refl _) (⟨rfl, rfl, rfl, rfl, rfl, rfl⟩)
set_option maxHeartbeats 4000000 in
set_option maxRecDepth 100000 in
theorem k_X8_check {v : Int} (hW : Wd T L P) (hV : MV I) : pX8_check [.inr (some 54), .inl v] T L P I hn (.inl (if hasM I v then ck (mBy I v.toNat) (I 57 v.toNat).toNat else -1)) := by
  refine CT.by (by decide) (Nat.le_of_ble_eq_true rfl) fun X Y Q hQ K hv => ?_
  have l57 : L 57 = 5 := hW.2.1 57 5 rfl (by decide)
  have loop : ∀ (v0 : Nat) (d k : Nat) (z : Int), v = v0 → v0 < 5 → hasM I v → z = k → (k : Int) + d = I 57 v0 → RR X Y Q 0 0 14 [some (.inr (some 54)), some (.inl v), some (.inl (ck (mBy I v0) k)), some (.inl z)] [] T L P I hn := by
    intro v0 d
    induction d with
    | zero =>
      intro k z hv0 v05 h1 hz hd
      subst hv0 hz
      refine r_iload_n K dX8_check_14 rfl ?_
      refine r_aload_n K dX8_check_15 rfl ?_
      refine r_getR K dX8_check_16 f_X8_16 rfl (by first | assumption | exact hW.1 _ _ rfl | exact hW.2.2.1 _ _ _ rfl) (by first | assumption | exact hW.1 _ _ rfl | exact hW.2.2.1 _ _ _ rfl) ?_
      refine r_iload_n K dX8_check_19 rfl ?_
      refine r_iald K dX8_check_20 (by first | assumption | exact hW.1 _ _ rfl | exact hW.2.2.1 _ _ _ rfl) (by omega) (by omega) ?_
      rw [Int.toNat_natCast]
      refine r_icmp_ge K 41 dX8_check_21 (by decide) (fun c21 => ?_) (fun c21 => ?_)
      · refine r_iload_n K dX8_check_41 rfl ?_
        exact q_iret K hQ rfl dX8_check_42 (Nat.le_refl _) (Nat.le_refl _) (⟨by rw [if_pos h1, Int.toNat_natCast, show (I 57 v0).toNat = k by omega], rfl, rfl, rfl, rfl, rfl⟩)
      · exact absurd c21 (by omega)
    | succ d ih =>
      intro k z hv0 v05 h1 hz hd
      subst hv0 hz
      have hvs := hV.1 v0 v05
      have hck := ck_in (mBy I v0) k
      have hb : 0 ≤ mBy I v0 k ∧ mBy I v0 k < 256 := ⟨Int.emod_nonneg _ (by decide), Int.emod_lt_of_pos _ (by decide)⟩
      refine r_iload_n K dX8_check_14 rfl ?_
      refine r_aload_n K dX8_check_15 rfl ?_
      refine r_getR K dX8_check_16 f_X8_16 rfl (by first | assumption | exact hW.1 _ _ rfl | exact hW.2.2.1 _ _ _ rfl) (by first | assumption | exact hW.1 _ _ rfl | exact hW.2.2.1 _ _ _ rfl) ?_
      refine r_iload_n K dX8_check_19 rfl ?_
      refine r_iald K dX8_check_20 (by first | assumption | exact hW.1 _ _ rfl | exact hW.2.2.1 _ _ _ rfl) (by omega) (by omega) ?_
      rw [Int.toNat_natCast]
      refine r_icmp_ge K 41 dX8_check_21 (by decide) (fun c21 => ?_) (fun c21 => ?_)
      · exact absurd c21 (by omega)
      · refine r_iload_n K dX8_check_24 rfl ?_
        refine r_aload_n K dX8_check_25 rfl ?_
        refine r_iload_n K dX8_check_26 rfl ?_
        refine r_iload_n K dX8_check_27 rfl ?_
        refine rcV2p K dX8_check_28 c_X8_121 v_X8_byteOf (by first | assumption | exact hW.1 _ _ rfl | exact hW.2.2.1 _ _ _ rfl) (k_byteOf (v := v0) (i := k) hW hV (by omega)) (by decide) (Nat.le_of_ble_eq_true rfl) ?_
        refine rcS2p K dX8_check_31 c_X8_125 s_X8_next (k_next hck hb) (by decide) (Nat.le_of_ble_eq_true rfl) ?_
        refine r_istore_n K dX8_check_34 (by decide) ?_
        refine r_iinc K dX8_check_35 (by decide) rfl ?_
        refine r_goto K 14 dX8_check_38 (by decide) ?_
        exact ih (k + 1) _ rfl v05 h1 (by omega) (by omega)
  refine r_aload_n K dX8_check_0 rfl ?_
  refine r_iload_n K dX8_check_1 rfl ?_
  refine rcV1p K dX8_check_2 c_X8_117 v_X8_isVersion (by first | assumption | exact hW.1 _ _ rfl | exact hW.2.2.1 _ _ _ rfl) (k_isVersion hW) (by decide) (Nat.le_of_ble_eq_true rfl) ?_
  refine r_if_ne K 10 dX8_check_5 (by decide) (fun c5 => ?_) (fun c5 => ?_)
  · have h1 : hasM I v := by
      by_cases q : hasM I v
      · exact q
      · rw [if_neg q] at c5; exact absurd rfl c5
    obtain ⟨v0, rfl⟩ : ∃ n : Nat, v = n := ⟨v.toNat, by have := h1.1; omega⟩
    have v05 : v0 < 5 := by have := h1.2.1; omega
    refine r_iconst K dX8_check_10 ?_
    refine r_istore_n K dX8_check_11 (by decide) ?_
    refine r_iconst K dX8_check_12 ?_
    refine r_istore_n K dX8_check_13 (by decide) ?_
    exact loop v0 (I 57 v0).toNat 0 0 rfl v05 h1 rfl (by have := hV.1 v0 v05; omega)
  · have h1 : ¬ (hasM I v) := fun q => by rw [if_pos q] at c5; exact absurd c5 (by decide)
    refine r_iconst K dX8_check_8 ?_
    exact q_iret K hQ rfl dX8_check_9 (Nat.le_refl _) (Nat.le_refl _) (⟨by rw [if_neg h1], rfl, rfl, rfl, rfl, rfl⟩)
set_option maxHeartbeats 4000000 in
set_option maxRecDepth 100000 in
theorem k_apart {a b i p : Nat} (hW : Wd T L P) (hV : MV I) (h1 : 120 * b + i < 600) (h2 : 120 * a + p < 600) : pX8_apart [.inr (some 54), .inl (a : Int), .inl (b : Int), .inl (i : Int), .inl (p : Int)] T L P I hn (.inl (ap (mBy I a) (mBy I b) i p)) := by
  refine CT.by (by decide) (Nat.le_of_ble_eq_true rfl) fun X Y Q hQ K hv => ?_
  have hb1 : 0 ≤ mBy I b i ∧ mBy I b i < 256 := ⟨Int.emod_nonneg _ (by decide), Int.emod_lt_of_pos _ (by decide)⟩
  have hb2 : 0 ≤ mBy I a p ∧ mBy I a p < 256 := ⟨Int.emod_nonneg _ (by decide), Int.emod_lt_of_pos _ (by decide)⟩
  refine r_aload_n K dX8_apart_0 rfl ?_
  refine r_iload_n K dX8_apart_1 rfl ?_
  refine r_iload_n K dX8_apart_2 rfl ?_
  refine rcV2p K dX8_apart_3 c_X8_121 v_X8_byteOf (by first | assumption | exact hW.1 _ _ rfl | exact hW.2.2.1 _ _ _ rfl) (k_byteOf hW hV h1) (by decide) (Nat.le_of_ble_eq_true rfl) ?_
  refine r_aload_n K dX8_apart_6 rfl ?_
  refine r_iload_n K dX8_apart_7 rfl ?_
  refine r_iload K dX8_apart_8 rfl ?_
  refine rcV2p K dX8_apart_10 c_X8_121 v_X8_byteOf (by first | assumption | exact hW.1 _ _ rfl | exact hW.2.2.1 _ _ _ rfl) (k_byteOf hW hV h2) (by decide) (Nat.le_of_ble_eq_true rfl) ?_
  refine r_isub K dX8_apart_13 ?_
  refine r_sipush K dX8_apart_14 ?_
  refine r_iand K dX8_apart_17 ?_
  rw [zAnd_255 ⟨by omega, by omega⟩]
  exact q_iret K hQ rfl dX8_apart_18 (Nat.le_refl _) (Nat.le_refl _) (⟨rfl, rfl, rfl, rfl, rfl, rfl⟩)
set_option maxHeartbeats 4000000 in
set_option maxRecDepth 100000 in
theorem k_runAt {i p : Nat} (hW : Wd T L P) (h1 : 121 * i + p < 14641) : pX8_runAt [.inr (some 54), .inl (i : Int), .inl (p : Int)] T L P I hn (.inl (I 58 (121 * i + p))) := by
  refine CT.by (by decide) (Nat.le_of_ble_eq_true rfl) fun X Y Q hQ K hv => ?_
  have l58 : L 58 = 14641 := hW.2.1 58 14641 rfl (by decide)
  refine r_aload_n K dX8_runAt_0 rfl ?_
  refine r_getR K dX8_runAt_1 f_X8_20 rfl (by first | assumption | exact hW.1 _ _ rfl | exact hW.2.2.1 _ _ _ rfl) (by first | assumption | exact hW.1 _ _ rfl | exact hW.2.2.1 _ _ _ rfl) ?_
  refine r_bipush K dX8_runAt_4 ?_
  refine r_iload_n K dX8_runAt_6 rfl ?_
  refine r_imul K dX8_runAt_7 ?_
  refine r_iload_n K dX8_runAt_8 rfl ?_
  refine r_iadd K dX8_runAt_9 ?_
  refine r_iald K dX8_runAt_10 (by first | assumption | exact hW.1 _ _ rfl | exact hW.2.2.1 _ _ _ rfl) (by omega) (by omega) ?_
  rw [show (121 * (i : Int) + p).toNat = 121 * i + p by omega]
  exact q_iret K hQ rfl dX8_runAt_11 (Nat.le_refl _) (Nat.le_refl _) (⟨rfl, rfl, rfl, rfl, rfl, rfl⟩)
end MO1
