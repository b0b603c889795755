/-- byte k of a fed number -/
def byt (x : Int) (k : Nat) : Int := x / ((256 : Int) ^ (3 - k)) % 256
theorem zub {x : Int} (hx : rg x) {k : Nat} (hk : k < 4) : zAnd (zUshr x (24 - 8 * (k : Int))) 255 = byt x k := by
  have e2 : ((Int32.ofInt x).toBitVec.toNat : Int) = x % 4294967296 := by
    have : (Int32.ofInt x).toBitVec = BitVec.ofInt 32 x := rfl
    rw [this, BitVec.toNat_ofInt]
    omega
  have key : ∀ (s : Int32) (j : Nat), ((s.toUInt32 &&& Int32.toUInt32 31).toBitVec % 32).toNat = j → (Int32.ofInt (((Int32.ofInt x).toUInt32 >>> (s.toUInt32 &&& Int32.toUInt32 31)).toInt32.toInt) &&& Int32.ofInt 255).toInt = (((Int32.ofInt x).toBitVec.toNat / 2 ^ j % 2 ^ 8 : Nat) : Int) := by
    intro s j hs
    rw [oi_of, pk_and _ 8 (by decide), pk_ushr _ s j hs, nI_toInt (by omega)]
  unfold zAnd zUshr byt
  match k, hk with
  | 0, _ => rw [key (Int32.ofInt (24 - 8 * ((0 : Nat) : Int))) 24 (by decide)]; simp only [Nat.sub_zero]; omega
  | 1, _ => rw [key (Int32.ofInt (24 - 8 * ((1 : Nat) : Int))) 16 (by decide)]; simp only [Nat.reduceSub]; omega
  | 2, _ => rw [key (Int32.ofInt (24 - 8 * ((2 : Nat) : Int))) 8 (by decide)]; simp only [Nat.reduceSub]; omega
  | 3, _ => rw [key (Int32.ofInt (24 - 8 * ((3 : Nat) : Int))) 0 (by decide)]; simp only [Nat.reduceSub]; omega
theorem byt_in (x : Int) (k : Nat) : 0 ≤ byt x k ∧ byt x k < 256 := ⟨Int.emod_nonneg _ (by decide), Int.emod_lt_of_pos _ (by decide)⟩
section PB1
variable {T L : Nat → Nat} {P : Nat → Nat → Option Nat} {I : Nat → Nat → Int} {hn : Nat}
/-- four bytes are behind the tape -/
def ap4 (I : Nat → Nat → Int) (c : Nat) (x : Int) (J : Nat → Nat → Int) : Prop := (∀ k, k ≠ 4 → k ≠ 5 → J k = I k) ∧ (∀ j, j ≠ 1 → J 4 j = I 4 j) ∧ J 4 1 = (c : Int) + 4 ∧ ∀ j, J 5 j = if c ≤ j ∧ j < c + 4 then byt x (j - c) else I 5 j
set_option maxHeartbeats 4000000 in
set_option maxRecDepth 100000 in
theorem k_appendFour {c : Nat} {x : Int} (hW : Wd T L P) (hc : I 4 1 = c) (hc1 : c + 4 ≤ 200) : iX0_appendFour [.inr (some 4), .inl x] T L P I hn (fun r J => r = none ∧ ap4 I c x J) := by
  refine CT.by (by decide) (Nat.le_of_ble_eq_true rfl) fun X Y Q hQ K hv => ?_
  have l5 : L 5 = 200 := hW.2.1 5 200 rfl (by decide)
  have hx : rg x := hv (.inl x) (List.mem_cons_of_mem _ List.mem_cons_self)
  have loop : ∀ (d k : Nat) (z : Int) (J : Nat → Nat → Int), z = 24 - 8 * (k : Int) → k + d = 4 → (∀ q, q ≠ 4 → q ≠ 5 → J q = I q) → (∀ j, j ≠ 1 → J 4 j = I 4 j) → J 4 1 = (c : Int) + k → (∀ j, J 5 j = if c ≤ j ∧ j < c + k then byt x (j - c) else I 5 j) → RR X Y Q 0 0 3 [some (.inr (some 4)), some (.inl x), some (.inl z)] [] T L P J hn := by
    intro d
    induction d with
    | zero =>
      intro k z J hz hd h1 h2 h3 h4
      have hk : k = 4 := by omega
      subst hk
      refine r_iload_n K dX0_appendFour_3 rfl ?_
      refine r_if_lt K 51 dX0_appendFour_4 (by decide) (fun c4 => ?_) (fun c4 => ?_)
      · exact q_vret K hQ rfl dX0_appendFour_51 (Nat.le_refl _) (Nat.le_refl _) (⟨rfl, rfl, rfl, rfl, rfl, h1, h2, by rw [h3]; rfl, h4⟩)
      · exact absurd c4 (by omega)
    | succ d ih =>
      intro k z J hz hd h1 h2 h3 h4
      refine r_iload_n K dX0_appendFour_3 rfl ?_
      refine r_if_lt K 51 dX0_appendFour_4 (by decide) (fun c4 => ?_) (fun c4 => ?_)
      · exact absurd c4 (by omega)
      · refine r_aload_n K dX0_appendFour_7 rfl ?_
        refine r_getI K dX0_appendFour_8 f_X0_21 rfl (by first | assumption | exact hW.1 _ _ rfl | exact hW.2.2.1 _ _ _ rfl) ?_
        rw [h3]
        refine r_aload_n K dX0_appendFour_11 rfl ?_
        refine r_getR K dX0_appendFour_12 f_X0_15 rfl (by first | assumption | exact hW.1 _ _ rfl | exact hW.2.2.1 _ _ _ rfl) (by first | assumption | exact hW.1 _ _ rfl | exact hW.2.2.1 _ _ _ rfl) ?_
        refine r_alen K dX0_appendFour_15 (by first | assumption | exact hW.1 _ _ rfl | exact hW.2.2.1 _ _ _ rfl) (by omega) ?_
        refine r_icmp_ge K 45 dX0_appendFour_16 (by decide) (fun c16 => ?_) (fun c16 => ?_)
        · exact absurd c16 (by omega)
        · refine r_aload_n K dX0_appendFour_19 rfl ?_
          refine r_getR K dX0_appendFour_20 f_X0_15 rfl (by first | assumption | exact hW.1 _ _ rfl | exact hW.2.2.1 _ _ _ rfl) (by first | assumption | exact hW.1 _ _ rfl | exact hW.2.2.1 _ _ _ rfl) ?_
          refine r_aload_n K dX0_appendFour_23 rfl ?_
          refine r_getI K dX0_appendFour_24 f_X0_21 rfl (by first | assumption | exact hW.1 _ _ rfl | exact hW.2.2.1 _ _ _ rfl) ?_
          rw [h3]
          refine r_iload_n K dX0_appendFour_27 rfl ?_
          refine r_iload_n K dX0_appendFour_28 rfl ?_
          refine r_iushr K dX0_appendFour_29 ?_
          refine r_sipush K dX0_appendFour_30 ?_
          refine r_iand K dX0_appendFour_33 ?_
          rw [hz, zub hx (by omega)]
          refine r_iast K dX0_appendFour_34 (by first | assumption | exact hW.1 _ _ rfl | exact hW.2.2.1 _ _ _ rfl) (by omega) (by omega) ?_
          rw [show ((c : Int) + k).toNat = c + k by omega]
          refine r_aload_n K dX0_appendFour_35 rfl ?_
          refine r_dup K dX0_appendFour_36 ?_
          refine r_getI K dX0_appendFour_37 f_X0_21 rfl (by first | assumption | exact hW.1 _ _ rfl | exact hW.2.2.1 _ _ _ rfl) ?_
          rw [mI_ne (by decide), h3]
          refine r_iconst K dX0_appendFour_40 ?_
          refine r_iadd K dX0_appendFour_41 ?_
          refine r_putI K dX0_appendFour_42 f_X0_21 rfl rfl (Or.inl rfl) (by first | assumption | exact hW.1 _ _ rfl | exact hW.2.2.1 _ _ _ rfl) ?_
          refine r_iinc K dX0_appendFour_45 (by decide) rfl ?_
          refine r_goto K 3 dX0_appendFour_48 (by decide) ?_
          refine ih (k + 1) _ _ (by omega) (by omega) (fun q q1 q2 => by rw [mI_ne q1, mI_ne q2]; exact h1 q q1 q2) (fun j hj => by rw [mI_nj hj, mI_ne (by decide)]; exact h2 j hj) (by rw [mI_eq]; omega) (fun j => ?_)
          rw [mI_ne (by decide), mI_row]
          by_cases e : j = c + k
          · rw [if_pos e, if_pos (by omega), show j - c = k by omega]
          · rw [if_neg e, h4 j]
            by_cases e2 : c ≤ j ∧ j < c + k
            · rw [if_pos e2, if_pos (by omega)]
            · rw [if_neg e2, if_neg (by omega)]
  refine r_bipush K dX0_appendFour_0 ?_
  refine r_istore_n K dX0_appendFour_2 (by decide) ?_
  exact loop 4 0 24 I (by decide) rfl (fun _ _ _ => rfl) (fun _ _ => rfl) (by rw [hc]; omega) (fun j => by rw [if_neg (by omega)])
/-- twenty bytes are behind the tape -/
def fedP (I : Nat → Nat → Int) (c : Nat) (a : Nat → Int) (J : Nat → Nat → Int) : Prop := (∀ k, k ≠ 4 → k ≠ 5 → J k = I k) ∧ J 4 1 = (c : Int) + 20 ∧ ∀ j, J 5 j = if c ≤ j ∧ j < c + 20 then byt (a ((j - c) / 4)) ((j - c) % 4) else I 5 j
def ag (a b c d e : Int) (k : Nat) : Int := if k = 0 then a else if k = 1 then b else if k = 2 then c else if k = 3 then d else e
set_option maxHeartbeats 4000000 in
set_option maxRecDepth 100000 in
theorem k_X7_feed {c : Nat} {x1 x2 x3 x4 x5 : Int} (hW : Wd T L P) (hc : I 4 1 = c) (hc1 : c ≤ 200) : iX7_feed [.inr (some 3), .inl x1, .inl x2, .inl x3, .inl x4, .inl x5] T L P I hn (fun r J => (200 < c + 20 ∧ r = some (.inl (-1)) ∧ J = I) ∨ (c + 20 ≤ 200 ∧ r = some (.inl ((c : Int) + 20)) ∧ fedP I c (ag x1 x2 x3 x4 x5) J)) := by
  refine CT.by (by decide) (Nat.le_of_ble_eq_true rfl) fun X Y Q hQ K hv => ?_
  refine r_aload_n K dX7_feed_0 rfl ?_
  refine r_getR K dX7_feed_1 f_X7_14 rfl (by first | assumption | exact hW.1 _ _ rfl | exact hW.2.2.1 _ _ _ rfl) (by first | assumption | exact hW.1 _ _ rfl | exact hW.2.2.1 _ _ _ rfl) ?_
  refine r_getI K dX7_feed_4 f_X7_56 rfl (by first | assumption | exact hW.1 _ _ rfl | exact hW.2.2.1 _ _ _ rfl) ?_
  rw [hc]
  refine r_bipush K dX7_feed_7 ?_
  refine r_iadd K dX7_feed_9 ?_
  refine r_sipush K dX7_feed_10 ?_
  refine r_icmp_le K 18 dX7_feed_13 (by decide) (fun c13 => ?_) (fun c13 => ?_)
  · refine r_aload_n K dX7_feed_18 rfl ?_
    refine r_getR K dX7_feed_19 f_X7_14 rfl (by first | assumption | exact hW.1 _ _ rfl | exact hW.2.2.1 _ _ _ rfl) (by first | assumption | exact hW.1 _ _ rfl | exact hW.2.2.1 _ _ _ rfl) ?_
    refine r_iload_n K dX7_feed_22 rfl ?_
    refine rcV1i K dX7_feed_23 c_X7_60 v_X0_appendFour (by first | assumption | exact hW.1 _ _ rfl | exact hW.2.2.1 _ _ _ rfl) (k_appendFour (T := T) (L := L) (P := P) (I := I) (hn := hn) (c := c) hW (by exact hc) (by omega)) (by decide) (Nat.le_of_ble_eq_true rfl) ?_
    rintro _ J1 ⟨rfl, p1⟩
    refine r_aload_n K dX7_feed_26 rfl ?_
    refine r_getR K dX7_feed_27 f_X7_14 rfl (by first | assumption | exact hW.1 _ _ rfl | exact hW.2.2.1 _ _ _ rfl) (by first | assumption | exact hW.1 _ _ rfl | exact hW.2.2.1 _ _ _ rfl) ?_
    refine r_iload_n K dX7_feed_30 rfl ?_
    refine rcV1i K dX7_feed_31 c_X7_60 v_X0_appendFour (by first | assumption | exact hW.1 _ _ rfl | exact hW.2.2.1 _ _ _ rfl) (k_appendFour (T := T) (L := L) (P := P) (I := J1) (hn := hn) (c := c + 4) hW (by rw [p1.2.2.1]; omega) (by omega)) (by decide) (Nat.le_of_ble_eq_true rfl) ?_
    rintro _ J2 ⟨rfl, p2⟩
    refine r_aload_n K dX7_feed_34 rfl ?_
    refine r_getR K dX7_feed_35 f_X7_14 rfl (by first | assumption | exact hW.1 _ _ rfl | exact hW.2.2.1 _ _ _ rfl) (by first | assumption | exact hW.1 _ _ rfl | exact hW.2.2.1 _ _ _ rfl) ?_
    refine r_iload_n K dX7_feed_38 rfl ?_
    refine rcV1i K dX7_feed_39 c_X7_60 v_X0_appendFour (by first | assumption | exact hW.1 _ _ rfl | exact hW.2.2.1 _ _ _ rfl) (k_appendFour (T := T) (L := L) (P := P) (I := J2) (hn := hn) (c := c + 8) hW (by rw [p2.2.2.1]; omega) (by omega)) (by decide) (Nat.le_of_ble_eq_true rfl) ?_
    rintro _ J3 ⟨rfl, p3⟩
    refine r_aload_n K dX7_feed_42 rfl ?_
    refine r_getR K dX7_feed_43 f_X7_14 rfl (by first | assumption | exact hW.1 _ _ rfl | exact hW.2.2.1 _ _ _ rfl) (by first | assumption | exact hW.1 _ _ rfl | exact hW.2.2.1 _ _ _ rfl) ?_
    refine r_iload K dX7_feed_46 rfl ?_
    refine rcV1i K dX7_feed_48 c_X7_60 v_X0_appendFour (by first | assumption | exact hW.1 _ _ rfl | exact hW.2.2.1 _ _ _ rfl) (k_appendFour (T := T) (L := L) (P := P) (I := J3) (hn := hn) (c := c + 12) hW (by rw [p3.2.2.1]; omega) (by omega)) (by decide) (Nat.le_of_ble_eq_true rfl) ?_
    rintro _ J4 ⟨rfl, p4⟩
    refine r_aload_n K dX7_feed_51 rfl ?_
    refine r_getR K dX7_feed_52 f_X7_14 rfl (by first | assumption | exact hW.1 _ _ rfl | exact hW.2.2.1 _ _ _ rfl) (by first | assumption | exact hW.1 _ _ rfl | exact hW.2.2.1 _ _ _ rfl) ?_
    refine r_iload K dX7_feed_55 rfl ?_
    refine rcV1i K dX7_feed_57 c_X7_60 v_X0_appendFour (by first | assumption | exact hW.1 _ _ rfl | exact hW.2.2.1 _ _ _ rfl) (k_appendFour (T := T) (L := L) (P := P) (I := J4) (hn := hn) (c := c + 16) hW (by rw [p4.2.2.1]; omega) (by omega)) (by decide) (Nat.le_of_ble_eq_true rfl) ?_
    rintro _ J5 ⟨rfl, p5⟩
    refine r_aload_n K dX7_feed_60 rfl ?_
    refine r_getR K dX7_feed_61 f_X7_14 rfl (by first | assumption | exact hW.1 _ _ rfl | exact hW.2.2.1 _ _ _ rfl) (by first | assumption | exact hW.1 _ _ rfl | exact hW.2.2.1 _ _ _ rfl) ?_
    refine r_getI K dX7_feed_64 f_X7_56 rfl (by first | assumption | exact hW.1 _ _ rfl | exact hW.2.2.1 _ _ _ rfl) ?_
    rw [p5.2.2.1]
    exact q_iret K hQ rfl dX7_feed_67 (Nat.le_refl _) (Nat.le_refl _) (⟨rfl, rfl, rfl, rfl, Or.inr ⟨by omega, by rw [show ((c + 16 : Nat) : Int) + 4 = (c : Int) + 20 by omega], fun k k1 k2 => by rw [p5.1 k k1 k2, p4.1 k k1 k2, p3.1 k k1 k2, p2.1 k k1 k2, p1.1 k k1 k2], by rw [p5.2.2.1]; omega, fun j => by
      rw [p5.2.2.2 j, p4.2.2.2 j, p3.2.2.2 j, p2.2.2.2 j, p1.2.2.2 j]
      by_cases h5 : c + 16 ≤ j ∧ j < c + 16 + 4
      · rw [if_pos h5, if_pos (by omega), show (j - c) / 4 = 4 by omega, show (j - c) % 4 = j - (c + 16) by omega]; rfl
      · rw [if_neg h5]
        by_cases h4 : c + 12 ≤ j ∧ j < c + 12 + 4
        · rw [if_pos h4, if_pos (by omega), show (j - c) / 4 = 3 by omega, show (j - c) % 4 = j - (c + 12) by omega]; rfl
        · rw [if_neg h4]
          by_cases h3 : c + 8 ≤ j ∧ j < c + 8 + 4
          · rw [if_pos h3, if_pos (by omega), show (j - c) / 4 = 2 by omega, show (j - c) % 4 = j - (c + 8) by omega]; rfl
          · rw [if_neg h3]
            by_cases h2 : c + 4 ≤ j ∧ j < c + 4 + 4
            · rw [if_pos h2, if_pos (by omega), show (j - c) / 4 = 1 by omega, show (j - c) % 4 = j - (c + 4) by omega]; rfl
            · rw [if_neg h2]
              by_cases h1 : c ≤ j ∧ j < c + 4
              · rw [if_pos (by omega), if_pos (by omega), show (j - c) / 4 = 0 by omega, show (j - c) % 4 = j - c by omega]; rfl
              · rw [if_neg (by omega), if_neg (by omega)]⟩⟩)
  · refine r_iconst K dX7_feed_16 ?_
    exact q_iret K hQ rfl dX7_feed_17 (Nat.le_refl _) (Nat.le_refl _) (⟨rfl, rfl, rfl, rfl, Or.inl ⟨by omega, rfl, rfl⟩⟩)
set_option maxHeartbeats 4000000 in
set_option maxRecDepth 100000 in
theorem k_X7_told {v i : Int} (hW : Wd T L P) : pX7_told [.inr (some 3), .inl v, .inl i] T L P I hn (.inl (if hasV I v then (if i = -1 then I (18 + 2 * v.toNat) 1 else if 0 ≤ i ∧ i < I (18 + 2 * v.toNat) 1 ∧ i < 120 then I (19 + 2 * v.toNat) i.toNat else -1) else -1)) := by
  refine CT.by (by decide) (Nat.le_of_ble_eq_true rfl) fun X Y Q hQ K hv => ?_
  refine r_aload_n K dX7_told_0 rfl ?_
  refine r_getR K dX7_told_1 f_X7_21 rfl (by first | assumption | exact hW.1 _ _ rfl | exact hW.2.2.1 _ _ _ rfl) (by first | assumption | exact hW.1 _ _ rfl | exact hW.2.2.1 _ _ _ rfl) ?_
  refine r_iload_n K dX7_told_4 rfl ?_
  refine rcV1p K dX7_told_5 c_X7_67 v_X5_has (hW.1 6 5 rfl) (k_has hW) (by decide) (Nat.le_of_ble_eq_true rfl) ?_
  refine r_if_ne K 13 dX7_told_8 (by decide) (fun c8 => ?_) (fun c8 => ?_)
  · have h1 : hasV I v := by
      by_cases q : hasV I v
      · exact q
      · rw [if_neg q] at c8; exact absurd rfl c8
    obtain ⟨v0, rfl⟩ : ∃ n : Nat, v = n := ⟨v.toNat, by have := h1.1; omega⟩
    have v05 : v0 < 5 := by have := h1.2.1; omega
    refine r_aload_n K dX7_told_13 rfl ?_
    refine r_getR K dX7_told_14 f_X7_21 rfl (by first | assumption | exact hW.1 _ _ rfl | exact hW.2.2.1 _ _ _ rfl) (by first | assumption | exact hW.1 _ _ rfl | exact hW.2.2.1 _ _ _ rfl) ?_
    refine r_iload_n K dX7_told_17 rfl ?_
    refine rcV1p K dX7_told_18 c_X7_71 v_X5_bytesOf (hW.1 6 5 rfl) (k_bytesOf hW v05) (by decide) (Nat.le_of_ble_eq_true rfl) ?_
    obtain ⟨w1, w2, w3, w4, w5⟩ := hW.ver v05
    refine r_astore_n K dX7_told_21 (by decide) ?_
    refine r_iload_n K dX7_told_22 rfl ?_
    refine r_iconst K dX7_told_23 ?_
    refine r_icmp_ne K 34 dX7_told_24 (by decide) (fun c24 => ?_) (fun c24 => ?_)
    · refine r_aload_n K dX7_told_34 rfl ?_
      refine r_iload_n K dX7_told_35 rfl ?_
      refine rcV1p K dX7_told_36 c_X7_75 v_X0_at (by first | assumption | exact hW.1 _ _ rfl | exact hW.2.2.1 _ _ _ rfl) (k_at w2 w3 w4 (by omega)) (by decide) (Nat.le_of_ble_eq_true rfl) ?_
      rw [w5]
      exact q_iret K hQ rfl dX7_told_39 (Nat.le_refl _) (Nat.le_refl _) (⟨by rw [if_pos h1]; simp only [Int.toNat_natCast]; first | rw [if_pos c24] | (rw [if_neg c24]; rfl), rfl, rfl, rfl, rfl, rfl⟩)
    · refine r_aload_n K dX7_told_27 rfl ?_
      refine r_getI K dX7_told_28 f_X7_56 rfl (by first | assumption | exact hW.1 _ _ rfl | exact hW.2.2.1 _ _ _ rfl) ?_
      refine r_goto K 39 dX7_told_31 (by decide) ?_
      exact q_iret K hQ rfl dX7_told_39 (Nat.le_refl _) (Nat.le_refl _) (⟨by rw [if_pos h1]; simp only [Int.toNat_natCast]; first | rw [if_pos c24] | (rw [if_neg c24]; rfl), rfl, rfl, rfl, rfl, rfl⟩)
  · have h1 : ¬ hasV I v := fun q => by rw [if_pos q] at c8; exact absurd c8 (by decide)
    refine r_iconst K dX7_told_11 ?_
    exact q_iret K hQ rfl dX7_told_12 (Nat.le_refl _) (Nat.le_refl _) (⟨by rw [if_neg h1], rfl, rfl, rfl, rfl, rfl⟩)
set_option maxHeartbeats 4000000 in
set_option maxRecDepth 100000 in
theorem k_X7_check {v : Int} (hW : Wd T L P) (hV : VS I) : pX7_check [.inr (some 3), .inl v] T L P I hn (.inl (if hasV I v then ck (I (19 + 2 * v.toNat)) (I (18 + 2 * v.toNat) 1).toNat else -1)) := by
  refine CT.by (by decide) (Nat.le_of_ble_eq_true rfl) fun X Y Q hQ K hv => ?_
  refine r_aload_n K dX7_check_0 rfl ?_
  refine r_getR K dX7_check_1 f_X7_21 rfl (by first | assumption | exact hW.1 _ _ rfl | exact hW.2.2.1 _ _ _ rfl) (by first | assumption | exact hW.1 _ _ rfl | exact hW.2.2.1 _ _ _ rfl) ?_
  refine r_iload_n K dX7_check_4 rfl ?_
  refine rcV1p K dX7_check_5 c_X7_67 v_X5_has (hW.1 6 5 rfl) (k_has hW) (by decide) (Nat.le_of_ble_eq_true rfl) ?_
  refine r_if_eq K 25 dX7_check_8 (by decide) (fun c8 => ?_) (fun c8 => ?_)
  · have h1 : ¬ hasV I v := fun q => by rw [if_pos q] at c8; exact absurd c8 (by decide)
    refine r_iconst K dX7_check_25 ?_
    exact q_iret K hQ rfl dX7_check_26 (Nat.le_refl _) (Nat.le_refl _) (⟨by first | (rw [if_pos h1]; simp only [Int.toNat_natCast]) | rw [if_neg h1], rfl, rfl, rfl, rfl, rfl⟩)
  · have h1 : hasV I v := by
      by_cases q : hasV I v
      · exact q
      · rw [if_neg q] at c8; exact absurd rfl c8
    obtain ⟨v0, rfl⟩ : ∃ n : Nat, v = n := ⟨v.toNat, by have := h1.1; omega⟩
    have v05 : v0 < 5 := by have := h1.2.1; omega
    refine r_aload_n K dX7_check_11 rfl ?_
    refine r_getR K dX7_check_12 f_X7_21 rfl (by first | assumption | exact hW.1 _ _ rfl | exact hW.2.2.1 _ _ _ rfl) (by first | assumption | exact hW.1 _ _ rfl | exact hW.2.2.1 _ _ _ rfl) ?_
    refine r_iload_n K dX7_check_15 rfl ?_
    refine rcV1p K dX7_check_16 c_X7_71 v_X5_bytesOf (hW.1 6 5 rfl) (k_bytesOf hW v05) (by decide) (Nat.le_of_ble_eq_true rfl) ?_
    obtain ⟨w1, w2, w3, w4, w5⟩ := hW.ver v05
    have hvs := hV v0 v05
    refine rcV0p K dX7_check_19 c_X7_79 v_X0_checksum (by first | assumption | exact hW.1 _ _ rfl | exact hW.2.2.1 _ _ _ rfl) (k_checksum w2 w3 w4 (by omega) (by omega) (by omega) (by rw [w5]; exact hvs.2.2)) (by decide) (Nat.le_of_ble_eq_true rfl) ?_
    refine r_goto K 26 dX7_check_22 (by decide) ?_
    exact q_iret K hQ rfl dX7_check_26 (Nat.le_refl _) (Nat.le_refl _) (⟨by first | (rw [if_pos h1]; simp only [Int.toNat_natCast]) | rw [if_neg h1], rfl, rfl, rfl, rfl, rfl⟩)
set_option maxHeartbeats 4000000 in
set_option maxRecDepth 100000 in
theorem k_X7_cost {a b : Int} (hC : CI T L P I hn) : gX7_cost 5 486 [.inr (some 3), .inl a, .inl b] T L P I hn (sPo I (some (.inl (prcI I a b)))) := by
  refine CT.by (by decide) (Nat.le_of_ble_eq_true rfl) fun X Y Q hQ K hv => ?_
  have hW := hC.1
  refine r_aload_n K dX7_cost_0 rfl ?_
  refine r_getR K dX7_cost_1 f_X7_21 rfl (by first | assumption | exact hW.1 _ _ rfl | exact hW.2.2.1 _ _ _ rfl) (by first | assumption | exact hW.1 _ _ rfl | exact hW.2.2.1 _ _ _ rfl) ?_
  refine r_iload_n K dX7_cost_4 rfl ?_
  refine r_iload_n K dX7_cost_5 rfl ?_
  refine rcV2g K dX7_cost_6 c_X7_83 v_X5_priceOf (by first | assumption | exact hW.1 _ _ rfl | exact hW.2.2.1 _ _ _ rfl) (k_priceOf hC) (by decide) (Nat.le_of_ble_eq_true rfl) ?_
  rintro _ T1 L1 P1 J n1 ⟨hC1, hfr, rfl⟩
  exact q_iret K hQ rfl dX7_cost_9 (Nat.le_of_ble_eq_true rfl) (Nat.le_of_ble_eq_true rfl) (⟨hC1, hfr, rfl⟩)
set_option maxHeartbeats 4000000 in
set_option maxRecDepth 100000 in
theorem k_X7_install {v : Int} (hW : Wd T L P) (hV : VS I) : iX7_install [.inr (some 3), .inl v] T L P I hn (fun r J => r = some (.inl (if hasV I v then 1 else 0)) ∧ J = if hasV I v then mI (mI (mI (mR I 43 (fun j => if j < (I (18 + 2 * v.toNat) 1).toNat then I (19 + 2 * v.toNat) j else if j < 120 then 0 else I 43 j)) 42 1 (I (18 + 2 * v.toNat) 1)) 41 9 0) 41 10 0 else I) := by
  refine CT.by (by decide) (Nat.le_of_ble_eq_true rfl) fun X Y Q hQ K hv => ?_
  refine r_aload_n K dX7_install_0 rfl ?_
  refine r_getR K dX7_install_1 f_X7_21 rfl (by first | assumption | exact hW.1 _ _ rfl | exact hW.2.2.1 _ _ _ rfl) (by first | assumption | exact hW.1 _ _ rfl | exact hW.2.2.1 _ _ _ rfl) ?_
  refine r_iload_n K dX7_install_4 rfl ?_
  refine rcV1p K dX7_install_5 c_X7_67 v_X5_has (hW.1 6 5 rfl) (k_has hW) (by decide) (Nat.le_of_ble_eq_true rfl) ?_
  refine r_if_ne K 13 dX7_install_8 (by decide) (fun c8 => ?_) (fun c8 => ?_)
  · have h1 : hasV I v := by
      by_cases q : hasV I v
      · exact q
      · rw [if_neg q] at c8; exact absurd rfl c8
    obtain ⟨v0, rfl⟩ : ∃ n : Nat, v = n := ⟨v.toNat, by have := h1.1; omega⟩
    have v05 : v0 < 5 := by have := h1.2.1; omega
    refine r_aload_n K dX7_install_13 rfl ?_
    refine r_getR K dX7_install_14 f_X7_45 rfl (by first | assumption | exact hW.1 _ _ rfl | exact hW.2.2.1 _ _ _ rfl) (by first | assumption | exact hW.1 _ _ rfl | exact hW.2.2.1 _ _ _ rfl) ?_
    refine r_aload_n K dX7_install_17 rfl ?_
    refine r_getR K dX7_install_18 f_X7_21 rfl (by first | assumption | exact hW.1 _ _ rfl | exact hW.2.2.1 _ _ _ rfl) (by first | assumption | exact hW.1 _ _ rfl | exact hW.2.2.1 _ _ _ rfl) ?_
    refine r_iload_n K dX7_install_21 rfl ?_
    refine rcV1p K dX7_install_22 c_X7_71 v_X5_bytesOf (hW.1 6 5 rfl) (k_bytesOf hW v05) (by decide) (Nat.le_of_ble_eq_true rfl) ?_
    refine rcV1i K dX7_install_25 c_X7_120 v_X1_load (by first | assumption | exact hW.1 _ _ rfl | exact hW.2.2.1 _ _ _ rfl) (k_load hW hV v05) (by decide) (Nat.le_of_ble_eq_true rfl) ?_
    rintro _ J1 ⟨rfl, hJ1⟩
    refine r_iconst K dX7_install_28 ?_
    exact q_zret K hQ rfl dX7_install_29 (by first | exact Or.inl rfl | exact Or.inr rfl) (Nat.le_refl _) (Nat.le_refl _) (⟨rfl, rfl, rfl, rfl, by rw [if_pos h1], by rw [if_pos h1, hJ1, Int.toNat_natCast]⟩)
  · have h1 : ¬ hasV I v := fun q => by rw [if_pos q] at c8; exact absurd c8 (by decide)
    refine r_iconst K dX7_install_11 ?_
    exact q_zret K hQ rfl dX7_install_12 (by first | exact Or.inl rfl | exact Or.inr rfl) (Nat.le_refl _) (Nat.le_refl _) (⟨rfl, rfl, rfl, rfl, by rw [if_neg h1], by rw [if_neg h1]⟩)
set_option maxHeartbeats 4000000 in
set_option maxRecDepth 100000 in
theorem k_X7_write {n : Int} (hW : Wd T L P) (hD : I 41 9 ≠ 0 → DB I) (h8 : 0 ≤ I 41 8 ∧ I 41 8 ≤ 1000000000) : iX7_write [.inr (some 3), .inl n] T L P I hn (fun r J => (¬ (0 ≤ n ∧ n ≤ 1000) ∧ r = some (.inl (-1)) ∧ J = I) ∨ ((0 ≤ n ∧ n ≤ 1000) ∧ (I 41 9 = 0 ∨ I 41 10 ≠ 0) ∧ r = some (.inl (-2)) ∧ J = I) ∨ ((0 ≤ n ∧ n ≤ 1000) ∧ I 41 9 ≠ 0 ∧ I 41 10 = 0 ∧ r = some (.inl ((dIt n.toNat I).2 : Nat)) ∧ J = mI (dIt n.toNat I).1 41 8 (I 41 8 + (dIt n.toNat I).2))) := by
  refine CT.by (by decide) (Nat.le_of_ble_eq_true rfl) fun X Y Q hQ K hv => ?_
  refine r_iload_n K dX7_write_0 rfl ?_
  refine r_if_lt K 11 dX7_write_1 (by decide) (fun c1 => ?_) (fun c1 => ?_)
  · refine r_iconst K dX7_write_11 ?_
    exact q_iret K hQ rfl dX7_write_12 (Nat.le_refl _) (Nat.le_refl _) (⟨rfl, rfl, rfl, rfl, Or.inl ⟨by omega, rfl, rfl⟩⟩)
  · refine r_iload_n K dX7_write_4 rfl ?_
    refine r_sipush K dX7_write_5 ?_
    refine r_icmp_le K 13 dX7_write_8 (by decide) (fun c8 => ?_) (fun c8 => ?_)
    · refine r_aload_n K dX7_write_13 rfl ?_
      refine r_getR K dX7_write_14 f_X7_45 rfl (by first | assumption | exact hW.1 _ _ rfl | exact hW.2.2.1 _ _ _ rfl) (by first | assumption | exact hW.1 _ _ rfl | exact hW.2.2.1 _ _ _ rfl) ?_
      refine r_getI K dX7_write_17 f_X7_124 rfl (by first | assumption | exact hW.1 _ _ rfl | exact hW.2.2.1 _ _ _ rfl) ?_
      refine r_if_eq K 33 dX7_write_20 (by decide) (fun c20 => ?_) (fun c20 => ?_)
      · refine r_bipush K dX7_write_33 ?_
        exact q_iret K hQ rfl dX7_write_35 (Nat.le_refl _) (Nat.le_refl _) (⟨rfl, rfl, rfl, rfl, Or.inr (Or.inl ⟨by omega, by first | exact Or.inl c20 | exact Or.inr c30, rfl, rfl⟩)⟩)
      · refine r_aload_n K dX7_write_23 rfl ?_
        refine r_getR K dX7_write_24 f_X7_45 rfl (by first | assumption | exact hW.1 _ _ rfl | exact hW.2.2.1 _ _ _ rfl) (by first | assumption | exact hW.1 _ _ rfl | exact hW.2.2.1 _ _ _ rfl) ?_
        refine r_getI K dX7_write_27 f_X7_138 rfl (by first | assumption | exact hW.1 _ _ rfl | exact hW.2.2.1 _ _ _ rfl) ?_
        refine r_if_eq K 36 dX7_write_30 (by decide) (fun c30 => ?_) (fun c30 => ?_)
        · obtain ⟨n0, rfl⟩ : ∃ k : Nat, n = k := ⟨n.toNat, by omega⟩
          refine r_aload_n K dX7_write_36 rfl ?_
          refine r_getR K dX7_write_37 f_X7_45 rfl (by first | assumption | exact hW.1 _ _ rfl | exact hW.2.2.1 _ _ _ rfl) (by first | assumption | exact hW.1 _ _ rfl | exact hW.2.2.1 _ _ _ rfl) ?_
          refine r_iload_n K dX7_write_40 rfl ?_
          refine rcV1i K dX7_write_41 c_X7_141 v_X1_makeWrites (by first | assumption | exact hW.1 _ _ rfl | exact hW.2.2.1 _ _ _ rfl) (k_makeWrites hW (by omega) hD h8) (by decide) (Nat.le_of_ble_eq_true rfl) ?_
          rintro _ J1 ⟨rfl, hJ1⟩
          exact q_iret K hQ rfl dX7_write_44 (Nat.le_refl _) (Nat.le_refl _) (⟨rfl, rfl, rfl, rfl, Or.inr (Or.inr ⟨by omega, c20, c30, by rw [Int.toNat_natCast], by rw [Int.toNat_natCast]; exact hJ1⟩)⟩)
        · refine r_bipush K dX7_write_33 ?_
          exact q_iret K hQ rfl dX7_write_35 (Nat.le_refl _) (Nat.le_refl _) (⟨rfl, rfl, rfl, rfl, Or.inr (Or.inl ⟨by omega, by first | exact Or.inl c20 | exact Or.inr c30, rfl, rfl⟩)⟩)
    · refine r_iconst K dX7_write_11 ?_
      exact q_iret K hQ rfl dX7_write_12 (Nat.le_refl _) (Nat.le_refl _) (⟨rfl, rfl, rfl, rfl, Or.inl ⟨by omega, rfl, rfl⟩⟩)
set_option maxHeartbeats 4000000 in
set_option maxRecDepth 100000 in
theorem k_X7_cut (hW : Wd T L P) : iX7_cut [.inr (some 3)] T L P I hn (fun r J => r = some (.inl (if I 41 9 ≠ 0 ∧ I 41 10 = 0 then 1 else 0)) ∧ J = if I 41 9 ≠ 0 ∧ I 41 10 = 0 then mI I 41 10 1 else I) := by
  refine CT.by (by decide) (Nat.le_of_ble_eq_true rfl) fun X Y Q hQ K hv => ?_
  refine r_aload_n K dX7_cut_0 rfl ?_
  refine r_getR K dX7_cut_1 f_X7_45 rfl (by first | assumption | exact hW.1 _ _ rfl | exact hW.2.2.1 _ _ _ rfl) (by first | assumption | exact hW.1 _ _ rfl | exact hW.2.2.1 _ _ _ rfl) ?_
  refine r_getI K dX7_cut_4 f_X7_124 rfl (by first | assumption | exact hW.1 _ _ rfl | exact hW.2.2.1 _ _ _ rfl) ?_
  refine r_if_eq K 20 dX7_cut_7 (by decide) (fun c7 => ?_) (fun c7 => ?_)
  · refine r_iconst K dX7_cut_20 ?_
    exact q_zret K hQ rfl dX7_cut_21 (by first | exact Or.inl rfl | exact Or.inr rfl) (Nat.le_refl _) (Nat.le_refl _) (⟨rfl, rfl, rfl, rfl, by first | rw [if_pos (by omega)] | rw [if_neg (by omega)], by first | rw [if_pos (by omega)] | rw [if_neg (by omega)]⟩)
  · refine r_aload_n K dX7_cut_10 rfl ?_
    refine r_getR K dX7_cut_11 f_X7_45 rfl (by first | assumption | exact hW.1 _ _ rfl | exact hW.2.2.1 _ _ _ rfl) (by first | assumption | exact hW.1 _ _ rfl | exact hW.2.2.1 _ _ _ rfl) ?_
    refine r_getI K dX7_cut_14 f_X7_138 rfl (by first | assumption | exact hW.1 _ _ rfl | exact hW.2.2.1 _ _ _ rfl) ?_
    refine r_if_eq K 22 dX7_cut_17 (by decide) (fun c17 => ?_) (fun c17 => ?_)
    · refine r_aload_n K dX7_cut_22 rfl ?_
      refine r_getR K dX7_cut_23 f_X7_45 rfl (by first | assumption | exact hW.1 _ _ rfl | exact hW.2.2.1 _ _ _ rfl) (by first | assumption | exact hW.1 _ _ rfl | exact hW.2.2.1 _ _ _ rfl) ?_
      refine r_iconst K dX7_cut_26 ?_
      refine r_putI K dX7_cut_27 f_X7_138 rfl rfl (Or.inr ⟨rfl, by first | exact Or.inl rfl | exact Or.inr rfl⟩) (by first | assumption | exact hW.1 _ _ rfl | exact hW.2.2.1 _ _ _ rfl) ?_
      refine r_iconst K dX7_cut_30 ?_
      exact q_zret K hQ rfl dX7_cut_31 (by first | exact Or.inl rfl | exact Or.inr rfl) (Nat.le_refl _) (Nat.le_refl _) (⟨rfl, rfl, rfl, rfl, by first | rw [if_pos (by omega)] | rw [if_neg (by omega)], by first | rw [if_pos (by omega)] | rw [if_neg (by omega)]⟩)
    · refine r_iconst K dX7_cut_20 ?_
      exact q_zret K hQ rfl dX7_cut_21 (by first | exact Or.inl rfl | exact Or.inr rfl) (Nat.le_refl _) (Nat.le_refl _) (⟨rfl, rfl, rfl, rfl, by first | rw [if_pos (by omega)] | rw [if_neg (by omega)], by first | rw [if_pos (by omega)] | rw [if_neg (by omega)]⟩)
set_option maxHeartbeats 4000000 in
set_option maxRecDepth 100000 in
theorem k_X7_on (hW : Wd T L P) (h1 : 0 ≤ I 41 4 ∧ I 41 4 ≤ 1000) (h2 : -1 ≤ I 41 7 ∧ I 41 7 ≤ 1000) (h3 : 0 ≤ I 44 3 ∧ I 44 3 ≤ 1000) : iX7_on [.inr (some 3)] T L P I hn (fun r J => (I 41 10 = 0 ∧ r = some (.inl (-2)) ∧ J = I) ∨ (I 41 10 ≠ 0 ∧ r = some (.inl (if I 41 9 ≠ 0 then dAll I - (if I 41 7 = -1 then 0 else I 41 4 + 1 + 2 * I 41 7) else 0)) ∧ J = mI (mI I 41 10 0) 41 6 (if I 41 7 = -1 then 0 else I 41 4 + 1 + 2 * I 41 7))) := by
  refine CT.by (by decide) (Nat.le_of_ble_eq_true rfl) fun X Y Q hQ K hv => ?_
  refine r_aload_n K dX7_on_0 rfl ?_
  refine r_getR K dX7_on_1 f_X7_45 rfl (by first | assumption | exact hW.1 _ _ rfl | exact hW.2.2.1 _ _ _ rfl) (by first | assumption | exact hW.1 _ _ rfl | exact hW.2.2.1 _ _ _ rfl) ?_
  refine r_getI K dX7_on_4 f_X7_138 rfl (by first | assumption | exact hW.1 _ _ rfl | exact hW.2.2.1 _ _ _ rfl) ?_
  refine r_if_ne K 13 dX7_on_7 (by decide) (fun c7 => ?_) (fun c7 => ?_)
  · refine r_aload_n K dX7_on_13 rfl ?_
    refine r_getR K dX7_on_14 f_X7_45 rfl (by first | assumption | exact hW.1 _ _ rfl | exact hW.2.2.1 _ _ _ rfl) (by first | assumption | exact hW.1 _ _ rfl | exact hW.2.2.1 _ _ _ rfl) ?_
    refine rcV0i K dX7_on_17 c_X7_144 v_X1_resume (by first | assumption | exact hW.1 _ _ rfl | exact hW.2.2.1 _ _ _ rfl) (k_resume hW h1 h2) (by decide) (Nat.le_of_ble_eq_true rfl) ?_
    rintro _ J1 ⟨rfl, hJ1⟩
    have e4 : J1 41 4 = I 41 4 := by rw [hJ1, mI_nj (by decide), mI_nj (by decide)]
    have e9 : J1 41 9 = I 41 9 := by rw [hJ1, mI_nj (by decide), mI_nj (by decide)]
    have e44 : J1 44 = I 44 := by rw [hJ1, mI_ne (by decide), mI_ne (by decide)]
    have e6 : J1 41 6 = (if I 41 7 = -1 then 0 else I 41 4 + 1 + 2 * I 41 7) := by rw [hJ1, mI_eq]
    refine r_aload_n K dX7_on_20 rfl ?_
    refine r_getR K dX7_on_21 f_X7_45 rfl (by first | assumption | exact hW.1 _ _ rfl | exact hW.2.2.1 _ _ _ rfl) (by first | assumption | exact hW.1 _ _ rfl | exact hW.2.2.1 _ _ _ rfl) ?_
    refine rcV0p K dX7_on_24 c_X7_135 v_X1_writesLeft (by first | assumption | exact hW.1 _ _ rfl | exact hW.2.2.1 _ _ _ rfl) (k_writesLeft (I := J1) hW (by omega) (by rw [e44]; exact h3) (by rw [e6]; split <;> omega)) (by decide) (Nat.le_of_ble_eq_true rfl) ?_
    rw [e9, dAll_keep e4 e44, e6]
    exact q_iret K hQ rfl dX7_on_27 (Nat.le_refl _) (Nat.le_refl _) (⟨rfl, rfl, rfl, rfl, Or.inr ⟨c7, rfl, hJ1⟩⟩)
  · refine r_bipush K dX7_on_10 ?_
    exact q_iret K hQ rfl dX7_on_12 (Nat.le_refl _) (Nat.le_refl _) (⟨rfl, rfl, rfl, rfl, Or.inl ⟨by omega, rfl, rfl⟩⟩)
set_option maxHeartbeats 4000000 in
set_option maxRecDepth 100000 in
theorem k_X7_device {what : Int} (hW : Wd T L P) (ha : 0 ≤ I 42 1 ∧ I 42 1 ≤ 120) (hb : ∀ j, j < 120 → 0 ≤ I 43 j ∧ I 43 j < 256) : pX7_device [.inr (some 3), .inl what] T L P I hn (.inl (if what < 10 then dTell I what else if what - 10 < 120 then I 43 (what - 10).toNat else -1)) := by
  refine CT.by (by decide) (Nat.le_of_ble_eq_true rfl) fun X Y Q hQ K hv => ?_
  have hx : rg what := hv (.inl what) (List.mem_cons_of_mem _ List.mem_cons_self)
  obtain ⟨hx1, hx2⟩ := hx
  refine r_iload_n K dX7_device_0 rfl ?_
  refine r_bipush K dX7_device_1 ?_
  refine r_icmp_ge K 17 dX7_device_3 (by decide) (fun c3 => ?_) (fun c3 => ?_)
  · refine r_aload_n K dX7_device_17 rfl ?_
    refine r_getR K dX7_device_18 f_X7_45 rfl (by first | assumption | exact hW.1 _ _ rfl | exact hW.2.2.1 _ _ _ rfl) (by first | assumption | exact hW.1 _ _ rfl | exact hW.2.2.1 _ _ _ rfl) ?_
    refine r_iload_n K dX7_device_21 rfl ?_
    refine r_bipush K dX7_device_22 ?_
    refine r_isub K dX7_device_24 ?_
    refine rcV1p K dX7_device_25 c_X7_149 v_X1_areaByte (by first | assumption | exact hW.1 _ _ rfl | exact hW.2.2.1 _ _ _ rfl) (k_areaByte hW) (by decide) (Nat.le_of_ble_eq_true rfl) ?_
    exact q_iret K hQ rfl dX7_device_28 (Nat.le_refl _) (Nat.le_refl _) (⟨by
      by_cases p : what < 10
      · first | omega | rw [if_pos p]
      · rw [if_neg p]
        first
        | omega
        | by_cases q : what - 10 < 120
          · rw [if_pos q, if_pos (show 0 ≤ what - 10 ∧ what - 10 < 120 from ⟨by omega, q⟩)]
          · rw [if_neg q, if_neg (show ¬ (0 ≤ what - 10 ∧ what - 10 < 120) from fun w => q w.2)], rfl, rfl, rfl, rfl, rfl⟩)
  · refine r_aload_n K dX7_device_6 rfl ?_
    refine r_getR K dX7_device_7 f_X7_45 rfl (by first | assumption | exact hW.1 _ _ rfl | exact hW.2.2.1 _ _ _ rfl) (by first | assumption | exact hW.1 _ _ rfl | exact hW.2.2.1 _ _ _ rfl) ?_
    refine r_iload_n K dX7_device_10 rfl ?_
    refine rcV1p K dX7_device_11 c_X7_147 v_X1_tell (by first | assumption | exact hW.1 _ _ rfl | exact hW.2.2.1 _ _ _ rfl) (k_X1_tell hW ha hb) (by decide) (Nat.le_of_ble_eq_true rfl) ?_
    refine r_goto K 28 dX7_device_14 (by decide) ?_
    exact q_iret K hQ rfl dX7_device_28 (Nat.le_refl _) (Nat.le_refl _) (⟨by
      by_cases p : what < 10
      · first | omega | rw [if_pos p]
      · rw [if_neg p]
        first
        | omega
        | by_cases q : what - 10 < 120
          · rw [if_pos q, if_pos (show 0 ≤ what - 10 ∧ what - 10 < 120 from ⟨by omega, q⟩)]
          · rw [if_neg q, if_neg (show ¬ (0 ≤ what - 10 ∧ what - 10 < 120) from fun w => q w.2)], rfl, rfl, rfl, rfl, rfl⟩)
set_option maxHeartbeats 4000000 in
set_option maxRecDepth 100000 in
theorem k_X7_fleet {v m : Int} (hW : Wd T L P) : iX7_fleet [.inr (some 3), .inl v, .inl m] T L P I hn (fun r J => r = some (.inl (if hasV I v ∧ 0 ≤ m ∧ m ≤ 1000 then 1 else 0)) ∧ J = if hasV I v ∧ 0 ≤ m ∧ m ≤ 1000 then mI I 51 v.toNat m else I) := by
  refine CT.by (by decide) (Nat.le_of_ble_eq_true rfl) fun X Y Q hQ K hv => ?_
  refine r_aload_n K dX7_fleet_0 rfl ?_
  refine r_getR K dX7_fleet_1 f_X7_21 rfl (by first | assumption | exact hW.1 _ _ rfl | exact hW.2.2.1 _ _ _ rfl) (by first | assumption | exact hW.1 _ _ rfl | exact hW.2.2.1 _ _ _ rfl) ?_
  refine r_iload_n K dX7_fleet_4 rfl ?_
  refine rcV1p K dX7_fleet_5 c_X7_67 v_X5_has (hW.1 6 5 rfl) (k_has hW) (by decide) (Nat.le_of_ble_eq_true rfl) ?_
  refine r_if_eq K 22 dX7_fleet_8 (by decide) (fun c8 => ?_) (fun c8 => ?_)
  · have h1 : ¬ hasV I v := fun q => by rw [if_pos q] at c8; exact absurd c8 (by decide)
    refine r_iconst K dX7_fleet_22 ?_
    exact q_zret K hQ rfl dX7_fleet_23 (by first | exact Or.inl rfl | exact Or.inr rfl) (Nat.le_refl _) (Nat.le_refl _) (⟨rfl, rfl, rfl, rfl, by rw [if_neg (fun q => by first | exact h1 q.1 | omega)], by rw [if_neg (fun q => by first | exact h1 q.1 | omega)]⟩)
  · have h1 : hasV I v := by
      by_cases q : hasV I v
      · exact q
      · rw [if_neg q] at c8; exact absurd rfl c8
    obtain ⟨v0, rfl⟩ : ∃ n : Nat, v = n := ⟨v.toNat, by have := h1.1; omega⟩
    have v05 : v0 < 5 := by have := h1.2.1; omega
    refine r_iload_n K dX7_fleet_11 rfl ?_
    refine r_if_lt K 22 dX7_fleet_12 (by decide) (fun c12 => ?_) (fun c12 => ?_)
    · refine r_iconst K dX7_fleet_22 ?_
      exact q_zret K hQ rfl dX7_fleet_23 (by first | exact Or.inl rfl | exact Or.inr rfl) (Nat.le_refl _) (Nat.le_refl _) (⟨rfl, rfl, rfl, rfl, by rw [if_neg (fun q => by first | exact h1 q.1 | omega)], by rw [if_neg (fun q => by first | exact h1 q.1 | omega)]⟩)
    · refine r_iload_n K dX7_fleet_15 rfl ?_
      refine r_sipush K dX7_fleet_16 ?_
      refine r_icmp_le K 24 dX7_fleet_19 (by decide) (fun c19 => ?_) (fun c19 => ?_)
      · refine r_aload_n K dX7_fleet_24 rfl ?_
        refine r_getR K dX7_fleet_25 f_X7_52 rfl (by first | assumption | exact hW.1 _ _ rfl | exact hW.2.2.1 _ _ _ rfl) (by first | assumption | exact hW.1 _ _ rfl | exact hW.2.2.1 _ _ _ rfl) ?_
        refine r_iload_n K dX7_fleet_28 rfl ?_
        refine r_iload_n K dX7_fleet_29 rfl ?_
        refine rcV2i K dX7_fleet_30 c_X7_152 v_X2_setDevices (by first | assumption | exact hW.1 _ _ rfl | exact hW.2.2.1 _ _ _ rfl) (k_setDevices hW v05) (by decide) (Nat.le_of_ble_eq_true rfl) ?_
        rintro _ J1 ⟨rfl, hJ1⟩
        refine r_iconst K dX7_fleet_33 ?_
        exact q_zret K hQ rfl dX7_fleet_34 (by first | exact Or.inl rfl | exact Or.inr rfl) (Nat.le_refl _) (Nat.le_refl _) (⟨rfl, rfl, rfl, rfl, by rw [if_pos ⟨h1, by omega, by omega⟩], by rw [if_pos ⟨h1, by omega, by omega⟩, hJ1, Int.toNat_natCast]⟩)
      · refine r_iconst K dX7_fleet_22 ?_
        exact q_zret K hQ rfl dX7_fleet_23 (by first | exact Or.inl rfl | exact Or.inr rfl) (Nat.le_refl _) (Nat.le_refl _) (⟨rfl, rfl, rfl, rfl, by rw [if_neg (fun q => by first | exact h1 q.1 | omega)], by rw [if_neg (fun q => by first | exact h1 q.1 | omega)]⟩)
end PB1
