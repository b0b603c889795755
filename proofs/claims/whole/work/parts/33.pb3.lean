section PB3
variable {T L : Nat → Nat} {P : Nat → Nat → Option Nat} {I : Nat → Nat → Int} {hn : Nat}
/-- two traces, one through the other -/
def mS (s1 s2 : Nat → Int) (x : Nat) : Int := if 0 ≤ s2 x then s1 (s2 x).toNat else s2 x
def mB (b1 s2 b2 : Nat → Int) (x : Nat) : Int := if 0 ≤ s2 x then (b2 x + b1 (s2 x).toNat) % 256 else b2 x
theorem mch_cong {s b s' b' : Nat → Int} {n i : Nat} (h : ∀ x, x < n → s x = s' x ∧ (s x ≠ -1 → b x = b' x)) (h2 : ∀ x, x < n → -1 ≤ s x) (hi : i < n) : mch s b n i = mch s' b' n i := by
  unfold mch
  have e1 := h i hi
  rw [← e1.1]
  by_cases q : s i = -1
  · rw [if_pos q, if_pos q]
    have : lng (cAd s n i) 120 1 = lng (cAd s' n i) 120 1 := lng_cong (fun j _ _ => by
      unfold cAd
      by_cases w : i + j < n
      · rw [(h (i + j) w).1]
      · simp [w])
    rw [this]
  · rw [if_neg q, if_neg q, ← e1.2 q]
    have : lng (cAl s b n i) 120 1 = lng (cAl s' b' n i) 120 1 := lng_cong (fun j j1 _ => by
      unfold cAl
      by_cases w : i + j < n
      · have e2 := h (i + j) w
        have g1 := h2 i hi
        rw [← e2.1, ← e1.1, ← e1.2 q]
        by_cases w2 : s (i + j) = s i + j
        · rw [e2.2 (by omega)]
        · simp [w2]
      · simp [w])
    rw [this]
theorem mpos_cong {s b s' b' : Nat → Int} {n : Nat} (h : ∀ x, x < n → s x = s' x ∧ (s x ≠ -1 → b x = b' x)) (h2 : ∀ x, x < n → -1 ≤ s x) {N : Nat} (hN : ∀ k, k < N → mpos s b n k < n) : ∀ k, k ≤ N → mpos s b n k = mpos s' b' n k
  | 0, _ => rfl
  | k + 1, hk => by
    rw [mpos, mpos, ← mpos_cong h h2 hN k (by omega), mch_cong h h2 (hN k (by omega))]
theorem mcost_cong {s b s' b' : Nat → Int} {n : Nat} (h : ∀ x, x < n → s x = s' x ∧ (s x ≠ -1 → b x = b' x)) (h2 : ∀ x, x < n → -1 ≤ s x) {N : Nat} (hN : ∀ k, k < N → mpos s b n k < n) : ∀ k, k ≤ N → mcost s b n k = mcost s' b' n k
  | 0, _ => rfl
  | k + 1, hk => by
    rw [mcost, mcost, ← mpos_cong h h2 hN k (by omega), mcost_cong h h2 hN k (by omega), mch_cong h h2 (hN k (by omega))]
theorem MK.cong {s b s' b' : Nat → Int} {n a k0 k1 k2 k3 : Nat} {J : Nat → Nat → Int} (hM : MK s b n a k0 k1 k2 k3 J) (h : ∀ x, x < n → s x = s' x ∧ (s x ≠ -1 → b x = b' x)) (h2 : ∀ x, x < n → -1 ≤ s x) : MK s' b' n a k0 k1 k2 k3 J := by
  obtain ⟨N, m1, m2, m3, m4, m5⟩ := hM
  have e := mpos_cong h h2 m2
  refine ⟨N, by rw [← e N (Nat.le_refl _)]; exact m1, fun k hk => by rw [← e k (by omega)]; exact m2 k hk, m3, by rw [m4]; exact mcost_cong h h2 m2 N (Nat.le_refl _), fun k hk => ?_⟩
  rw [m5 k hk, ← e k (by omega), mch_cong h h2 (m2 k hk)]
abbrev sV (I : Nat → Nat → Int) (a b : Nat) : Nat → Int := srcF (vB I a) (vB I b) (vN I a) (vN I b)
abbrev bV (I : Nat → Nat → Int) (a b : Nat) : Nat → Int := pluF (vB I a) (vB I b) (vN I a) (vN I b)
abbrev allV (I : Nat → Nat → Int) (a b c : Int) : Prop := hasV I a ∧ hasV I b ∧ hasV I c
def mPo (I : Nat → Nat → Int) (a b c : Int) : Po := fun r T L P J hn => CI T L P J hn ∧ ((¬ allV I a b c ∧ r = some (.inl (-1)) ∧ J = I) ∨ (allV I a b c ∧ r = some (.inl (J 36 5)) ∧ (∀ k, k < 84 → k < 9 ∨ (17 < k ∧ k < 28) ∨ 40 < k → J k = I k) ∧ MK (mS (sV I a.toNat b.toNat) (sV I b.toNat c.toNat)) (mB (bV I a.toNat b.toNat) (sV I b.toNat c.toNat) (bV I b.toNat c.toNat)) (vN I c.toNat) 36 37 38 39 40 J))
theorem PK.src {A B : Nat → Int} {m n a k0 k1 k2 k3 x : Nat} {J : Nat → Nat → Int} (h : PK A B m n a k0 k1 k2 k3 J) (hn : n ≤ 120) (hx : x < n) : (srcF A B m n x = -1 ∨ (0 ≤ srcF A B m n x ∧ srcF A B m n x < m)) ∧ ((∀ j, j < n → 0 ≤ B j ∧ B j < 256) → 0 ≤ pluF A B m n x ∧ pluF A B m n x < 256) := by
  obtain ⟨N, h1, h2, -⟩ := h
  have := src_in hn h2 h1 hx
  refine ⟨?_, fun hB => ?_⟩
  · rcases this with h | h
    · exact Or.inl h.1
    · exact Or.inr ⟨h.1, h.2.1⟩
  · rcases this with h | h
    · rw [h.2]; exact hB x hx
    · exact h.2.2
set_option maxHeartbeats 4000000 in
set_option maxRecDepth 100000 in
theorem k_X7_melt {a b c : Int} (hC : CI T L P I hn) : gX7_melt 10 972 [.inr (some 3), .inl a, .inl b, .inl c] T L P I hn (mPo I a b c) := by
  refine CT.by (by decide) (Nat.le_of_ble_eq_true rfl) fun X Y Q hQ K hv => ?_
  have hW := hC.1
  refine r_aload_n K dX7_melt_0 rfl ?_
  refine r_getR K dX7_melt_1 f_X7_21 rfl (by first | assumption | exact hW.1 _ _ rfl | exact hW.2.2.1 _ _ _ rfl) (by first | assumption | exact hW.1 _ _ rfl | exact hW.2.2.1 _ _ _ rfl) ?_
  refine r_iload_n K dX7_melt_4 rfl ?_
  refine rcV1p K dX7_melt_5 c_X7_67 v_X5_has (hW.1 6 5 rfl) (k_has hW) (by decide) (Nat.le_of_ble_eq_true rfl) ?_
  refine r_if_eq K 33 dX7_melt_8 (by decide) (fun c8 => ?_) (fun c8 => ?_)
  · have h1 : ¬ hasV I a := fun q => by rw [if_pos q] at c8; exact absurd c8 (by decide)
    refine r_iconst K dX7_melt_33 ?_
    exact q_iret K hQ rfl dX7_melt_34 (Nat.le_of_ble_eq_true rfl) (Nat.le_of_ble_eq_true rfl) (⟨hC, Or.inl ⟨by first | exact fun q => h1 q.1 | exact fun q => h2 q.2.1 | exact fun q => h3 q.2.2, rfl, rfl⟩⟩)
  · have h1 : hasV I a := by
      by_cases q : hasV I a
      · exact q
      · rw [if_neg q] at c8; exact absurd rfl c8
    obtain ⟨a0, rfl⟩ : ∃ n : Nat, a = n := ⟨a.toNat, by have := h1.1; omega⟩
    have a05 : a0 < 5 := by have := h1.2.1; omega
    refine r_aload_n K dX7_melt_11 rfl ?_
    refine r_getR K dX7_melt_12 f_X7_21 rfl (by first | assumption | exact hW.1 _ _ rfl | exact hW.2.2.1 _ _ _ rfl) (by first | assumption | exact hW.1 _ _ rfl | exact hW.2.2.1 _ _ _ rfl) ?_
    refine r_iload_n K dX7_melt_15 rfl ?_
    refine rcV1p K dX7_melt_16 c_X7_67 v_X5_has (hW.1 6 5 rfl) (k_has hW) (by decide) (Nat.le_of_ble_eq_true rfl) ?_
    refine r_if_eq K 33 dX7_melt_19 (by decide) (fun c19 => ?_) (fun c19 => ?_)
    · have h2 : ¬ hasV I b := fun q => by rw [if_pos q] at c19; exact absurd c19 (by decide)
      refine r_iconst K dX7_melt_33 ?_
      exact q_iret K hQ rfl dX7_melt_34 (Nat.le_of_ble_eq_true rfl) (Nat.le_of_ble_eq_true rfl) (⟨hC, Or.inl ⟨by first | exact fun q => h1 q.1 | exact fun q => h2 q.2.1 | exact fun q => h3 q.2.2, rfl, rfl⟩⟩)
    · have h2 : hasV I b := by
        by_cases q : hasV I b
        · exact q
        · rw [if_neg q] at c19; exact absurd rfl c19
      obtain ⟨b0, rfl⟩ : ∃ n : Nat, b = n := ⟨b.toNat, by have := h2.1; omega⟩
      have b05 : b0 < 5 := by have := h2.2.1; omega
      refine r_aload_n K dX7_melt_22 rfl ?_
      refine r_getR K dX7_melt_23 f_X7_21 rfl (by first | assumption | exact hW.1 _ _ rfl | exact hW.2.2.1 _ _ _ rfl) (by first | assumption | exact hW.1 _ _ rfl | exact hW.2.2.1 _ _ _ rfl) ?_
      refine r_iload_n K dX7_melt_26 rfl ?_
      refine rcV1p K dX7_melt_27 c_X7_67 v_X5_has (hW.1 6 5 rfl) (k_has hW) (by decide) (Nat.le_of_ble_eq_true rfl) ?_
      refine r_if_ne K 35 dX7_melt_30 (by decide) (fun c30 => ?_) (fun c30 => ?_)
      · have h3 : hasV I c := by
          by_cases q : hasV I c
          · exact q
          · rw [if_neg q] at c30; exact absurd rfl c30
        obtain ⟨c0, rfl⟩ : ∃ n : Nat, c = n := ⟨c.toNat, by have := h3.1; omega⟩
        have c05 : c0 < 5 := by have := h3.2.1; omega
        refine r_aload_n K dX7_melt_35 rfl ?_
        refine r_getR K dX7_melt_36 f_X7_32 rfl (by first | assumption | exact hW.1 _ _ rfl | exact hW.2.2.1 _ _ _ rfl) (by first | assumption | exact hW.1 _ _ rfl | exact hW.2.2.1 _ _ _ rfl) ?_
        refine r_aload_n K dX7_melt_39 rfl ?_
        refine r_getR K dX7_melt_40 f_X7_21 rfl (by first | assumption | exact hW.1 _ _ rfl | exact hW.2.2.1 _ _ _ rfl) (by first | assumption | exact hW.1 _ _ rfl | exact hW.2.2.1 _ _ _ rfl) ?_
        refine r_iload_n K dX7_melt_43 rfl ?_
        refine r_iload_n K dX7_melt_44 rfl ?_
        refine rcV2g K dX7_melt_45 c_X7_87 v_X5_patchOf (hW.1 6 5 rfl) (k_patchOf hC a05 b05) (by decide) (Nat.le_of_ble_eq_true rfl) ?_
        rintro _ T1 L1 P1 J1 n1 ⟨hC1, hfr1, q, rfl, hG, hK⟩
        have hW1 := hC1.1
        obtain ⟨gq1, gq2, tq, ⟨u0, u1, u2, u3⟩, ⟨t0, t1, t2, t3⟩, l0, l1, l2, l3⟩ := hG
        obtain ⟨w1, w2, w3, w4, w5⟩ := hW1.ver b05
        have hvsb := hC.2.2.1 b0 b05
        have hvsa := hC.2.2.1 a0 a05
        have hvNb : ((vN I b0 : Nat) : Int) = I (18 + 2 * b0) 1 := Int.toNat_of_nonneg hvsb.1
        have hvNa : ((vN I a0 : Nat) : Int) = I (18 + 2 * a0) 1 := Int.toNat_of_nonneg hvsa.1
        have eK : PK (vB I a0) (vB I b0) (vN I a0) (vN I b0) q (q + 1) (q + 2) (q + 3) (q + 4) J1 := by
          unfold PKv at hK
          rw [hfr1 (19 + 2 * a0) (by omega) (by omega), hfr1 (19 + 2 * b0) (by omega) (by omega), hfr1 (18 + 2 * a0) (by omega) (by omega), hfr1 (18 + 2 * b0) (by omega) (by omega)] at hK
          exact hK
        refine r_aload_n K dX7_melt_48 rfl ?_
        refine r_getR K dX7_melt_49 f_X7_21 rfl (hW1.1 3 7 rfl) (hW1.2.2.1 3 1 6 rfl) ?_
        refine r_iload_n K dX7_melt_52 rfl ?_
        refine rcV1p K dX7_melt_53 c_X7_71 v_X5_bytesOf (hW1.1 6 5 rfl) (k_bytesOf hW1 b05) (by decide) (Nat.le_of_ble_eq_true rfl) ?_
        refine rcV2i K dX7_melt_56 c_X7_94 v_X6_follow (hW1.1 32 6 rfl) (k_follow (A := vB I a0) (n := vN I b0) (m := vN I a0) (t := 32) (tp := 33) (tb := 34) (k0 := q + 1) (k1 := q + 2) (k2 := q + 3) (k3 := q + 4) (f := 18 + 2 * b0) (fv := 19 + 2 * b0) (hW1.1 32 6 rfl) (hW1.2.2.1 32 0 _ rfl) (hW1.2.2.1 32 1 _ rfl) (hW1.1 33 10 rfl) (hW1.1 34 10 rfl) (hW1.2.1 33 120 rfl (by decide)) (hW1.2.1 34 120 rfl (by decide)) (by decide) tq u0 u1 u2 u3 t0 t1 t2 t3 l0 l1 l2 l3 (by omega) (by omega) (by omega) (by omega) (by omega) (by omega) (by omega) (by omega) w2 w3 w4 (by omega) (by omega) (by rw [hfr1 (18 + 2 * b0) (by omega) (by omega)]; omega) (by omega) (by omega) (by omega) (by omega) (by rw [hfr1 (19 + 2 * b0) (by omega) (by omega)]; exact eK)) (by decide) (Nat.le_of_ble_eq_true rfl) ?_
        rintro _ J2 ⟨rfl, hTK, hfr2, hfr2t⟩
        rw [hfr1 (19 + 2 * b0) (by omega) (by omega)] at hTK
        obtain ⟨hcn, htk⟩ := hTK
        have hC2 : CI T1 L1 P1 J2 n1 := hC1.cong (fun c hc => hfr2 c (by omega) (by omega) (by omega))
        refine r_aload_n K dX7_melt_59 rfl ?_
        refine r_getR K dX7_melt_60 f_X7_28 rfl (hW1.1 3 7 rfl) (hW1.2.2.1 3 2 28 rfl) ?_
        refine r_aload_n K dX7_melt_63 rfl ?_
        refine r_getR K dX7_melt_64 f_X7_21 rfl (hW1.1 3 7 rfl) (hW1.2.2.1 3 1 6 rfl) ?_
        refine r_iload_n K dX7_melt_67 rfl ?_
        refine r_iload_n K dX7_melt_68 rfl ?_
        refine rcV2g K dX7_melt_69 c_X7_87 v_X5_patchOf (hW1.1 6 5 rfl) (k_patchOf hC2 b05 c05) (by decide) (Nat.le_of_ble_eq_true rfl) ?_
        rintro _ T2 L2 P2 J3 n2 ⟨hC3, hfr3, q, rfl, hG, hK⟩
        have hfrI : ∀ k, 18 ≤ k → k ≤ 27 → J3 k = I k := fun k k1 k2 => by rw [hfr3 k (by omega) (by omega), hfr2 k (by omega) (by omega) (by omega), hfr1 k (by omega) (by omega)]
        have hW1 := hC3.1
        obtain ⟨gq1, gq2, tq, ⟨u0, u1, u2, u3⟩, ⟨t0, t1, t2, t3⟩, l0, l1, l2, l3⟩ := hG
        obtain ⟨w1, w2, w3, w4, w5⟩ := hW1.ver c05
        have hvsc := hC.2.2.1 c0 c05
        have hvsb2 := hC.2.2.1 b0 b05
        have hvNc : ((vN I c0 : Nat) : Int) = I (18 + 2 * c0) 1 := Int.toNat_of_nonneg hvsc.1
        have hvNb2 : ((vN I b0 : Nat) : Int) = I (18 + 2 * b0) 1 := Int.toNat_of_nonneg hvsb2.1
        have eK2 : PK (vB I b0) (vB I c0) (vN I b0) (vN I c0) q (q + 1) (q + 2) (q + 3) (q + 4) J3 := by
          unfold PKv at hK
          rw [hfrI (19 + 2 * b0) (by omega) (by omega), hfrI (19 + 2 * c0) (by omega) (by omega), hfrI (18 + 2 * b0) (by omega) (by omega), hfrI (18 + 2 * c0) (by omega) (by omega)] at hK
          exact hK
        refine r_aload_n K dX7_melt_72 rfl ?_
        refine r_getR K dX7_melt_73 f_X7_21 rfl (hW1.1 3 7 rfl) (hW1.2.2.1 3 1 6 rfl) ?_
        refine r_iload_n K dX7_melt_76 rfl ?_
        refine rcV1p K dX7_melt_77 c_X7_71 v_X5_bytesOf (hW1.1 6 5 rfl) (k_bytesOf hW1 c05) (by decide) (Nat.le_of_ble_eq_true rfl) ?_
        refine rcV2i K dX7_melt_80 c_X7_94 v_X6_follow (hW1.1 28 6 rfl) (k_follow (A := vB I b0) (n := vN I c0) (m := vN I b0) (t := 28) (tp := 29) (tb := 30) (k0 := q + 1) (k1 := q + 2) (k2 := q + 3) (k3 := q + 4) (f := 18 + 2 * c0) (fv := 19 + 2 * c0) (hW1.1 28 6 rfl) (hW1.2.2.1 28 0 _ rfl) (hW1.2.2.1 28 1 _ rfl) (hW1.1 29 10 rfl) (hW1.1 30 10 rfl) (hW1.2.1 29 120 rfl (by decide)) (hW1.2.1 30 120 rfl (by decide)) (by decide) tq u0 u1 u2 u3 t0 t1 t2 t3 l0 l1 l2 l3 (by omega) (by omega) (by omega) (by omega) (by omega) (by omega) (by omega) (by omega) w2 w3 w4 (by omega) (by omega) (by rw [hfrI (18 + 2 * c0) (by omega) (by omega)]; omega) (by omega) (by omega) (by omega) (by omega) (by rw [hfrI (19 + 2 * c0) (by omega) (by omega)]; exact eK2)) (by decide) (Nat.le_of_ble_eq_true rfl) ?_
        rintro _ J4 ⟨rfl, hTK2, hfr4, hfr4t⟩
        rw [hfrI (19 + 2 * c0) (by omega) (by omega)] at hTK2
        obtain ⟨hcn2, htk2⟩ := hTK2
        have hC4 : CI T2 L2 P2 J4 n2 := hC3.cong (fun c hc => hfr4 c (by omega) (by omega) (by omega))
        have e32 : J4 32 = J2 32 := by rw [hfr4 32 (by decide) (by decide) (by decide), hfr3 32 (by decide) (by decide)]
        have e33 : J4 33 = J2 33 := by rw [hfr4 33 (by decide) (by decide) (by decide), hfr3 33 (by decide) (by decide)]
        have e34 : J4 34 = J2 34 := by rw [hfr4 34 (by decide) (by decide) (by decide), hfr3 34 (by decide) (by decide)]
        have hb1 : ∀ j, j < vN I b0 → 0 ≤ vB I b0 j ∧ vB I b0 j < 256 := fun j hj => (hC.2.2.1 b0 b05).2.2 j (by omega)
        have hb2 : ∀ j, j < vN I c0 → 0 ≤ vB I c0 j ∧ vB I c0 j < 256 := fun j hj => (hC.2.2.1 c0 c05).2.2 j (by omega)
        refine r_aload_n K dX7_melt_83 rfl ?_
        refine r_getR K dX7_melt_84 f_X7_28 rfl (hW1.1 3 7 rfl) (hW1.2.2.1 3 2 28 rfl) ?_
        refine r_aload_n K dX7_melt_87 rfl ?_
        refine r_getR K dX7_melt_88 f_X7_32 rfl (hW1.1 3 7 rfl) (hW1.2.2.1 3 3 32 rfl) ?_
        refine rcV1i K dX7_melt_91 c_X7_98 v_X6_reachThrough (hW1.1 28 6 rfl) (k_reachThrough (n := vN I c0) (t := 28) (tp := 29) (tb := 30) (e := 32) (ep := 33) (eb := 34) (hW1.1 28 6 rfl) (hW1.2.2.1 28 0 29 rfl) (hW1.2.2.1 28 1 30 rfl) (hW1.1 29 10 rfl) (hW1.1 30 10 rfl) (hW1.2.1 29 120 rfl (by decide)) (hW1.2.1 30 120 rfl (by decide)) (hW1.1 32 6 rfl) (hW1.2.2.1 32 0 33 rfl) (hW1.2.2.1 32 1 34 rfl) (hW1.1 33 10 rfl) (hW1.1 34 10 rfl) (hW1.2.1 33 120 rfl (by decide)) (hW1.2.1 34 120 rfl (by decide)) (by decide) (by decide) (by decide) (by decide) (by decide) hcn2 (by omega) (by rw [e32, hcn]; omega) (fun x hx => by rw [(htk2 x hx).2]; exact (eK2.src (by omega) hx).2 hb2) (fun x hx hx2 => by rw [e32, hcn] at hx2; rw [e34, (htk x (by omega)).2]; exact (eK.src (by omega) (by omega)).2 hb1)) (by decide) (Nat.le_of_ble_eq_true rfl) ?_
        rintro _ J5 ⟨rfl, hfr5, hrt⟩
        rw [e32, hcn] at hrt
        have hms : ∀ x, x < vN I c0 → J5 29 x = mS (sV I a0 b0) (sV I b0 c0) x ∧ J5 30 x = mB (bV I a0 b0) (sV I b0 c0) (bV I b0 c0) x := fun x hx => by
          have h1 := hrt x hx
          rw [(htk2 x hx).1, (htk2 x hx).2, e33, e34] at h1
          have h3 : sV I b0 c0 x = -1 ∨ (0 ≤ sV I b0 c0 x ∧ sV I b0 c0 x < (vN I b0 : Int)) := (eK2.src (by omega) hx).1
          rw [h1.1, h1.2]
          unfold mS mB
          by_cases q : 0 ≤ sV I b0 c0 x
          · have q2 : sV I b0 c0 x < (vN I b0 : Int) := by omega
            have q3 := htk (sV I b0 c0 x).toNat (by omega)
            rw [if_pos ⟨q, q2⟩, if_pos q, if_pos ⟨q, q2⟩, if_pos q]
            exact ⟨q3.1, by rw [q3.2]⟩
          · rw [if_neg (fun w => q w.1), if_neg q, if_neg (fun w => q w.1), if_neg q]
            exact ⟨rfl, rfl⟩
        have hmr : ∀ x, x < vN I c0 → -1 ≤ mS (sV I a0 b0) (sV I b0 c0) x ∧ mS (sV I a0 b0) (sV I b0 c0) x < 1000 := fun x hx => by
          have h3 : sV I b0 c0 x = -1 ∨ (0 ≤ sV I b0 c0 x ∧ sV I b0 c0 x < (vN I b0 : Int)) := (eK2.src (by omega) hx).1
          unfold mS
          by_cases q : 0 ≤ sV I b0 c0 x
          · rw [if_pos q]
            have h4 : sV I a0 b0 (sV I b0 c0 x).toNat = -1 ∨ (0 ≤ sV I a0 b0 (sV I b0 c0 x).toNat ∧ sV I a0 b0 (sV I b0 c0 x).toNat < (vN I a0 : Int)) := (eK.src (by omega) (show (sV I b0 c0 x).toNat < vN I b0 by omega)).1
            omega
          · rw [if_neg q]; omega
        refine r_aload_n K dX7_melt_94 rfl ?_
        refine r_getR K dX7_melt_95 f_X7_28 rfl (hW1.1 3 7 rfl) (hW1.2.2.1 3 2 28 rfl) ?_
        refine r_aload_n K dX7_melt_98 rfl ?_
        refine r_getR K dX7_melt_99 f_X7_38 rfl (hW1.1 3 7 rfl) (hW1.2.2.1 3 4 36 rfl) ?_
        refine rcV1i K dX7_melt_102 c_X7_102 v_X6_gather (hW1.1 28 6 rfl) (k_gather (n := vN I c0) (t := 28) (tp := 29) (tb := 30) (a := 36) (k0 := 37) (k1 := 38) (k2 := 39) (k3 := 40) (hW1.1 28 6 rfl) (hW1.2.2.1 28 0 29 rfl) (hW1.2.2.1 28 1 30 rfl) (hW1.1 29 10 rfl) (hW1.1 30 10 rfl) (hW1.2.1 29 120 rfl (by decide)) (hW1.2.1 30 120 rfl (by decide)) (hW1.1 36 3 rfl) (hW1.2.2.1 36 0 37 rfl) (hW1.2.2.1 36 1 38 rfl) (hW1.2.2.1 36 2 39 rfl) (hW1.2.2.1 36 3 40 rfl) (hW1.1 37 10 rfl) (hW1.1 38 10 rfl) (hW1.1 39 10 rfl) (hW1.1 40 10 rfl) (hW1.2.1 37 120 rfl (by decide)) (hW1.2.1 38 120 rfl (by decide)) (hW1.2.1 39 120 rfl (by decide)) (hW1.2.1 40 120 rfl (by decide)) (by decide) (by decide) (by decide) (by decide) (by decide) (by decide) (by decide) (by decide) (by decide) (by decide) (by decide) (by decide) (by decide) (by decide) (by rw [hfr5 28 (by decide) (by decide)]; exact hcn2) (by omega) (fun x hx => by rw [(hms x hx).1]; exact hmr x hx)) (by decide) (Nat.le_of_ble_eq_true rfl) ?_
        rintro _ J6 ⟨rfl, hfr6, hMK⟩
        refine r_aload_n K dX7_melt_105 rfl ?_
        refine r_getR K dX7_melt_106 f_X7_38 rfl (hW1.1 3 7 rfl) (hW1.2.2.1 3 4 36 rfl) ?_
        refine r_getI K dX7_melt_109 f_X7_106 rfl (hW1.1 36 3 rfl) ?_
        exact q_iret K hQ rfl dX7_melt_112 (Nat.le_of_ble_eq_true rfl) (Nat.le_of_ble_eq_true rfl) (by
          refine ⟨hC4.cong (fun c hc => by rw [hfr6 c (by omega) (by omega) (by omega) (by omega) (by omega), hfr5 c (by omega) (by omega)]), Or.inr ⟨⟨h1, h2, h3⟩, rfl, fun k k1 k2 => ?_, ?_⟩⟩
          · rw [hfr6 k (by omega) (by omega) (by omega) (by omega) (by omega), hfr5 k (by omega) (by omega), hfr4 k (by omega) (by omega) (by omega), hfr3 k (by omega) (by omega), hfr2 k (by omega) (by omega) (by omega), hfr1 k (by omega) (by omega)]
          · rw [Int.toNat_natCast, Int.toNat_natCast, Int.toNat_natCast]
            exact hMK.cong (fun x hx => ⟨(hms x hx).1, fun _ => (hms x hx).2⟩) (fun x hx => by rw [(hms x hx).1]; exact (hmr x hx).1))
      · have h3 : ¬ hasV I c := fun q => by rw [if_pos q] at c30; exact absurd c30 (by decide)
        refine r_iconst K dX7_melt_33 ?_
        exact q_iret K hQ rfl dX7_melt_34 (Nat.le_of_ble_eq_true rfl) (Nat.le_of_ble_eq_true rfl) (⟨hC, Or.inl ⟨by first | exact fun q => h1 q.1 | exact fun q => h2 q.2.1 | exact fun q => h3 q.2.2, rfl, rfl⟩⟩)
end PB3
