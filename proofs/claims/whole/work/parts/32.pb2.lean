section PB2
variable {T L : Nat → Nat} {P : Nat → Nat → Option Nat} {I : Nat → Nat → Int} {hn : Nat}
theorem CI.replace {v : Nat} {n : Int} {f : Nat → Int} {J : Nat → Nat → Int} (hC : CI T L P I hn) (hv : v < 5) (h1 : 0 ≤ n) (h2 : n ≤ 120) (hf : ∀ j, j < 120 → 0 ≤ f j ∧ f j < 256) (hJ : ∀ c, c ≠ 9 → c ≠ 18 + 2 * v → c ≠ 19 + 2 * v → (18 ≤ c ∧ c ≤ 27) ∨ 84 ≤ c → J c = I c) (e1 : J (18 + 2 * v) 1 = n) (e2 : ∀ j, j < 120 → J (19 + 2 * v) j = f j) (e9 : ∀ j, J 9 j = if j < 25 ∧ (j / 5 = v ∨ j % 5 = v) then 0 else I 9 j) : CI T L P J hn := by
  obtain ⟨hW, h81, hV, p1, p2, p3, p4⟩ := hC
  refine ⟨hW, h81, fun w hw => ?_, p1, p2, fun t ht => ?_, fun a b ha hb hab => ?_⟩
  · by_cases e : w = v
    · subst e
      rw [e1]
      exact ⟨h1, h2, fun j hj => by rw [e2 j hj]; exact hf j hj⟩
    · rw [hJ (18 + 2 * w) (by omega) (by omega) (by omega) (by omega), hJ (19 + 2 * w) (by omega) (by omega) (by omega) (by omega)]
      exact hV w hw
  · rw [e9]
    split
    · exact Or.inl rfl
    · exact p3 t ht
  · rw [e9] at hab
    by_cases q : a = v ∨ b = v
    · rw [if_pos (by omega)] at hab; exact absurd hab (by decide)
    · rw [if_neg (by omega)] at hab
      obtain ⟨x, hx, hK⟩ := p4 a b ha hb hab
      have hx84 : 84 ≤ x := (p1 _ x (by omega) hx).1
      refine ⟨x, hx, ?_⟩
      unfold PKv at hK ⊢
      rw [hJ (19 + 2 * a) (by omega) (by omega) (by omega) (by omega), hJ (19 + 2 * b) (by omega) (by omega) (by omega) (by omega), hJ (18 + 2 * a) (by omega) (by omega) (by omega) (by omega), hJ (18 + 2 * b) (by omega) (by omega) (by omega) (by omega)]
      exact hK.cong (hJ _ (by omega) (by omega) (by omega) (by omega)) (hJ _ (by omega) (by omega) (by omega) (by omega)) (hJ _ (by omega) (by omega) (by omega) (by omega)) (hJ _ (by omega) (by omega) (by omega) (by omega)) (hJ _ (by omega) (by omega) (by omega) (by omega))
/-- version v is now the first n bytes of the tape -/
def vPost (T L : Nat → Nat) (P : Nat → Nat → Option Nat) (hn : Nat) (I : Nat → Nat → Int) (v : Nat) (n : Int) (J : Nat → Nat → Int) : Prop := CI T L P J hn ∧ (∀ c, c ≠ 4 → c ≠ 9 → c ≠ 18 + 2 * v → c ≠ 19 + 2 * v → J c = I c) ∧ J 4 1 = 0 ∧ (∀ j, j ≠ 1 → J 4 j = I 4 j) ∧ J (18 + 2 * v) 1 = n ∧ ∀ j : Nat, (j : Int) < n → J (19 + 2 * v) j = I 5 j
set_option maxHeartbeats 4000000 in
set_option maxRecDepth 100000 in
theorem k_X7_version {v n : Int} (hC : CI T L P I hn) (h41 : 0 ≤ I 4 1 ∧ I 4 1 ≤ 200) (h5 : ∀ j, j < 200 → 0 ≤ I 5 j ∧ I 5 j < 256) : iX7_version [.inr (some 3), .inl v, .inl n] T L P I hn (fun r J => (¬ (0 ≤ v ∧ v < 5 ∧ 1 ≤ n ∧ n ≤ 120 ∧ n ≤ I 4 1) ∧ r = some (.inl (-1)) ∧ J = I) ∨ ((0 ≤ v ∧ v < 5 ∧ 1 ≤ n ∧ n ≤ 120 ∧ n ≤ I 4 1) ∧ r = some (.inl n) ∧ vPost T L P hn I v.toNat n J)) := by
  refine CT.by (by decide) (Nat.le_of_ble_eq_true rfl) fun X Y Q hQ K hv => ?_
  have hW := hC.1
  have l5 : L 5 = 200 := hW.2.1 5 200 rfl (by decide)
  refine r_iload_n K dX7_version_0 rfl ?_
  refine r_if_lt K 31 dX7_version_1 (by decide) (fun c1 => ?_) (fun c1 => ?_)
  · refine r_iconst K dX7_version_31 ?_
    exact q_iret K hQ rfl dX7_version_32 (Nat.le_refl _) (Nat.le_refl _) (⟨rfl, rfl, rfl, rfl, Or.inl ⟨by omega, rfl, rfl⟩⟩)
  · refine r_iload_n K dX7_version_4 rfl ?_
    refine r_iconst K dX7_version_5 ?_
    refine r_icmp_ge K 31 dX7_version_6 (by decide) (fun c6 => ?_) (fun c6 => ?_)
    · refine r_iconst K dX7_version_31 ?_
      exact q_iret K hQ rfl dX7_version_32 (Nat.le_refl _) (Nat.le_refl _) (⟨rfl, rfl, rfl, rfl, Or.inl ⟨by omega, rfl, rfl⟩⟩)
    · refine r_iload_n K dX7_version_9 rfl ?_
      refine r_iconst K dX7_version_10 ?_
      refine r_icmp_lt K 31 dX7_version_11 (by decide) (fun c11 => ?_) (fun c11 => ?_)
      · refine r_iconst K dX7_version_31 ?_
        exact q_iret K hQ rfl dX7_version_32 (Nat.le_refl _) (Nat.le_refl _) (⟨rfl, rfl, rfl, rfl, Or.inl ⟨by omega, rfl, rfl⟩⟩)
      · refine r_iload_n K dX7_version_14 rfl ?_
        refine r_bipush K dX7_version_15 ?_
        refine r_icmp_gt K 31 dX7_version_17 (by decide) (fun c17 => ?_) (fun c17 => ?_)
        · refine r_iconst K dX7_version_31 ?_
          exact q_iret K hQ rfl dX7_version_32 (Nat.le_refl _) (Nat.le_refl _) (⟨rfl, rfl, rfl, rfl, Or.inl ⟨by omega, rfl, rfl⟩⟩)
        · refine r_iload_n K dX7_version_20 rfl ?_
          refine r_aload_n K dX7_version_21 rfl ?_
          refine r_getR K dX7_version_22 f_X7_14 rfl (by first | assumption | exact hW.1 _ _ rfl | exact hW.2.2.1 _ _ _ rfl) (by first | assumption | exact hW.1 _ _ rfl | exact hW.2.2.1 _ _ _ rfl) ?_
          refine r_getI K dX7_version_25 f_X7_56 rfl (by first | assumption | exact hW.1 _ _ rfl | exact hW.2.2.1 _ _ _ rfl) ?_
          refine r_icmp_le K 33 dX7_version_28 (by decide) (fun c28 => ?_) (fun c28 => ?_)
          · obtain ⟨v0, rfl⟩ : ∃ k : Nat, v = k := ⟨v.toNat, by omega⟩
            have v05 : v0 < 5 := by omega
            refine r_aload_n K dX7_version_33 rfl ?_
            refine r_getR K dX7_version_34 f_X7_21 rfl (by first | assumption | exact hW.1 _ _ rfl | exact hW.2.2.1 _ _ _ rfl) (by first | assumption | exact hW.1 _ _ rfl | exact hW.2.2.1 _ _ _ rfl) ?_
            refine r_iload_n K dX7_version_37 rfl ?_
            refine r_aload_n K dX7_version_38 rfl ?_
            refine r_getR K dX7_version_39 f_X7_14 rfl (by first | assumption | exact hW.1 _ _ rfl | exact hW.2.2.1 _ _ _ rfl) (by first | assumption | exact hW.1 _ _ rfl | exact hW.2.2.1 _ _ _ rfl) ?_
            refine r_iload_n K dX7_version_42 rfl ?_
            refine rcV3i K dX7_version_43 c_X7_63 v_X5_replace (hW.1 6 5 rfl) (k_replace hW v05 (hW.1 4 0 rfl) (hW.2.2.1 4 0 5 rfl) (hW.1 5 10 rfl) (by omega) (by omega) (by omega) (by omega)) (by decide) (Nat.le_of_ble_eq_true rfl) ?_
            rintro _ J1 ⟨rfl, J0, hJ0, hj1, hj2⟩
            refine r_aload_n K dX7_version_46 rfl ?_
            refine r_getR K dX7_version_47 f_X7_14 rfl (by first | assumption | exact hW.1 _ _ rfl | exact hW.2.2.1 _ _ _ rfl) (by first | assumption | exact hW.1 _ _ rfl | exact hW.2.2.1 _ _ _ rfl) ?_
            refine r_iconst K dX7_version_50 ?_
            refine r_putI K dX7_version_51 f_X7_56 rfl rfl (Or.inl rfl) (by first | assumption | exact hW.1 _ _ rfl | exact hW.2.2.1 _ _ _ rfl) ?_
            refine r_iload_n K dX7_version_54 rfl ?_
            exact q_iret K hQ rfl dX7_version_55 (Nat.le_refl _) (Nat.le_refl _) (⟨rfl, rfl, rfl, rfl, Or.inr ⟨by omega, rfl, by
              rw [Int.toNat_natCast]
              have f1 : ∀ c, c ≠ 4 → c ≠ 9 → c ≠ 18 + 2 * v0 → c ≠ 19 + 2 * v0 → mI J1 4 1 0 c = I c := fun c c1 c2 c3 c4 => by rw [mI_ne c1, hj1 c c2, hJ0, mI_ne c3, mR_ne c4]
              have f2 : ∀ j, mI J1 4 1 0 (19 + 2 * v0) j = if j < n.toNat then I 5 j else if j < 120 then 0 else I (19 + 2 * v0) j := fun j => by rw [mI_ne (by omega), hj1 _ (by omega), hJ0, mI_ne (by omega), mR_eq]
              have f3 : mI J1 4 1 0 (18 + 2 * v0) 1 = n := by rw [mI_ne (by omega), hj1 _ (by omega), hJ0, mI_eq]
              refine ⟨hC.replace (v := v0) (n := n) (f := fun j => if j < n.toNat then I 5 j else 0) v05 (by omega) (by omega) (fun j hj => ?_) (fun c c1 c2 c3 c4 => f1 c (by omega) c1 c2 c3) f3 (fun j hj => ?_) (fun j => ?_), f1, mI_eq, fun j hj => ?_, f3, fun j hj => ?_⟩
              · show 0 ≤ (if j < n.toNat then I 5 j else 0) ∧ (if j < n.toNat then I 5 j else 0) < 256
                split
                · exact h5 j (by omega)
                · omega
              · rw [f2]
                show _ = if j < n.toNat then I 5 j else 0
                rw [if_pos hj]
              · rw [mI_ne (by decide), hj2, hJ0, mI_ne (by omega), mR_ne (by omega)]
              · rw [mI_nj hj, hj1 4 (by decide), hJ0, mI_ne (by omega), mR_ne (by omega)]
              · rw [f2, if_pos (by omega)]⟩⟩)
          · refine r_iconst K dX7_version_31 ?_
            exact q_iret K hQ rfl dX7_version_32 (Nat.le_refl _) (Nat.le_refl _) (⟨rfl, rfl, rfl, rfl, Or.inl ⟨by omega, rfl, rfl⟩⟩)
/-- the answer that step gives -/
def stA (A B : Nat → Int) (m n : Nat) (k what z : Int) : Prop := ∃ N : Nat, pos A B m n N = n ∧ (∀ k, k < N → pos A B m n k < n) ∧ z = ptell N (fun k => (ch A B m n (pos A B m n k)).2.1) (fun k => (ch A B m n (pos A B m n k)).2.2.1) (fun k => (ch A B m n (pos A B m n k)).2.2.2.1) (fun k => (ch A B m n (pos A B m n k)).2.2.2.2) k what
theorem ptell_cong {N : Nat} {f0 f1 f2 f3 g0 g1 g2 g3 : Nat → Int} (h : ∀ k, k < N → (f0 k, f1 k, f2 k, f3 k) = (g0 k, g1 k, g2 k, g3 k)) (k what : Int) : ptell N f0 f1 f2 f3 k what = ptell N g0 g1 g2 g3 k what := by
  unfold ptell
  by_cases e1 : k = -1
  · rw [if_pos e1, if_pos e1]
  · rw [if_neg e1, if_neg e1]
    by_cases e2 : k < 0 ∨ (N : Int) ≤ k
    · rw [if_pos e2, if_pos e2]
    · rw [if_neg e2, if_neg e2]
      have h1 := h k.toNat (by omega)
      simp only [Prod.mk.injEq] at h1
      obtain ⟨a, b, c, d⟩ := h1
      rw [a, b, c, d]
theorem pos_ge {A B : Nat → Int} {m n N : Nat} (hn : n ≤ 120) (hN : ∀ k, k < N → pos A B m n k < n) : ∀ k, k ≤ N → k ≤ pos A B m n k
  | 0, _ => Nat.zero_le _
  | k + 1, hk => by
    have h1 := pos_ge hn hN k (by omega)
    have h2 := (ch_ok (A := A) (B := B) (m := m) hn (hN k (by omega)))
    rw [pos]
    omega
theorem pos_un {A B : Nat → Int} {m n N N' : Nat} (h1 : pos A B m n N = n) (h2 : ∀ k, k < N → pos A B m n k < n) (h1' : pos A B m n N' = n) (h2' : ∀ k, k < N' → pos A B m n k < n) : N = N' := by
  rcases Nat.lt_trichotomy N N' with h | h | h
  · exact absurd (h2' N h) (by omega)
  · exact h
  · exact absurd (h2 N' h) (by omega)
abbrev vB (I : Nat → Nat → Int) (v : Nat) : Nat → Int := I (19 + 2 * v)
abbrev vN (I : Nat → Nat → Int) (v : Nat) : Nat := (I (18 + 2 * v) 1).toNat
def aPo (I : Nat → Nat → Int) (R : Int → Prop) : Po := fun r T L P J hn => CI T L P J hn ∧ (∀ k, k < 84 → k < 9 ∨ 17 < k → J k = I k) ∧ ∃ z, r = some (.inl z) ∧ R z
set_option maxHeartbeats 4000000 in
set_option maxRecDepth 100000 in
theorem k_X7_step {a b k what : Int} (hC : CI T L P I hn) : gX7_step 5 486 [.inr (some 3), .inl a, .inl b, .inl k, .inl what] T L P I hn (aPo I (fun z => (¬ (hasV I a ∧ hasV I b) ∧ z = -1) ∨ ((hasV I a ∧ hasV I b) ∧ stA (vB I a.toNat) (vB I b.toNat) (vN I a.toNat) (vN I b.toNat) k what z))) := by
  refine CT.by (by decide) (Nat.le_of_ble_eq_true rfl) fun X Y Q hQ K hv => ?_
  have hW := hC.1
  refine r_aload_n K dX7_step_0 rfl ?_
  refine r_getR K dX7_step_1 f_X7_21 rfl (by first | assumption | exact hW.1 _ _ rfl | exact hW.2.2.1 _ _ _ rfl) (by first | assumption | exact hW.1 _ _ rfl | exact hW.2.2.1 _ _ _ rfl) ?_
  refine r_iload_n K dX7_step_4 rfl ?_
  refine rcV1p K dX7_step_5 c_X7_67 v_X5_has (hW.1 6 5 rfl) (k_has hW) (by decide) (Nat.le_of_ble_eq_true rfl) ?_
  refine r_if_eq K 22 dX7_step_8 (by decide) (fun c8 => ?_) (fun c8 => ?_)
  · have h1 : ¬ hasV I a := fun q => by rw [if_pos q] at c8; exact absurd c8 (by decide)
    refine r_iconst K dX7_step_22 ?_
    exact q_iret K hQ rfl dX7_step_23 (Nat.le_of_ble_eq_true rfl) (Nat.le_of_ble_eq_true rfl) (⟨hC, fun _ _ _ => rfl, _, rfl, Or.inl ⟨by first | exact fun q => h1 q.1 | exact fun q => h2 q.2, rfl⟩⟩)
  · have h1 : hasV I a := by
      by_cases q : hasV I a
      · exact q
      · rw [if_neg q] at c8; exact absurd rfl c8
    obtain ⟨a0, rfl⟩ : ∃ n : Nat, a = n := ⟨a.toNat, by have := h1.1; omega⟩
    have a05 : a0 < 5 := by have := h1.2.1; omega
    refine r_aload_n K dX7_step_11 rfl ?_
    refine r_getR K dX7_step_12 f_X7_21 rfl (by first | assumption | exact hW.1 _ _ rfl | exact hW.2.2.1 _ _ _ rfl) (by first | assumption | exact hW.1 _ _ rfl | exact hW.2.2.1 _ _ _ rfl) ?_
    refine r_iload_n K dX7_step_15 rfl ?_
    refine rcV1p K dX7_step_16 c_X7_67 v_X5_has (hW.1 6 5 rfl) (k_has hW) (by decide) (Nat.le_of_ble_eq_true rfl) ?_
    refine r_if_ne K 24 dX7_step_19 (by decide) (fun c19 => ?_) (fun c19 => ?_)
    · have h2 : hasV I b := by
        by_cases q : hasV I b
        · exact q
        · rw [if_neg q] at c19; exact absurd rfl c19
      obtain ⟨b0, rfl⟩ : ∃ n : Nat, b = n := ⟨b.toNat, by have := h2.1; omega⟩
      have b05 : b0 < 5 := by have := h2.2.1; omega
      refine r_aload_n K dX7_step_24 rfl ?_
      refine r_getR K dX7_step_25 f_X7_21 rfl (by first | assumption | exact hW.1 _ _ rfl | exact hW.2.2.1 _ _ _ rfl) (by first | assumption | exact hW.1 _ _ rfl | exact hW.2.2.1 _ _ _ rfl) ?_
      refine r_iload_n K dX7_step_28 rfl ?_
      refine r_iload_n K dX7_step_29 rfl ?_
      refine rcV2g K dX7_step_30 c_X7_87 v_X5_patchOf (hW.1 6 5 rfl) (k_patchOf hC a05 b05) (by decide) (Nat.le_of_ble_eq_true rfl) ?_
      rintro _ T1 L1 P1 J1 n1 ⟨hC1, hfr1, q, rfl, hG, hK⟩
      have hW1 := hC1.1
      obtain ⟨gq1, gq2, tq, ⟨u0, u1, u2, u3⟩, ⟨t0, t1, t2, t3⟩, l0, l1, l2, l3⟩ := hG
      obtain ⟨w1, w2, w3, w4, w5⟩ := hW1.ver b05
      have hvsb := hC.2.2.1 b0 b05
      have hvsa := hC.2.2.1 a0 a05
      have hvNb : ((vN I b0 : Nat) : Int) = I (18 + 2 * b0) 1 := Int.toNat_of_nonneg hvsb.1
      have hvNa : ((vN I a0 : Nat) : Int) = I (18 + 2 * a0) 1 := Int.toNat_of_nonneg hvsa.1
      have eK : PK (vB I a0) (vB I b0) (vN I a0) (vN I b0) q (q + 1) (q + 2) (q + 3) (q + 4) J1 := by
        unfold PKv at hK
        rw [hfr1 (19 + 2 * a0) (by omega) (by omega), hfr1 (19 + 2 * b0) (by omega) (by omega), hfr1 (18 + 2 * a0) (by omega) (by omega), hfr1 (18 + 2 * b0) (by omega) (by omega)] at hK
        exact hK
      obtain ⟨N, n1, n2, n3, n4, n5⟩ := eK
      have hNN := pos_ge (by omega) n2 N (Nat.le_refl _)
      refine r_iload_n K dX7_step_33 rfl ?_
      refine r_iload K dX7_step_34 rfl ?_
      refine rcV2p K dX7_step_36 c_X7_91 v_X3_tell tq (k_X3_tell tq u0 u1 u2 u3 t0 t1 t2 t3 l0 l1 l2 l3 (by omega)) (by decide) (Nat.le_of_ble_eq_true rfl) ?_
      exact q_iret K hQ rfl dX7_step_39 (Nat.le_of_ble_eq_true rfl) (Nat.le_of_ble_eq_true rfl) (⟨hC1, hfr1, _, rfl, Or.inr ⟨⟨h1, h2⟩, N, n1, n2, by rw [n3]; exact ptell_cong n5 k what⟩⟩)
    · have h2 : ¬ hasV I b := fun q => by rw [if_pos q] at c19; exact absurd c19 (by decide)
      refine r_iconst K dX7_step_22 ?_
      exact q_iret K hQ rfl dX7_step_23 (Nat.le_of_ble_eq_true rfl) (Nat.le_of_ble_eq_true rfl) (⟨hC, fun _ _ _ => rfl, _, rfl, Or.inl ⟨by first | exact fun q => h1 q.1 | exact fun q => h2 q.2, rfl⟩⟩)
theorem kpt_of {s b s' b' : Nat → Int} {n : Nat} (h : ∀ x, x < n → s x = s' x ∧ b x = b' x) (w : Int) : kpt s b w n = kpt s' b' w n := by
  funext p
  exact kpt_cong (fun q hq => ⟨(h q hq).1, fun _ => (h q hq).2⟩)
/-- bytes to keep on a way, of the patch of a to b -/
abbrev kpV (I : Nat → Nat → Int) (a b : Nat) (w : Int) : Nat → Bool := kpt (srcF (vB I a) (vB I b) (vN I a) (vN I b)) (pluF (vB I a) (vB I b) (vN I a) (vN I b)) w (vN I b)
def rPo (I : Nat → Nat → Int) (r0 : Option PV) : Po := fun r T L P J hn => CI T L P J hn ∧ (∀ k, k < 84 → k < 9 ∨ (17 < k ∧ k < 28) ∨ 35 < k → J k = I k) ∧ r = r0
set_option maxHeartbeats 4000000 in
set_option maxRecDepth 100000 in
theorem k_X7_room {a b what : Int} (hC : CI T L P I hn) : gX7_room 5 486 [.inr (some 3), .inl a, .inl b, .inl what] T L P I hn (rPo I (some (.inl (if hasV I a ∧ hasV I b ∧ 0 ≤ what ∧ what ≤ 2 then (if what = 0 then cn (kpV I a.toNat b.toNat 0) 120 else if what = 1 then cn (kpV I a.toNat b.toNat 1) 120 else min (cn (kpV I a.toNat b.toNat 0) 120) (cn (kpV I a.toNat b.toNat 1) 120)) else -1)))) := by
  refine CT.by (by decide) (Nat.le_of_ble_eq_true rfl) fun X Y Q hQ K hv => ?_
  have hW := hC.1
  refine r_aload_n K dX7_room_0 rfl ?_
  refine r_getR K dX7_room_1 f_X7_21 rfl (by first | assumption | exact hW.1 _ _ rfl | exact hW.2.2.1 _ _ _ rfl) (by first | assumption | exact hW.1 _ _ rfl | exact hW.2.2.1 _ _ _ rfl) ?_
  refine r_iload_n K dX7_room_4 rfl ?_
  refine rcV1p K dX7_room_5 c_X7_67 v_X5_has (hW.1 6 5 rfl) (k_has hW) (by decide) (Nat.le_of_ble_eq_true rfl) ?_
  refine r_if_eq K 31 dX7_room_8 (by decide) (fun c8 => ?_) (fun c8 => ?_)
  · have h1 : ¬ hasV I a := fun q => by rw [if_pos q] at c8; exact absurd c8 (by decide)
    refine r_iconst K dX7_room_31 ?_
    exact q_iret K hQ rfl dX7_room_32 (Nat.le_of_ble_eq_true rfl) (Nat.le_of_ble_eq_true rfl) (⟨hC, fun _ _ _ => rfl, by rw [if_neg (fun q => by first | exact h1 q.1 | exact h2 q.2.1 | omega)]⟩)
  · have h1 : hasV I a := by
      by_cases q : hasV I a
      · exact q
      · rw [if_neg q] at c8; exact absurd rfl c8
    obtain ⟨a0, rfl⟩ : ∃ n : Nat, a = n := ⟨a.toNat, by have := h1.1; omega⟩
    have a05 : a0 < 5 := by have := h1.2.1; omega
    refine r_aload_n K dX7_room_11 rfl ?_
    refine r_getR K dX7_room_12 f_X7_21 rfl (by first | assumption | exact hW.1 _ _ rfl | exact hW.2.2.1 _ _ _ rfl) (by first | assumption | exact hW.1 _ _ rfl | exact hW.2.2.1 _ _ _ rfl) ?_
    refine r_iload_n K dX7_room_15 rfl ?_
    refine rcV1p K dX7_room_16 c_X7_67 v_X5_has (hW.1 6 5 rfl) (k_has hW) (by decide) (Nat.le_of_ble_eq_true rfl) ?_
    refine r_if_eq K 31 dX7_room_19 (by decide) (fun c19 => ?_) (fun c19 => ?_)
    · have h2 : ¬ hasV I b := fun q => by rw [if_pos q] at c19; exact absurd c19 (by decide)
      refine r_iconst K dX7_room_31 ?_
      exact q_iret K hQ rfl dX7_room_32 (Nat.le_of_ble_eq_true rfl) (Nat.le_of_ble_eq_true rfl) (⟨hC, fun _ _ _ => rfl, by rw [if_neg (fun q => by first | exact h1 q.1 | exact h2 q.2.1 | omega)]⟩)
    · have h2 : hasV I b := by
        by_cases q : hasV I b
        · exact q
        · rw [if_neg q] at c19; exact absurd rfl c19
      obtain ⟨b0, rfl⟩ : ∃ n : Nat, b = n := ⟨b.toNat, by have := h2.1; omega⟩
      have b05 : b0 < 5 := by have := h2.2.1; omega
      refine r_iload_n K dX7_room_22 rfl ?_
      refine r_if_lt K 31 dX7_room_23 (by decide) (fun c23 => ?_) (fun c23 => ?_)
      · refine r_iconst K dX7_room_31 ?_
        exact q_iret K hQ rfl dX7_room_32 (Nat.le_of_ble_eq_true rfl) (Nat.le_of_ble_eq_true rfl) (⟨hC, fun _ _ _ => rfl, by rw [if_neg (fun q => by first | exact h1 q.1 | exact h2 q.2.1 | omega)]⟩)
      · refine r_iload_n K dX7_room_26 rfl ?_
        refine r_iconst K dX7_room_27 ?_
        refine r_icmp_le K 33 dX7_room_28 (by decide) (fun c28 => ?_) (fun c28 => ?_)
        · refine r_aload_n K dX7_room_33 rfl ?_
          refine r_getR K dX7_room_34 f_X7_28 rfl (by first | assumption | exact hW.1 _ _ rfl | exact hW.2.2.1 _ _ _ rfl) (by first | assumption | exact hW.1 _ _ rfl | exact hW.2.2.1 _ _ _ rfl) ?_
          refine r_aload_n K dX7_room_37 rfl ?_
          refine r_getR K dX7_room_38 f_X7_21 rfl (by first | assumption | exact hW.1 _ _ rfl | exact hW.2.2.1 _ _ _ rfl) (by first | assumption | exact hW.1 _ _ rfl | exact hW.2.2.1 _ _ _ rfl) ?_
          refine r_iload_n K dX7_room_41 rfl ?_
          refine r_iload_n K dX7_room_42 rfl ?_
          refine rcV2g K dX7_room_43 c_X7_87 v_X5_patchOf (hW.1 6 5 rfl) (k_patchOf hC a05 b05) (by decide) (Nat.le_of_ble_eq_true rfl) ?_
          rintro _ T1 L1 P1 J1 n1 ⟨hC1, hfr1, q, rfl, hG, hK⟩
          have hW1 := hC1.1
          obtain ⟨gq1, gq2, tq, ⟨u0, u1, u2, u3⟩, ⟨t0, t1, t2, t3⟩, l0, l1, l2, l3⟩ := hG
          obtain ⟨w1, w2, w3, w4, w5⟩ := hW1.ver b05
          have hvsb := hC.2.2.1 b0 b05
          have hvsa := hC.2.2.1 a0 a05
          have hvNb : ((vN I b0 : Nat) : Int) = I (18 + 2 * b0) 1 := Int.toNat_of_nonneg hvsb.1
          have hvNa : ((vN I a0 : Nat) : Int) = I (18 + 2 * a0) 1 := Int.toNat_of_nonneg hvsa.1
          have eK : PK (vB I a0) (vB I b0) (vN I a0) (vN I b0) q (q + 1) (q + 2) (q + 3) (q + 4) J1 := by
            unfold PKv at hK
            rw [hfr1 (19 + 2 * a0) (by omega) (by omega), hfr1 (19 + 2 * b0) (by omega) (by omega), hfr1 (18 + 2 * a0) (by omega) (by omega), hfr1 (18 + 2 * b0) (by omega) (by omega)] at hK
            exact hK
          refine r_aload_n K dX7_room_46 rfl ?_
          skip
          refine r_getR K dX7_room_47 f_X7_21 rfl (hW1.1 3 7 rfl) (hW1.2.2.1 3 1 6 rfl) ?_
          refine r_iload_n K dX7_room_50 rfl ?_
          refine rcV1p K dX7_room_51 c_X7_71 v_X5_bytesOf (hW1.1 6 5 rfl) (k_bytesOf hW1 b05) (by decide) (Nat.le_of_ble_eq_true rfl) ?_
          refine rcV2i K dX7_room_54 c_X7_94 v_X6_follow (hW1.1 28 6 rfl) (k_follow (A := vB I a0) (n := vN I b0) (m := vN I a0) (t := 28) (tp := 29) (tb := 30) (k0 := q + 1) (k1 := q + 2) (k2 := q + 3) (k3 := q + 4) (f := 18 + 2 * b0) (fv := 19 + 2 * b0) (hW1.1 28 6 rfl) (hW1.2.2.1 28 0 _ rfl) (hW1.2.2.1 28 1 _ rfl) (hW1.1 29 10 rfl) (hW1.1 30 10 rfl) (hW1.2.1 29 120 rfl (by decide)) (hW1.2.1 30 120 rfl (by decide)) (by decide) tq u0 u1 u2 u3 t0 t1 t2 t3 l0 l1 l2 l3 (by omega) (by omega) (by omega) (by omega) (by omega) (by omega) (by omega) (by omega) w2 w3 w4 (by omega) (by omega) (by rw [hfr1 (18 + 2 * b0) (by omega) (by omega)]; omega) (by omega) (by omega) (by omega) (by omega) (by rw [hfr1 (19 + 2 * b0) (by omega) (by omega)]; exact eK)) (by decide) (Nat.le_of_ble_eq_true rfl) ?_
          rintro _ J2 ⟨rfl, hTK, hfr2, hfr2t⟩
          rw [hfr1 (19 + 2 * b0) (by omega) (by omega)] at hTK
          obtain ⟨hcn, htk⟩ := hTK
          have hC2 : CI T1 L1 P1 J2 n1 := hC1.cong (fun c hc => hfr2 c (by omega) (by omega) (by omega))
          have hkp : ∀ w, kpt (J2 29) (J2 30) w (vN I b0) = kpV I a0 b0 w := kpt_of (fun x hx => ⟨(htk x hx).1, (htk x hx).2⟩)
          refine r_iload_n K dX7_room_57 rfl ?_
          refine r_iconst K dX7_room_58 ?_
          refine r_icmp_ne K 82 dX7_room_59 (by decide) (fun c59 => ?_) (fun c59 => ?_)
          · refine r_aload_n K dX7_room_82 rfl ?_
            refine r_getR K dX7_room_83 f_X7_28 rfl (hW1.1 3 7 rfl) (hW1.2.2.1 3 2 28 rfl) ?_
            refine r_iload_n K dX7_room_86 rfl ?_
            refine rcV1i K dX7_room_87 c_X7_112 v_X6_countKept (hW1.1 28 6 rfl) (k_countKept (I := J2) (n := vN I b0) (hW1.1 28 6 rfl) (hW1.2.2.1 28 0 29 rfl) (hW1.2.2.1 28 1 30 rfl) (hW1.2.2.1 28 2 31 rfl) (hW1.1 29 10 rfl) (hW1.1 30 10 rfl) (hW1.1 31 12 rfl) (hW1.2.1 29 120 rfl (by decide)) (hW1.2.1 30 120 rfl (by decide)) (hW1.2.1 31 120 rfl (by decide)) (by exact hcn) (by omega) (by omega) (by decide) (by decide)) (by decide) (Nat.le_of_ble_eq_true rfl) ?_
            rintro _ J3 ⟨rfl, g3, g4⟩
            rw [hkp]
            exact q_iret K hQ rfl dX7_room_90 (Nat.le_of_ble_eq_true rfl) (Nat.le_of_ble_eq_true rfl) (⟨hC2.cong (fun c hc => g3 c (by omega)), fun c c1 c2 => by rw [g3 c (by omega), hfr2 c (by omega) (by omega) (by omega), hfr1 c c1 (by omega)], by
              rw [if_pos ⟨h1, h2, by omega, by omega⟩, Int.toNat_natCast, Int.toNat_natCast]
              by_cases e : what = 0
              · rw [if_pos e, e]
              · rw [if_neg e, if_pos (by omega), show what = 1 by omega]⟩)
          · refine r_aload_n K dX7_room_62 rfl ?_
            refine r_getR K dX7_room_63 f_X7_28 rfl (hW1.1 3 7 rfl) (hW1.2.2.1 3 2 28 rfl) ?_
            refine r_iconst K dX7_room_66 ?_
            refine rcV1i K dX7_room_67 c_X7_112 v_X6_countKept (hW1.1 28 6 rfl) (k_countKept (I := J2) (n := vN I b0) (hW1.1 28 6 rfl) (hW1.2.2.1 28 0 29 rfl) (hW1.2.2.1 28 1 30 rfl) (hW1.2.2.1 28 2 31 rfl) (hW1.1 29 10 rfl) (hW1.1 30 10 rfl) (hW1.1 31 12 rfl) (hW1.2.1 29 120 rfl (by decide)) (hW1.2.1 30 120 rfl (by decide)) (hW1.2.1 31 120 rfl (by decide)) (by exact hcn) (by omega) (by omega) (by decide) (by decide)) (by decide) (Nat.le_of_ble_eq_true rfl) ?_
            rintro _ J3 ⟨rfl, g3, g4⟩
            refine r_aload_n K dX7_room_70 rfl ?_
            refine r_getR K dX7_room_71 f_X7_28 rfl (hW1.1 3 7 rfl) (hW1.2.2.1 3 2 28 rfl) ?_
            refine r_iconst K dX7_room_74 ?_
            refine rcV1i K dX7_room_75 c_X7_112 v_X6_countKept (hW1.1 28 6 rfl) (k_countKept (I := J3) (n := vN I b0) (hW1.1 28 6 rfl) (hW1.2.2.1 28 0 29 rfl) (hW1.2.2.1 28 1 30 rfl) (hW1.2.2.1 28 2 31 rfl) (hW1.1 29 10 rfl) (hW1.1 30 10 rfl) (hW1.1 31 12 rfl) (hW1.2.1 29 120 rfl (by decide)) (hW1.2.1 30 120 rfl (by decide)) (hW1.2.1 31 120 rfl (by decide)) (by rw [g3 28 (by decide)]; exact hcn) (by omega) (by omega) (by decide) (by decide)) (by decide) (Nat.le_of_ble_eq_true rfl) ?_
            rintro _ J4 ⟨rfl, g5, g6⟩
            rw [g3 29 (by decide), g3 30 (by decide), hkp, hkp]
            refine r_min K dX7_room_78 m_X7_115 (Nat.le_of_ble_eq_true rfl) (Nat.le_of_ble_eq_true rfl) (Nat.le_of_ble_eq_true rfl) (Nat.le_of_ble_eq_true rfl) ?_
            exact q_iret K hQ rfl dX7_room_81 (Nat.le_of_ble_eq_true rfl) (Nat.le_of_ble_eq_true rfl) (⟨hC2.cong (fun c hc => by rw [g5 c (by omega), g3 c (by omega)]), fun c c1 c2 => by rw [g5 c (by omega), g3 c (by omega), hfr2 c (by omega) (by omega) (by omega), hfr1 c c1 (by omega)], by
              have hq : hasV I (a0 : Int) ∧ hasV I (b0 : Int) ∧ 0 ≤ what ∧ what ≤ 2 := ⟨h1, h2, by omega, by omega⟩
              rw [if_pos hq, if_neg (show ¬ what = 0 by omega), if_neg (show ¬ what = 1 by omega), Int.toNat_natCast, Int.toNat_natCast, Int.min_def]
              congr 2
              split <;> split <;> omega⟩)
        · refine r_iconst K dX7_room_31 ?_
          exact q_iret K hQ rfl dX7_room_32 (Nat.le_of_ble_eq_true rfl) (Nat.le_of_ble_eq_true rfl) (⟨hC, fun _ _ _ => rfl, by rw [if_neg (fun q => by first | exact h1 q.1 | exact h2 q.2.1 | omega)]⟩)
/-- an update from a to b is begun -/
abbrev wyV (I : Nat → Nat → Int) (a b : Nat) : Int := wayB (srcF (vB I a) (vB I b) (vN I a) (vN I b)) (pluF (vB I a) (vB I b) (vN I a) (vN I b)) (vN I b)
def uB (I : Nat → Nat → Int) (a b : Nat) (J : Nat → Nat → Int) : Prop :=
  (∀ k, k < 84 → k < 9 ∨ (17 < k ∧ k < 28) ∨ (35 < k ∧ k ≠ 41 ∧ (k < 44 ∨ 48 < k)) → J k = I k) ∧ J 44 3 = vN I b ∧ (∀ x, x < vN I b → J 45 x = srcF (vB I a) (vB I b) (vN I a) (vN I b) x ∧ J 46 x = pluF (vB I a) (vB I b) (vN I a) (vN I b) x) ∧ J 41 5 = wyV I a b ∧ (∀ p, p < 120 → J 47 p = if kpV I a b (wyV I a b) p = true then 1 else 0) ∧ J 41 4 = cn (kpV I a b (wyV I a b)) 120 ∧ (∀ p, p < 120 → kpV I a b (wyV I a b) p = true → J 48 (cn (kpV I a b (wyV I a b)) p).toNat = p) ∧ J 41 6 = 0 ∧ J 41 7 = -1 ∧ J 41 8 = I 41 8 ∧ J 41 9 = 1 ∧ J 41 10 = I 41 10
abbrev fitV (I : Nat → Nat → Int) (a : Nat) : Prop := I 42 1 = I (18 + 2 * a) 1 ∧ ck (I 43) (I 42 1).toNat = ck (I (19 + 2 * a)) (I (18 + 2 * a) 1).toNat
def uPo (I : Nat → Nat → Int) (a b : Int) : Po := fun r T L P J hn => CI T L P J hn ∧ ((¬ (hasV I a ∧ hasV I b) ∧ r = some (.inl (-1)) ∧ J = I) ∨ ((hasV I a ∧ hasV I b) ∧ I 41 9 ≠ 0 ∧ r = some (.inl (-2)) ∧ J = I) ∨ ((hasV I a ∧ hasV I b) ∧ I 41 9 = 0 ∧ ¬ fitV I a.toNat ∧ r = some (.inl (-3)) ∧ J = I) ∨ ((hasV I a ∧ hasV I b) ∧ I 41 9 = 0 ∧ fitV I a.toNat ∧ r = some (.inl (cn (kpV I a.toNat b.toNat (wyV I a.toNat b.toNat)) 120 + 1 + 2 * (vN I b.toNat : Int) + 1)) ∧ uB I a.toNat b.toNat J))
set_option maxHeartbeats 4000000 in
set_option maxRecDepth 100000 in
theorem k_X7_update {a b : Int} (hC : CI T L P I hn) (ha : 0 ≤ I 42 1 ∧ I 42 1 ≤ 120) (hb : ∀ j, j < 120 → 0 ≤ I 43 j ∧ I 43 j < 256) : gX7_update 5 486 [.inr (some 3), .inl a, .inl b] T L P I hn (uPo I a b) := by
  refine CT.by (by decide) (Nat.le_of_ble_eq_true rfl) fun X Y Q hQ K hv => ?_
  have hW := hC.1
  refine r_aload_n K dX7_update_0 rfl ?_
  refine r_getR K dX7_update_1 f_X7_21 rfl (by first | assumption | exact hW.1 _ _ rfl | exact hW.2.2.1 _ _ _ rfl) (by first | assumption | exact hW.1 _ _ rfl | exact hW.2.2.1 _ _ _ rfl) ?_
  refine r_iload_n K dX7_update_4 rfl ?_
  refine rcV1p K dX7_update_5 c_X7_67 v_X5_has (hW.1 6 5 rfl) (k_has hW) (by decide) (Nat.le_of_ble_eq_true rfl) ?_
  refine r_if_eq K 22 dX7_update_8 (by decide) (fun c8 => ?_) (fun c8 => ?_)
  · have h1 : ¬ hasV I a := fun q => by rw [if_pos q] at c8; exact absurd c8 (by decide)
    refine r_iconst K dX7_update_22 ?_
    exact q_iret K hQ rfl dX7_update_23 (Nat.le_of_ble_eq_true rfl) (Nat.le_of_ble_eq_true rfl) (⟨hC, Or.inl ⟨by first | exact fun q => h1 q.1 | exact fun q => h2 q.2, rfl, rfl⟩⟩)
  · have h1 : hasV I a := by
      by_cases q : hasV I a
      · exact q
      · rw [if_neg q] at c8; exact absurd rfl c8
    obtain ⟨a0, rfl⟩ : ∃ n : Nat, a = n := ⟨a.toNat, by have := h1.1; omega⟩
    have a05 : a0 < 5 := by have := h1.2.1; omega
    refine r_aload_n K dX7_update_11 rfl ?_
    refine r_getR K dX7_update_12 f_X7_21 rfl (by first | assumption | exact hW.1 _ _ rfl | exact hW.2.2.1 _ _ _ rfl) (by first | assumption | exact hW.1 _ _ rfl | exact hW.2.2.1 _ _ _ rfl) ?_
    refine r_iload_n K dX7_update_15 rfl ?_
    refine rcV1p K dX7_update_16 c_X7_67 v_X5_has (hW.1 6 5 rfl) (k_has hW) (by decide) (Nat.le_of_ble_eq_true rfl) ?_
    refine r_if_ne K 24 dX7_update_19 (by decide) (fun c19 => ?_) (fun c19 => ?_)
    · have h2 : hasV I b := by
        by_cases q : hasV I b
        · exact q
        · rw [if_neg q] at c19; exact absurd rfl c19
      obtain ⟨b0, rfl⟩ : ∃ n : Nat, b = n := ⟨b.toNat, by have := h2.1; omega⟩
      have b05 : b0 < 5 := by have := h2.2.1; omega
      refine r_aload_n K dX7_update_24 rfl ?_
      refine r_getR K dX7_update_25 f_X7_45 rfl (by first | assumption | exact hW.1 _ _ rfl | exact hW.2.2.1 _ _ _ rfl) (by first | assumption | exact hW.1 _ _ rfl | exact hW.2.2.1 _ _ _ rfl) ?_
      refine r_getI K dX7_update_28 f_X7_124 rfl (by first | assumption | exact hW.1 _ _ rfl | exact hW.2.2.1 _ _ _ rfl) ?_
      refine r_if_eq K 37 dX7_update_31 (by decide) (fun c31 => ?_) (fun c31 => ?_)
      · refine r_aload_n K dX7_update_37 rfl ?_
        refine r_getR K dX7_update_38 f_X7_45 rfl (by first | assumption | exact hW.1 _ _ rfl | exact hW.2.2.1 _ _ _ rfl) (by first | assumption | exact hW.1 _ _ rfl | exact hW.2.2.1 _ _ _ rfl) ?_
        refine r_aload_n K dX7_update_41 rfl ?_
        refine r_getR K dX7_update_42 f_X7_21 rfl (by first | assumption | exact hW.1 _ _ rfl | exact hW.2.2.1 _ _ _ rfl) (by first | assumption | exact hW.1 _ _ rfl | exact hW.2.2.1 _ _ _ rfl) ?_
        refine r_iload_n K dX7_update_45 rfl ?_
        refine rcV1p K dX7_update_46 c_X7_71 v_X5_bytesOf (hW.1 6 5 rfl) (k_bytesOf hW a05) (by decide) (Nat.le_of_ble_eq_true rfl) ?_
        refine rcV1p K dX7_update_49 c_X7_128 v_X1_fits (hW.1 41 1 rfl) (k_fits hW hC.2.2.1 a05 ha hb) (by decide) (Nat.le_of_ble_eq_true rfl) ?_
        refine r_if_ne K 58 dX7_update_52 (by decide) (fun c52 => ?_) (fun c52 => ?_)
        · have hfit : fitV I a0 := by
            by_cases q : fitV I a0
            · exact q
            · rw [if_neg q] at c52; exact absurd rfl c52
          refine r_aload_n K dX7_update_58 rfl ?_
          refine r_getR K dX7_update_59 f_X7_28 rfl (by first | assumption | exact hW.1 _ _ rfl | exact hW.2.2.1 _ _ _ rfl) (by first | assumption | exact hW.1 _ _ rfl | exact hW.2.2.1 _ _ _ rfl) ?_
          refine r_aload_n K dX7_update_62 rfl ?_
          refine r_getR K dX7_update_63 f_X7_21 rfl (by first | assumption | exact hW.1 _ _ rfl | exact hW.2.2.1 _ _ _ rfl) (by first | assumption | exact hW.1 _ _ rfl | exact hW.2.2.1 _ _ _ rfl) ?_
          refine r_iload_n K dX7_update_66 rfl ?_
          refine r_iload_n K dX7_update_67 rfl ?_
          refine rcV2g K dX7_update_68 c_X7_87 v_X5_patchOf (hW.1 6 5 rfl) (k_patchOf hC a05 b05) (by decide) (Nat.le_of_ble_eq_true rfl) ?_
          rintro _ T1 L1 P1 J1 n1 ⟨hC1, hfr1, q, rfl, hG, hK⟩
          have hW1 := hC1.1
          obtain ⟨gq1, gq2, tq, ⟨u0, u1, u2, u3⟩, ⟨t0, t1, t2, t3⟩, l0, l1, l2, l3⟩ := hG
          obtain ⟨w1, w2, w3, w4, w5⟩ := hW1.ver b05
          have hvsb := hC.2.2.1 b0 b05
          have hvsa := hC.2.2.1 a0 a05
          have hvNb : ((vN I b0 : Nat) : Int) = I (18 + 2 * b0) 1 := Int.toNat_of_nonneg hvsb.1
          have hvNa : ((vN I a0 : Nat) : Int) = I (18 + 2 * a0) 1 := Int.toNat_of_nonneg hvsa.1
          have eK : PK (vB I a0) (vB I b0) (vN I a0) (vN I b0) q (q + 1) (q + 2) (q + 3) (q + 4) J1 := by
            unfold PKv at hK
            rw [hfr1 (19 + 2 * a0) (by omega) (by omega), hfr1 (19 + 2 * b0) (by omega) (by omega), hfr1 (18 + 2 * a0) (by omega) (by omega), hfr1 (18 + 2 * b0) (by omega) (by omega)] at hK
            exact hK
          refine r_aload_n K dX7_update_71 rfl ?_
          refine r_getR K dX7_update_72 f_X7_21 rfl (hW1.1 3 7 rfl) (hW1.2.2.1 3 1 6 rfl) ?_
          refine r_iload_n K dX7_update_75 rfl ?_
          refine rcV1p K dX7_update_76 c_X7_71 v_X5_bytesOf (hW1.1 6 5 rfl) (k_bytesOf hW1 b05) (by decide) (Nat.le_of_ble_eq_true rfl) ?_
          refine rcV2i K dX7_update_79 c_X7_94 v_X6_follow (hW1.1 28 6 rfl) (k_follow (A := vB I a0) (n := vN I b0) (m := vN I a0) (t := 28) (tp := 29) (tb := 30) (k0 := q + 1) (k1 := q + 2) (k2 := q + 3) (k3 := q + 4) (f := 18 + 2 * b0) (fv := 19 + 2 * b0) (hW1.1 28 6 rfl) (hW1.2.2.1 28 0 _ rfl) (hW1.2.2.1 28 1 _ rfl) (hW1.1 29 10 rfl) (hW1.1 30 10 rfl) (hW1.2.1 29 120 rfl (by decide)) (hW1.2.1 30 120 rfl (by decide)) (by decide) tq u0 u1 u2 u3 t0 t1 t2 t3 l0 l1 l2 l3 (by omega) (by omega) (by omega) (by omega) (by omega) (by omega) (by omega) (by omega) w2 w3 w4 (by omega) (by omega) (by rw [hfr1 (18 + 2 * b0) (by omega) (by omega)]; omega) (by omega) (by omega) (by omega) (by omega) (by rw [hfr1 (19 + 2 * b0) (by omega) (by omega)]; exact eK)) (by decide) (Nat.le_of_ble_eq_true rfl) ?_
          rintro _ J2 ⟨rfl, hTK, hfr2, hfr2t⟩
          rw [hfr1 (19 + 2 * b0) (by omega) (by omega)] at hTK
          obtain ⟨hcn, htk⟩ := hTK
          have hC2 : CI T1 L1 P1 J2 n1 := hC1.cong (fun c hc => hfr2 c (by omega) (by omega) (by omega))
          refine r_aload_n K dX7_update_82 rfl ?_
          refine r_getR K dX7_update_83 f_X7_45 rfl (hW1.1 3 7 rfl) (hW1.2.2.1 3 5 41 rfl) ?_
          refine r_aload_n K dX7_update_86 rfl ?_
          refine r_getR K dX7_update_87 f_X7_28 rfl (hW1.1 3 7 rfl) (hW1.2.2.1 3 2 28 rfl) ?_
          refine rcV1i K dX7_update_90 c_X7_132 v_X1_begin (hW1.1 41 1 rfl) (k_begin (n := vN I b0) hW1 (hW1.1 28 6 rfl) (hW1.2.2.1 28 0 29 rfl) (hW1.2.2.1 28 1 30 rfl) (hW1.1 29 10 rfl) (hW1.1 30 10 rfl) (hW1.2.1 29 120 rfl (by decide)) (hW1.2.1 30 120 rfl (by decide)) hcn (by omega) (by decide) (by decide) (by decide)) (by decide) (Nat.le_of_ble_eq_true rfl) ?_
          rintro _ J3 ⟨rfl, b1, b2, b3, b4, b5, b6, b7, b8, b9, b10, b11, b12⟩
          have hkp : ∀ w, kpt (J2 29) (J2 30) w (vN I b0) = kpV I a0 b0 w := kpt_of (fun x hx => ⟨(htk x hx).1, (htk x hx).2⟩)
          have hwy : wayB (J2 29) (J2 30) (vN I b0) = wyV I a0 b0 := by unfold wyV wayB; rw [hkp, hkp]
          rw [hwy] at b4 b5 b6 b7
          rw [hkp] at b5 b6 b7
          have hcin := cn_in (kpV I a0 b0 (wyV I a0 b0)) 120
          refine r_aload_n K dX7_update_93 rfl ?_
          refine r_getR K dX7_update_94 f_X7_45 rfl (hW1.1 3 7 rfl) (hW1.2.2.1 3 5 41 rfl) ?_
          refine rcV0p K dX7_update_97 c_X7_135 v_X1_writesLeft (hW1.1 41 1 rfl) (k_writesLeft hW1 (by rw [b6]; omega) (by rw [b2]; omega) (by rw [b8]; omega)) (by decide) (Nat.le_of_ble_eq_true rfl) ?_
          rw [b11, if_pos (by decide), b8, dAll, b6, b2, Int.sub_zero]
          exact q_iret K hQ rfl dX7_update_100 (Nat.le_of_ble_eq_true rfl) (Nat.le_of_ble_eq_true rfl) (⟨hC2.cong (fun c hc => b1 c (by omega) (by omega) (by omega) (by omega) (by omega) (by omega)), Or.inr (Or.inr (Or.inr ⟨⟨h1, h2⟩, by omega, by rw [Int.toNat_natCast]; exact hfit, by rw [Int.toNat_natCast, Int.toNat_natCast], by
            rw [Int.toNat_natCast, Int.toNat_natCast]
            have e41 : J2 41 = I 41 := by rw [hfr2 41 (by decide) (by decide) (by decide), hfr1 41 (by decide) (by decide)]
            refine ⟨fun c c1 c2 => ?_, b2, fun x hx => ?_, b4, b5, b6, b7, b8, b9, by rw [b10, e41], b11, by rw [b12, e41]⟩
            · rw [b1 c (by omega) (by omega) (by omega) (by omega) (by omega) (by omega), hfr2 c (by omega) (by omega) (by omega), hfr1 c c1 (by omega)]
            · rw [(b3 x (by omega)).1, (b3 x (by omega)).2]
              exact htk x hx⟩))⟩)
        · have hfit : ¬ fitV I a0 := fun q => by rw [if_pos q] at c52; exact absurd c52 (by decide)
          refine r_bipush K dX7_update_55 ?_
          exact q_iret K hQ rfl dX7_update_57 (Nat.le_of_ble_eq_true rfl) (Nat.le_of_ble_eq_true rfl) (⟨hC, Or.inr (Or.inr (Or.inl ⟨⟨h1, h2⟩, by omega, by rw [Int.toNat_natCast]; exact hfit, rfl, rfl⟩))⟩)
      · refine r_bipush K dX7_update_34 ?_
        exact q_iret K hQ rfl dX7_update_36 (Nat.le_of_ble_eq_true rfl) (Nat.le_of_ble_eq_true rfl) (⟨hC, Or.inr (Or.inl ⟨⟨h1, h2⟩, c31, rfl, rfl⟩)⟩)
    · have h2 : ¬ hasV I b := fun q => by rw [if_pos q] at c19; exact absurd c19 (by decide)
      refine r_iconst K dX7_update_22 ?_
      exact q_iret K hQ rfl dX7_update_23 (Nat.le_of_ble_eq_true rfl) (Nat.le_of_ble_eq_true rfl) (⟨hC, Or.inl ⟨by first | exact fun q => h1 q.1 | exact fun q => h2 q.2, rfl, rfl⟩⟩)
set_option maxHeartbeats 4000000 in
set_option maxRecDepth 100000 in
theorem k_X7_melted {k what : Int} (hW : Wd T L P) (h1 : I 36 4 ≤ 120) : pX7_melted [.inr (some 3), .inl k, .inl what] T L P I hn (.inl (if I 36 4 = 0 then -1 else ptell (I 36 4) (I 37) (I 38) (I 39) (I 40) k what)) := by
  refine CT.by (by decide) (Nat.le_of_ble_eq_true rfl) fun X Y Q hQ K hv => ?_
  refine r_aload_n K dX7_melted_0 rfl ?_
  refine r_getR K dX7_melted_1 f_X7_38 rfl (by first | assumption | exact hW.1 _ _ rfl | exact hW.2.2.1 _ _ _ rfl) (by first | assumption | exact hW.1 _ _ rfl | exact hW.2.2.1 _ _ _ rfl) ?_
  refine r_getI K dX7_melted_4 f_X7_109 rfl (by first | assumption | exact hW.1 _ _ rfl | exact hW.2.2.1 _ _ _ rfl) ?_
  refine r_if_ne K 14 dX7_melted_7 (by decide) (fun c7 => ?_) (fun c7 => ?_)
  · refine r_aload_n K dX7_melted_14 rfl ?_
    refine r_getR K dX7_melted_15 f_X7_38 rfl (by first | assumption | exact hW.1 _ _ rfl | exact hW.2.2.1 _ _ _ rfl) (by first | assumption | exact hW.1 _ _ rfl | exact hW.2.2.1 _ _ _ rfl) ?_
    refine r_iload_n K dX7_melted_18 rfl ?_
    refine r_iload_n K dX7_melted_19 rfl ?_
    refine rcV2p K dX7_melted_20 c_X7_91 v_X3_tell (by first | assumption | exact hW.1 _ _ rfl | exact hW.2.2.1 _ _ _ rfl) (k_X3_tell (a := 36) (hW.1 _ _ rfl) (hW.2.2.1 36 0 37 rfl) (hW.2.2.1 36 1 38 rfl) (hW.2.2.1 36 2 39 rfl) (hW.2.2.1 36 3 40 rfl) (hW.1 37 _ rfl) (hW.1 38 _ rfl) (hW.1 39 _ rfl) (hW.1 40 _ rfl) (hW.2.1 37 120 rfl (by decide)) (hW.2.1 38 120 rfl (by decide)) (hW.2.1 39 120 rfl (by decide)) (hW.2.1 40 120 rfl (by decide)) h1) (by decide) (Nat.le_of_ble_eq_true rfl) ?_
    exact q_iret K hQ rfl dX7_melted_23 (Nat.le_refl _) (Nat.le_refl _) (⟨by first | rw [if_pos c7] | rw [if_neg c7], rfl, rfl, rfl, rfl, rfl⟩)
  · refine r_iconst K dX7_melted_10 ?_
    refine r_goto K 23 dX7_melted_11 (by decide) ?_
    exact q_iret K hQ rfl dX7_melted_23 (Nat.le_refl _) (Nat.le_refl _) (⟨by first | rw [if_pos c7] | rw [if_neg c7], rfl, rfl, rfl, rfl, rfl⟩)
set_option maxHeartbeats 4000000 in
set_option maxRecDepth 100000 in
theorem k_X7_hold {a b is : Int} {S : Nat} (hW : Wd T L P) (hT : Tb I) (hS : I 50 3 = S) (hS1 : S < 1024) (h01 : is = 0 ∨ is = 1) : iX7_hold [.inr (some 3), .inl a, .inl b, .inl is] T L P I hn (fun r J => (¬ (hasV I a ∧ hasV I b ∧ a < b ∧ (if S.testBit (pIx a.toNat b.toNat) then (1 : Int) else 0) ≠ is) ∧ r = some (.inl 0) ∧ J = I) ∨ ((hasV I a ∧ hasV I b ∧ a < b ∧ (if S.testBit (pIx a.toNat b.toNat) then (1 : Int) else 0) ≠ is) ∧ r = some (.inl 1) ∧ J = mI I 50 3 ((S ^^^ 2 ^ pIx a.toNat b.toNat : Nat) : Int))) := by
  refine CT.by (by decide) (Nat.le_of_ble_eq_true rfl) fun X Y Q hQ K hv => ?_
  refine r_aload_n K dX7_hold_0 rfl ?_
  refine r_getR K dX7_hold_1 f_X7_21 rfl (by first | assumption | exact hW.1 _ _ rfl | exact hW.2.2.1 _ _ _ rfl) (by first | assumption | exact hW.1 _ _ rfl | exact hW.2.2.1 _ _ _ rfl) ?_
  refine r_iload_n K dX7_hold_4 rfl ?_
  refine rcV1p K dX7_hold_5 c_X7_67 v_X5_has (hW.1 6 5 rfl) (k_has hW) (by decide) (Nat.le_of_ble_eq_true rfl) ?_
  refine r_if_eq K 27 dX7_hold_8 (by decide) (fun c8 => ?_) (fun c8 => ?_)
  · have h1 : ¬ hasV I a := fun q => by rw [if_pos q] at c8; exact absurd c8 (by decide)
    refine r_iconst K dX7_hold_27 ?_
    exact q_zret K hQ rfl dX7_hold_28 (by first | exact Or.inl rfl | exact Or.inr rfl) (Nat.le_refl _) (Nat.le_refl _) (⟨rfl, rfl, rfl, rfl, Or.inl ⟨by first | exact fun q => h1 q.1 | exact fun q => h2 q.2.1 | exact fun q => absurd q.2.2.1 c24, rfl, rfl⟩⟩)
  · have h1 : hasV I a := by
      by_cases q : hasV I a
      · exact q
      · rw [if_neg q] at c8; exact absurd rfl c8
    obtain ⟨a0, rfl⟩ : ∃ n : Nat, a = n := ⟨a.toNat, by have := h1.1; omega⟩
    have a05 : a0 < 5 := by have := h1.2.1; omega
    refine r_aload_n K dX7_hold_11 rfl ?_
    refine r_getR K dX7_hold_12 f_X7_21 rfl (by first | assumption | exact hW.1 _ _ rfl | exact hW.2.2.1 _ _ _ rfl) (by first | assumption | exact hW.1 _ _ rfl | exact hW.2.2.1 _ _ _ rfl) ?_
    refine r_iload_n K dX7_hold_15 rfl ?_
    refine rcV1p K dX7_hold_16 c_X7_67 v_X5_has (hW.1 6 5 rfl) (k_has hW) (by decide) (Nat.le_of_ble_eq_true rfl) ?_
    refine r_if_eq K 27 dX7_hold_19 (by decide) (fun c19 => ?_) (fun c19 => ?_)
    · have h2 : ¬ hasV I b := fun q => by rw [if_pos q] at c19; exact absurd c19 (by decide)
      refine r_iconst K dX7_hold_27 ?_
      exact q_zret K hQ rfl dX7_hold_28 (by first | exact Or.inl rfl | exact Or.inr rfl) (Nat.le_refl _) (Nat.le_refl _) (⟨rfl, rfl, rfl, rfl, Or.inl ⟨by first | exact fun q => h1 q.1 | exact fun q => h2 q.2.1 | exact fun q => absurd q.2.2.1 c24, rfl, rfl⟩⟩)
    · have h2 : hasV I b := by
        by_cases q : hasV I b
        · exact q
        · rw [if_neg q] at c19; exact absurd rfl c19
      obtain ⟨b0, rfl⟩ : ∃ n : Nat, b = n := ⟨b.toNat, by have := h2.1; omega⟩
      have b05 : b0 < 5 := by have := h2.2.1; omega
      refine r_iload_n K dX7_hold_22 rfl ?_
      refine r_iload_n K dX7_hold_23 rfl ?_
      refine r_icmp_lt K 29 dX7_hold_24 (by decide) (fun c24 => ?_) (fun c24 => ?_)
      · refine r_aload_n K dX7_hold_29 rfl ?_
        refine r_getR K dX7_hold_30 f_X7_52 rfl (by first | assumption | exact hW.1 _ _ rfl | exact hW.2.2.1 _ _ _ rfl) (by first | assumption | exact hW.1 _ _ rfl | exact hW.2.2.1 _ _ _ rfl) ?_
        refine r_iload_n K dX7_hold_33 rfl ?_
        refine r_iload_n K dX7_hold_34 rfl ?_
        refine r_iload_n K dX7_hold_35 rfl ?_
        refine rcV3i K dX7_hold_36 c_X7_156 v_X2_holdPair (by first | assumption | exact hW.1 _ _ rfl | exact hW.2.2.1 _ _ _ rfl) (k_holdPair (a := a0) (b := b0) hW hT (by omega) b05 hS hS1 h01) (by decide) (Nat.le_of_ble_eq_true rfl) ?_
        rintro _ J1 ⟨rfl, hJ1⟩
        exact q_zret K hQ rfl dX7_hold_39 (by
          by_cases q : (if S.testBit (pIx a0 b0) then (1 : Int) else 0) = is
          · exact Or.inl (if_pos q)
          · exact Or.inr (if_neg q)) (Nat.le_refl _) (Nat.le_refl _) (⟨rfl, rfl, rfl, rfl, by
          rw [Int.toNat_natCast, Int.toNat_natCast]
          by_cases q : (if S.testBit (pIx a0 b0) then (1 : Int) else 0) = is
          · rw [if_pos q] at hJ1 ⊢
            exact Or.inl ⟨fun w => w.2.2.2 q, rfl, hJ1⟩
          · rw [if_neg q] at hJ1 ⊢
            exact Or.inr ⟨⟨h1, h2, by omega, q⟩, rfl, hJ1⟩⟩)
      · have c24 : ¬ ((a0 : Nat) : Int) < ((b0 : Nat) : Int) := by omega
        refine r_iconst K dX7_hold_27 ?_
        exact q_zret K hQ rfl dX7_hold_28 (by first | exact Or.inl rfl | exact Or.inr rfl) (Nat.le_refl _) (Nat.le_refl _) (⟨rfl, rfl, rfl, rfl, Or.inl ⟨by first | exact fun q => h1 q.1 | exact fun q => h2 q.2.1 | exact fun q => absurd q.2.2.1 c24, rfl, rfl⟩⟩)
end PB2
