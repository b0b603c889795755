/-- what a choice is good for -/
theorem ch_ok {A B : Nat → Int} {m n i : Nat} (hn : n ≤ 120) (hi : i < n) :
    ((ch A B m n i).2.1 = 0 ∨ (ch A B m n i).2.1 = 1 ∨ (ch A B m n i).2.1 = 2) ∧ 1 ≤ (ch A B m n i).2.2.1 ∧ (i : Int) + (ch A B m n i).2.2.1 ≤ n ∧ ls A B m n i = spr (ch A B m n i).2.1 (ch A B m n i).2.2.1 + ls A B m n (i + (ch A B m n i).2.2.1.toNat) ∧
    ((ch A B m n i).2.1 = 2 → (ch A B m n i).2.2.2.1 = i ∧ (ch A B m n i).2.2.2.2 = 0 ∧ (ch A B m n i).2.2.1 ≤ 30) ∧
    ((ch A B m n i).2.1 ≠ 2 → 0 ≤ (ch A B m n i).2.2.2.1 ∧ (ch A B m n i).2.2.2.1 + (ch A B m n i).2.2.1 ≤ m ∧ 0 ≤ (ch A B m n i).2.2.2.2 ∧ (ch A B m n i).2.2.2.2 < 256 ∧ ((ch A B m n i).2.1 = 0 → (ch A B m n i).2.2.2.2 = 0) ∧ ((ch A B m n i).2.1 = 1 → (ch A B m n i).2.2.2.2 ≠ 0)) := by
  have hl := ls_in A B m n hn (n - (i + 1)) (i + 1) (by omega)
  rw [ls_eq hi]
  rcases ch_in (A := A) (B := B) (m := m) (n := n) (i := i) hi (by omega) with ⟨j, hj, e⟩ | ⟨h0, e⟩ | ⟨h0, e⟩
  · rw [e]
    simp only [spr]
    refine ⟨Or.inr (Or.inr trivial), by omega, by omega, ?_, fun _ => ⟨trivial, trivial, by omega⟩, fun h => absurd rfl h⟩
    rw [show i + ((j : Int) + 1).toNat = i + j + 1 by omega]
    simp
  · rw [e]
    have b := shf_in A B m n i
    have c := (b.2.2 h0)
    have d := (rn_in A B m n i (shf A B m n i).2).2.2 (by omega)
    simp only [spr]
    refine ⟨Or.inr (Or.inl trivial), by omega, by omega, by simp, fun h => absurd h (by decide), fun _ => ⟨by omega, by omega, Int.emod_nonneg _ (by decide), Int.emod_lt_of_pos _ (by decide), fun h => absurd h (by decide), fun _ => c.2.1⟩⟩
  · rw [e]
    have b := cpy_in A B m n i
    have c := (b.2.2 h0)
    have d := (rn_in A B m n i (cpy A B m n i).2).2.2 (by omega)
    simp only [spr]
    refine ⟨Or.inl trivial, by omega, by omega, by simp, fun h => absurd h (by decide), fun _ => ⟨by omega, by omega, by omega, by omega, fun _ => trivial, fun h => absurd h (by decide)⟩⟩
/-- where step k begins -/
def pos (A B : Nat → Int) (m n : Nat) : Nat → Nat
  | 0 => 0
  | k + 1 => pos A B m n k + (ch A B m n (pos A B m n k)).2.2.1.toNat
/-- a patch's cells hold the plan of A's m bytes to B's n -/
def PK (A B : Nat → Int) (m n a k0 k1 k2 k3 : Nat) (J : Nat → Nat → Int) : Prop :=
  ∃ N, pos A B m n N = n ∧ (∀ k, k < N → pos A B m n k < n) ∧ J a 4 = N ∧ J a 5 = 3 + ls A B m n 0 ∧ ∀ k, k < N → (J k0 k, J k1 k, J k2 k, J k3 k) = (ch A B m n (pos A B m n k)).2
section PLA
variable {T L : Nat → Nat} {P : Nat → Nat → Option Nat} {I : Nat → Nat → Int} {hn o ov f fv m n a k0 k1 k2 k3 : Nat}
/-- the planner's cells when the bytes from d on are planned -/
def pInv (I : Nat → Nat → Int) (A B : Nat → Int) (m n d : Nat) (J : Nat → Nat → Int) : Prop :=
  (∀ b, b < 10 ∨ 17 < b → J b = I b) ∧ (d < n → ∀ q, q < m → J 12 q = ap A B d q ∧ J 11 q = rn A B m n d q) ∧ (∀ j, d ≤ j → j ≤ n → J 13 j = ls A B m n j) ∧ ∀ j, d ≤ j → j < n → (J 14 j, J 15 j, J 16 j, J 17 j) = (ch A B m n j).2
theorem pStep {A B : Nat → Int} {d : Nat} {J J1 J2 : Nat → Nat → Int} (hd : d < n) (h : pInv I A B m n (d + 1) J) (h1 : fInv J A B m n d m J1) (h2 : tPost J1 d (c2 (J1 13) d (adC (J1 13) d (1000000, 0, 0, 0, 0) (min 30 (n - d))) (J1 10 7) (J1 10 8) (J1 10 9) (J1 10 10) (J1 12 (J1 10 10).toNat)) J2) : pInv I A B m n d J2 := by
  obtain ⟨p1, p2, p3, p4⟩ := h
  obtain ⟨f1, f2, f3, f4, f5, f6, f7, f8⟩ := h1
  obtain ⟨t1, t2, t3⟩ := h2
  have e13 : ∀ j, d < j → j ≤ n → J1 13 j = ls A B m n j := fun j h1 h2 => by rw [f1 13 (by omega) (by omega) (by omega)]; exact p3 j h1 h2
  have ec : c2 (J1 13) d (adC (J1 13) d (1000000, 0, 0, 0, 0) (min 30 (n - d))) (J1 10 7) (J1 10 8) (J1 10 9) (J1 10 10) (J1 12 (J1 10 10).toNat) = ch A B m n d := by
    rw [ch, stp, adC_cong (g := ls A B m n) (fun j h1 h2 => e13 j h1 (by omega)), c2, c2]
    have hc := cpy_in A B m n d
    have hs := shf_in A B m n d
    have g7 : J1 10 7 = (cpy A B m n d).1 := f5
    have g9 : J1 10 9 = (shf A B m n d).1 := f7
    rw [g7, g9]
    by_cases e1 : 0 < (shf A B m n d).1
    · have g10 : J1 10 10 = (shf A B m n d).2 := f8 (by omega)
      rw [if_pos e1, if_pos e1, g10, Int.toNat_natCast, (f3 _ (hs.2.2 e1).1).1, e13 _ (by omega) (by omega)]
      by_cases e2 : 0 < (cpy A B m n d).1
      · have g8 : J1 10 8 = (cpy A B m n d).2 := f6 (by omega)
        rw [if_pos e2, if_pos e2, g8, e13 _ (by omega) (by omega)]
      · rw [if_neg e2, if_neg e2]
    · rw [if_neg e1, if_neg e1]
      by_cases e2 : 0 < (cpy A B m n d).1
      · have g8 : J1 10 8 = (cpy A B m n d).2 := f6 (by omega)
        rw [if_pos e2, if_pos e2, g8, e13 _ (by omega) (by omega)]
      · rw [if_neg e2, if_neg e2]
  rw [ec] at t3
  refine ⟨fun b hb => ?_, fun _ q hq => ?_, fun j h1 h2 => ?_, fun j h1 h2 => ?_⟩
  · rw [t1 b (by omega), f1 b (by omega) (by omega) (by omega)]; exact p1 b hb
  · rw [t1 12 (by omega), t1 11 (by omega)]; exact f3 q hq
  · by_cases e : j = d
    · subst e
      rw [ls_eq (by omega), ← t3]; rfl
    · rw [t2 13 j (by omega) (by omega) e]; exact e13 j (by omega) h2
  · by_cases e : j = d
    · subst e
      rw [← t3]; rfl
    · rw [t2 14 j (by omega) (by omega) e, t2 15 j (by omega) (by omega) e, t2 16 j (by omega) (by omega) e, t2 17 j (by omega) (by omega) e, f1 14 (by omega) (by omega) (by omega), f1 15 (by omega) (by omega) (by omega), f1 16 (by omega) (by omega) (by omega), f1 17 (by omega) (by omega) (by omega)]
      exact p4 j (by omega) h2

set_option maxHeartbeats 4000000 in
set_option maxRecDepth 100000 in
theorem k_plan (hW : Wd T L P) (ho : T o = 0) (po : P o 0 = some ov) (hov : T ov = 10) (lov : m ≤ L ov) (co : I o 1 = m) (hm : m ≤ 120) (hf : T f = 0) (pf : P f 0 = some fv) (hfv : T fv = 10) (lfv : n ≤ L fv) (cf : I f 1 = n) (hn0 : n ≤ 120) (go : 17 < o) (gov : 17 < ov) (gf : 17 < f) (gfv : 17 < fv) (ha : T a = 3) (p0 : P a 0 = some k0) (p1 : P a 1 = some k1) (p2 : P a 2 = some k2) (p3 : P a 3 = some k3) (t0 : T k0 = 10) (t1 : T k1 = 10) (t2 : T k2 = 10) (t3 : T k3 = 10) (l0 : L k0 = 120) (l1 : L k1 = 120) (l2 : L k2 = 120) (l3 : L k3 = 120) (d1 : k0 ≠ k1) (d2 : k0 ≠ k2) (d3 : k0 ≠ k3) (d4 : k1 ≠ k2) (d5 : k1 ≠ k3) (d6 : k2 ≠ k3) (ga : 17 < a) (g0 : 17 < k0) (g1 : 17 < k1) (g2 : 17 < k2) (g3 : 17 < k3)
    (hA0 : ∀ j, j < m → 0 ≤ I ov j ∧ I ov j < 256) (hB0 : ∀ j, j < n → 0 ≤ I fv j ∧ I fv j < 256) :
    iX4_plan [.inr (some 10), .inr (some o), .inr (some f), .inr (some a)] T L P I hn (fun r J => r = none ∧ (∀ b, b < 10 ∨ (17 < b ∧ b ≠ a ∧ b ≠ k0 ∧ b ≠ k1 ∧ b ≠ k2 ∧ b ≠ k3) → J b = I b) ∧ PK (I ov) (I fv) m n a k0 k1 k2 k3 J) := by
  refine CT.by (by decide) (Nat.le_of_ble_eq_true rfl) fun X Y Q hQ K hv => ?_
  have l13 : L 13 = 121 := hW.2.1 13 121 rfl (by decide)
  have l14 : L 14 = 120 := hW.2.1 14 120 rfl (by decide)
  have l15 : L 15 = 120 := hW.2.1 15 120 rfl (by decide)
  have l16 : L 16 = 120 := hW.2.1 16 120 rfl (by decide)
  have l17 : L 17 = 120 := hW.2.1 17 120 rfl (by decide)
  have e0 : a ≠ k0 := fun e => by rw [e] at ha; omega
  have e1 : a ≠ k1 := fun e => by rw [e] at ha; omega
  have e2 : a ≠ k2 := fun e => by rw [e] at ha; omega
  have e3 : a ≠ k3 := fun e => by rw [e] at ha; omega
  have fa : f ≠ a := fun e => by rw [e] at hf; omega
  have f0 : f ≠ k0 := fun e => by rw [e] at hf; omega
  have f1 : f ≠ k1 := fun e => by rw [e] at hf; omega
  have f2 : f ≠ k2 := fun e => by rw [e] at hf; omega
  have f3 : f ≠ k3 := fun e => by rw [e] at hf; omega
  -- the second loop: the steps are laid
  have loop2 : ∀ (J2 : Nat → Nat → Int), pInv I (I ov) (I fv) m n 0 J2 → ∀ (d i k : Nat) (z w : Int) (J : Nat → Nat → Int), z = i → w = pos (I ov) (I fv) m n k → n - i = d → i ≤ n → i ≤ pos (I ov) (I fv) m n k → pos (I ov) (I fv) m n k ≤ n → k ≤ pos (I ov) (I fv) m n k → J a 4 = k → J a 5 + ls (I ov) (I fv) m n (pos (I ov) (I fv) m n k) = 3 + ls (I ov) (I fv) m n 0 → 0 ≤ J a 5 → (∀ b, b ≠ a → b ≠ k0 → b ≠ k1 → b ≠ k2 → b ≠ k3 → J b = J2 b) → (∀ q, q < k → pos (I ov) (I fv) m n q < n ∧ (J k0 q, J k1 q, J k2 q, J k3 q) = (ch (I ov) (I fv) m n (pos (I ov) (I fv) m n q)).2) →
      RR X Y Q 0 0 57 [some (.inr (some 10)), some (.inr (some o)), some (.inr (some f)), some (.inr (some a)), some (.inl w), some (.inl z)] [] T L P J hn := by
    intro J2 hJ2 d
    induction d using Nat.strongRecOn with
    | ind d ih =>
      intro i k z w J hz hw hd hi hik hkn hkk h4 h5 h50 hfr harr
      subst hz; subst hw
      have jf : J f 1 = n := by rw [hfr f fa f0 f1 f2 f3, hJ2.1 f (by omega)]; exact cf
      have e14 : J 14 = J2 14 := hfr 14 (by omega) (by omega) (by omega) (by omega) (by omega)
      have e15 : J 15 = J2 15 := hfr 15 (by omega) (by omega) (by omega) (by omega) (by omega)
      have e16 : J 16 = J2 16 := hfr 16 (by omega) (by omega) (by omega) (by omega) (by omega)
      have e17 : J 17 = J2 17 := hfr 17 (by omega) (by omega) (by omega) (by omega) (by omega)
      have hl0 := ls_in (I ov) (I fv) m n hn0 n 0 (by omega)
      refine r_iload K dX4_plan_57 rfl ?_
      refine r_aload_n K dX4_plan_59 rfl ?_
      refine r_getI K dX4_plan_60 f_X4_33 rfl (by first | assumption | exact hW.1 _ _ rfl | exact hW.2.2.1 _ _ _ rfl) ?_
      rw [jf]
      refine r_icmp_ge K 123 dX4_plan_63 (by decide) (fun c63 => ?_) (fun c63 => ?_)
      · have hin : i = n := by omega
        exact q_vret K hQ rfl dX4_plan_123 (Nat.le_refl _) (Nat.le_refl _) (⟨rfl, rfl, rfl, rfl, rfl, fun b hb => by
          rcases hb with h | h
          · rw [hfr b (by omega) (by omega) (by omega) (by omega) (by omega)]; exact hJ2.1 b (by omega)
          · rw [hfr b (by omega) (by omega) (by omega) (by omega) (by omega)]; exact hJ2.1 b (by omega), k, by omega, fun q hq => (harr q hq).1, h4, by
          have hpk : pos (I ov) (I fv) m n k = n := by omega
          rw [hpk, ls_n] at h5; omega, fun q hq => (harr q hq).2⟩)
      · refine r_iload K dX4_plan_66 rfl ?_
        refine r_iload K dX4_plan_68 rfl ?_
        refine r_icmp_ne K 117 dX4_plan_70 (by decide) (fun c70 => ?_) (fun c70 => ?_)
        · refine r_iinc K dX4_plan_117 (by decide) rfl ?_
          refine r_goto K 57 dX4_plan_120 (by decide) ?_
          first
            | exact ih _ (by omega) (i + 1) k _ _ J (by omega) rfl rfl (by omega) (by omega) hkn hkk h4 h5 h50 hfr harr
            | (have hps : pos (I ov) (I fv) m n (k + 1) = i + (ch (I ov) (I fv) m n i).2.2.1.toNat := by rw [pos, hpi]
               refine ih _ (by omega) (i + 1) (k + 1) _ _ J1 (by omega) (by rw [hps]; omega) rfl (by omega) (by rw [hps]; omega) (by rw [hps]; omega) (by rw [hps]; omega) ?_ ?_ ?_ (fun b b1 b2 b3 b4 b5 => ?_) (fun q hq => ?_)
               · rw [hJ1, mI_nj (by decide), mI_eq]; omega
               · rw [hJ1, mI_eq, hps]; omega
               · rw [hJ1, mI_eq]
                 have : 0 ≤ spr (ch (I ov) (I fv) m n i).2.1 (ch (I ov) (I fv) m n i).2.2.1 := by
                   unfold spr
                   split
                   · omega
                   · split <;> omega
                 omega
               · rw [hJ1, mI_ne b1, mI_ne b1, mI_ne b5, mI_ne b4, mI_ne b3, mI_ne b2]; exact hfr b b1 b2 b3 b4 b5
               · rw [hJ1]
                 simp only [mI_row, mI_ne, ne_eq, not_false_eq_true, e0, e1, e2, e3, d1, d2, d3, d4, d5, d6, e0.symm, e1.symm, e2.symm, e3.symm, d1.symm, d2.symm, d3.symm, d4.symm, d5.symm, d6.symm]
                 by_cases eq : q = k
                 · subst eq
                   simp only [if_true]
                   exact ⟨by omega, by rw [hpi]⟩
                 · simp only [if_neg eq]
                   exact harr q (by omega))
        · have hpi : pos (I ov) (I fv) m n k = i := by omega
          have hok := ch_ok (A := I ov) (B := I fv) (m := m) hn0 (show i < n by omega)
          have hcc := hJ2.2.2.2 i (by omega) (by omega)
          simp only [Prod.ext_iff] at hcc
          obtain ⟨q0, q1, q2, q3⟩ := hcc
          have hli := ls_in (I ov) (I fv) m n hn0 (n - i) i (by omega)
          rw [hpi] at h5
          refine r_aload_n K dX4_plan_73 rfl ?_
          refine r_aload_n K dX4_plan_74 rfl ?_
          refine r_getR K dX4_plan_75 f_X4_21 rfl (by first | assumption | exact hW.1 _ _ rfl | exact hW.2.2.1 _ _ _ rfl) (by first | assumption | exact hW.1 _ _ rfl | exact hW.2.2.1 _ _ _ rfl) ?_
          refine r_iload K dX4_plan_78 rfl ?_
          refine r_iald K dX4_plan_80 (by first | assumption | exact hW.1 _ _ rfl | exact hW.2.2.1 _ _ _ rfl) (by omega) (by omega) ?_
          simp only [Int.toNat_natCast]
          rw [e14, q0]
          refine r_aload_n K dX4_plan_81 rfl ?_
          refine r_getR K dX4_plan_82 f_X4_24 rfl (by first | assumption | exact hW.1 _ _ rfl | exact hW.2.2.1 _ _ _ rfl) (by first | assumption | exact hW.1 _ _ rfl | exact hW.2.2.1 _ _ _ rfl) ?_
          refine r_iload K dX4_plan_85 rfl ?_
          refine r_iald K dX4_plan_87 (by first | assumption | exact hW.1 _ _ rfl | exact hW.2.2.1 _ _ _ rfl) (by omega) (by omega) ?_
          simp only [Int.toNat_natCast]
          rw [e15, q1]
          refine r_aload_n K dX4_plan_88 rfl ?_
          refine r_getR K dX4_plan_89 f_X4_27 rfl (by first | assumption | exact hW.1 _ _ rfl | exact hW.2.2.1 _ _ _ rfl) (by first | assumption | exact hW.1 _ _ rfl | exact hW.2.2.1 _ _ _ rfl) ?_
          refine r_iload K dX4_plan_92 rfl ?_
          refine r_iald K dX4_plan_94 (by first | assumption | exact hW.1 _ _ rfl | exact hW.2.2.1 _ _ _ rfl) (by omega) (by omega) ?_
          simp only [Int.toNat_natCast]
          rw [e16, q2]
          refine r_aload_n K dX4_plan_95 rfl ?_
          refine r_getR K dX4_plan_96 f_X4_30 rfl (by first | assumption | exact hW.1 _ _ rfl | exact hW.2.2.1 _ _ _ rfl) (by first | assumption | exact hW.1 _ _ rfl | exact hW.2.2.1 _ _ _ rfl) ?_
          refine r_iload K dX4_plan_99 rfl ?_
          refine r_iald K dX4_plan_101 (by first | assumption | exact hW.1 _ _ rfl | exact hW.2.2.1 _ _ _ rfl) (by omega) (by omega) ?_
          simp only [Int.toNat_natCast]
          rw [e17, q3]
          refine rcV4i K dX4_plan_102 c_X4_52 v_X3_append (by first | assumption | exact hW.1 _ _ rfl | exact hW.2.2.1 _ _ _ rfl) (k_X3_append (T := T) (L := L) (P := P) (I := J) (hn := hn) ha p0 p1 p2 p3 t0 t1 t2 t3 l0 l1 l2 l3 hok.1 (by omega) (by omega) (by omega) (by omega) (by omega) (by omega)) (by decide) (Nat.le_of_ble_eq_true rfl) ?_
          rintro _ J1 ⟨rfl, hJ1⟩
          rw [h4, Int.toNat_natCast] at hJ1
          have g15 : J1 15 = J2 15 := by rw [hJ1, mI_ne (by omega), mI_ne (by omega), mI_ne (by omega), mI_ne (by omega), mI_ne (by omega), mI_ne (by omega)]; exact e15
          refine r_iload K dX4_plan_105 rfl ?_
          refine r_aload_n K dX4_plan_107 rfl ?_
          refine r_getR K dX4_plan_108 f_X4_24 rfl (by first | assumption | exact hW.1 _ _ rfl | exact hW.2.2.1 _ _ _ rfl) (by first | assumption | exact hW.1 _ _ rfl | exact hW.2.2.1 _ _ _ rfl) ?_
          refine r_iload K dX4_plan_111 rfl ?_
          refine r_iald K dX4_plan_113 (by first | assumption | exact hW.1 _ _ rfl | exact hW.2.2.1 _ _ _ rfl) (by omega) (by omega) ?_
          simp only [Int.toNat_natCast]
          rw [g15, q1]
          refine r_iadd K dX4_plan_114 ?_
          refine r_istore K dX4_plan_115 (by decide) ?_
          refine r_iinc K dX4_plan_117 (by decide) rfl ?_
          refine r_goto K 57 dX4_plan_120 (by decide) ?_
          first
            | exact ih _ (by omega) (i + 1) k _ _ J (by omega) rfl rfl (by omega) (by omega) hkn hkk h4 h5 h50 hfr harr
            | (have hps : pos (I ov) (I fv) m n (k + 1) = i + (ch (I ov) (I fv) m n i).2.2.1.toNat := by rw [pos, hpi]
               refine ih _ (by omega) (i + 1) (k + 1) _ _ J1 (by omega) (by rw [hps]; omega) rfl (by omega) (by rw [hps]; omega) (by rw [hps]; omega) (by rw [hps]; omega) ?_ ?_ ?_ (fun b b1 b2 b3 b4 b5 => ?_) (fun q hq => ?_)
               · rw [hJ1, mI_nj (by decide), mI_eq]; omega
               · rw [hJ1, mI_eq, hps]; omega
               · rw [hJ1, mI_eq]
                 have : 0 ≤ spr (ch (I ov) (I fv) m n i).2.1 (ch (I ov) (I fv) m n i).2.2.1 := by
                   unfold spr
                   split
                   · omega
                   · split <;> omega
                 omega
               · rw [hJ1, mI_ne b1, mI_ne b1, mI_ne b5, mI_ne b4, mI_ne b3, mI_ne b2]; exact hfr b b1 b2 b3 b4 b5
               · rw [hJ1]
                 simp only [mI_row, mI_ne, ne_eq, not_false_eq_true, e0, e1, e2, e3, d1, d2, d3, d4, d5, d6, e0.symm, e1.symm, e2.symm, e3.symm, d1.symm, d2.symm, d3.symm, d4.symm, d5.symm, d6.symm]
                 by_cases eq : q = k
                 · subst eq
                   simp only [if_true]
                   exact ⟨by omega, by rw [hpi]⟩
                 · simp only [if_neg eq]
                   exact harr q (by omega))
  -- the first loop: the bytes are planned, from the last on
  have loop1 : ∀ (d : Nat) (z : Int) (g5 : Option PV) (J : Nat → Nat → Int), z = (d : Int) - 1 → d ≤ n → pInv I (I ov) (I fv) m n d J → RR X Y Q 0 0 18 [some (.inr (some 10)), some (.inr (some o)), some (.inr (some f)), some (.inr (some a)), some (.inl z), g5] [] T L P J hn := by
    intro d
    induction d with
    | zero =>
      intro z g5 J hz hd hJ
      refine r_iload K dX4_plan_18 rfl ?_
      refine r_if_lt K 47 dX4_plan_20 (by decide) (fun c20 => ?_) (fun c20 => ?_)
      · refine r_aload_n K dX4_plan_47 rfl ?_
        refine rcV0i K dX4_plan_48 c_X4_47 v_X3_clear (by first | assumption | exact hW.1 _ _ rfl | exact hW.2.2.1 _ _ _ rfl) (k_X3_clear (T := T) (L := L) (P := P) (I := J) (hn := hn) ha) (by decide) (Nat.le_of_ble_eq_true rfl) ?_
        rintro _ J1 ⟨rfl, hJ1⟩
        refine r_iconst K dX4_plan_51 ?_
        refine r_istore K dX4_plan_52 (by decide) ?_
        refine r_iconst K dX4_plan_54 ?_
        refine r_istore K dX4_plan_55 (by decide) ?_
        refine loop2 J hJ _ 0 0 0 0 J1 rfl rfl rfl (by omega) (by omega) (by simp [pos]) (by omega) ?_ ?_ ?_ (fun b b1 b2 b3 b4 b5 => ?_) (fun q hq => absurd hq (by omega))
        · rw [hJ1, mI_nj (by decide), mI_eq]; rfl
        · rw [hJ1, mI_eq]; rfl
        · rw [hJ1, mI_eq]; decide
        · rw [hJ1, mI_ne b1, mI_ne b1]
      · exact absurd c20 (by omega)
    | succ d ih =>
      intro z g5 J hz hd hJ
      have hz : z = d := by omega
      subst hz
      have jo : J o = I o := hJ.1 o (by omega)
      have jov : J ov = I ov := hJ.1 ov (by omega)
      have jf : J f = I f := hJ.1 f (by omega)
      have jfv : J fv = I fv := hJ.1 fv (by omega)
      have hfr := k_findRuns (T := T) (L := L) (P := P) (I := J) (hn := hn) (i := d) hW ho po hov lov (by rw [jo]; exact co) hm hf pf hfv lfv (by rw [jf]; exact cf) hn0 (by omega) (by omega) (by omega) (by omega) (by omega) (by omega) (by omega) (by omega) (by omega) (by omega) (by omega) (by omega) (by omega) (by rw [jov]; exact hA0) (by rw [jfv]; exact hB0) (by rw [jov, jfv]; exact hJ.2.1)
      rw [jov, jfv] at hfr
      refine r_iload K dX4_plan_18 rfl ?_
      refine r_if_lt K 47 dX4_plan_20 (by decide) (fun c20 => ?_) (fun c20 => ?_)
      · exact absurd c20 (by omega)
      · refine r_aload_n K dX4_plan_23 rfl ?_
        refine r_aload_n K dX4_plan_24 rfl ?_
        refine r_aload_n K dX4_plan_25 rfl ?_
        refine r_iload K dX4_plan_26 rfl ?_
        refine rcV3i K dX4_plan_28 c_X4_39 v_X4_findRuns (by first | assumption | exact hW.1 _ _ rfl | exact hW.2.2.1 _ _ _ rfl) hfr (by decide) (Nat.le_of_ble_eq_true rfl) ?_
        rintro _ J1 ⟨rfl, hJ1⟩
        refine r_aload_n K dX4_plan_31 rfl ?_
        refine r_iload K dX4_plan_32 rfl ?_
        refine r_aload_n K dX4_plan_34 rfl ?_
        refine r_getI K dX4_plan_35 f_X4_33 rfl (by first | assumption | exact hW.1 _ _ rfl | exact hW.2.2.1 _ _ _ rfl) ?_
        rw [hJ1.1 f (by omega) (by omega) (by omega), jf, cf]
        refine rcV2i K dX4_plan_38 c_X4_43 v_X4_chooseStep (by first | assumption | exact hW.1 _ _ rfl | exact hW.2.2.1 _ _ _ rfl) (k_chooseStep (T := T) (L := L) (P := P) (I := J1) (hn := hn) (i := d) (n := n) hW (by omega) hn0 (fun j h1 h2 => by
          rw [hJ1.1 13 (by omega) (by omega) (by omega), hJ.2.2.1 j (by omega) h2]
          have := ls_in (I ov) (I fv) m n hn0 (n - j) j (by omega)
          omega) (by rw [hJ1.2.2.2.2.1]; exact (cpy_in (I ov) (I fv) m n d).2.1) (by rw [hJ1.2.2.2.2.2.2.1]; exact (shf_in (I ov) (I fv) m n d).2.1) (fun h => by
          have h8 := hJ1.2.2.2.2.2.2.2 h
          have h7 := hJ1.2.2.2.2.2.2.1
          have hs := (shf_in (I ov) (I fv) m n d).2.2 (by rw [h7] at h; exact h)
          rw [h8]
          have : (mx (isS (I ov) (I fv) d) (rn (I ov) (I fv) m n d) m).2 < m := hs.1
          omega)) (by decide) (Nat.le_of_ble_eq_true rfl) ?_
        rintro _ J2 ⟨rfl, hJ2⟩
        refine r_iinc K dX4_plan_41 (by decide) rfl ?_
        refine r_goto K 18 dX4_plan_44 (by decide) ?_
        exact ih _ _ J2 (by omega) (by omega) (pStep (by omega) hJ hJ1 hJ2)
  refine r_aload_n K dX4_plan_0 rfl ?_
  refine r_getR K dX4_plan_1 f_X4_18 rfl (by first | assumption | exact hW.1 _ _ rfl | exact hW.2.2.1 _ _ _ rfl) (by first | assumption | exact hW.1 _ _ rfl | exact hW.2.2.1 _ _ _ rfl) ?_
  refine r_aload_n K dX4_plan_4 rfl ?_
  refine r_getI K dX4_plan_5 f_X4_33 rfl (by first | assumption | exact hW.1 _ _ rfl | exact hW.2.2.1 _ _ _ rfl) ?_
  rw [cf]
  refine r_iconst K dX4_plan_8 ?_
  refine r_iast K dX4_plan_9 (by first | assumption | exact hW.1 _ _ rfl | exact hW.2.2.1 _ _ _ rfl) (by omega) (by omega) ?_
  refine r_aload_n K dX4_plan_10 rfl ?_
  refine r_getI K dX4_plan_11 f_X4_33 rfl (by first | assumption | exact hW.1 _ _ rfl | exact hW.2.2.1 _ _ _ rfl) ?_
  rw [mI_ne (by omega), cf]
  refine r_iconst K dX4_plan_14 ?_
  refine r_isub K dX4_plan_15 ?_
  refine r_istore K dX4_plan_16 (by decide) ?_
  refine loop1 n _ _ _ rfl (Nat.le_refl _) ⟨fun b hb => mI_ne (by omega), fun h => absurd h (by omega), fun j h1 h2 => ?_, fun j h1 h2 => absurd h2 (by omega)⟩
  have : j = n := by omega
  subst this
  simp only [Int.toNat_natCast]
  rw [mI_eq, ls_n]
end PLA
