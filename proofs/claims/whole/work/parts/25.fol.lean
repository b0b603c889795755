/-- the step's beginning to which new byte x belongs -/
def sgm (A B : Nat → Int) (m n : Nat) : Nat → Nat
  | 0 => 0
  | x + 1 => if x + 1 = sgm A B m n x + (ch A B m n (sgm A B m n x)).2.2.1.toNat then x + 1 else sgm A B m n x
/-- what new byte x is made of: an old byte's place, or -1; and what is added, or the byte itself -/
def srcF (A B : Nat → Int) (m n x : Nat) : Int := if (ch A B m n (sgm A B m n x)).2.1 = 2 then -1 else (ch A B m n (sgm A B m n x)).2.2.2.1 + ((x : Int) - (sgm A B m n x : Nat))
def pluF (A B : Nat → Int) (m n x : Nat) : Int := if (ch A B m n (sgm A B m n x)).2.1 = 2 then B x else (ch A B m n (sgm A B m n x)).2.2.2.2
theorem sgm_seg {A B : Nat → Int} {m n i : Nat} (h : sgm A B m n i = i) : ∀ j, j < (ch A B m n i).2.2.1.toNat → sgm A B m n (i + j) = i
  | 0, _ => h
  | j + 1, hj => by
    have ih := sgm_seg h j (by omega)
    rw [show i + (j + 1) = (i + j) + 1 by omega, sgm, ih, if_neg (by omega)]
theorem sgm_pos {A B : Nat → Int} {m n N : Nat} (hn : n ≤ 120) (hN : ∀ k, k < N → pos A B m n k < n) : ∀ k, k ≤ N → sgm A B m n (pos A B m n k) = pos A B m n k
  | 0, _ => rfl
  | k + 1, hk => by
    have ih := sgm_pos hn hN k (by omega)
    have hok := ch_ok (A := A) (B := B) (m := m) hn (hN k (by omega))
    obtain ⟨x, hx⟩ : ∃ x, (ch A B m n (pos A B m n k)).2.2.1.toNat = x + 1 := ⟨(ch A B m n (pos A B m n k)).2.2.1.toNat - 1, by omega⟩
    have hs := sgm_seg ih x (by omega)
    rw [pos, hx, show pos A B m n k + (x + 1) = (pos A B m n k + x) + 1 by omega, sgm, hs, if_pos (by omega)]
/-- every new byte lies in a step -/
theorem pos_cover {A B : Nat → Int} {m n : Nat} : ∀ {N x : Nat}, x < pos A B m n N → ∃ k j, k < N ∧ x = pos A B m n k + j ∧ j < (ch A B m n (pos A B m n k)).2.2.1.toNat
  | 0, x, h => by rw [pos] at h; omega
  | N + 1, x, h => by
    rcases Nat.lt_or_ge x (pos A B m n N) with e | e
    · obtain ⟨k, j, h1, h2, h3⟩ := pos_cover e
      exact ⟨k, j, by omega, h2, h3⟩
    · rw [pos] at h
      exact ⟨N, x - pos A B m n N, by omega, by omega, by omega⟩
/-- how a new byte's source looks -/
theorem src_in {A B : Nat → Int} {m n N x : Nat} (hn : n ≤ 120) (hN : ∀ k, k < N → pos A B m n k < n) (h1 : pos A B m n N = n) (hx : x < n) :
    srcF A B m n x = -1 ∧ pluF A B m n x = B x ∨ 0 ≤ srcF A B m n x ∧ srcF A B m n x < m ∧ 0 ≤ pluF A B m n x ∧ pluF A B m n x < 256 := by
  obtain ⟨k, j, e1, e2, e3⟩ := pos_cover (h1 ▸ hx)
  have hs := sgm_seg (sgm_pos hn hN k (by omega)) j e3
  have hok := ch_ok (A := A) (B := B) (m := m) hn (hN k e1)
  unfold srcF pluF
  rw [e2, hs]
  by_cases h2 : (ch A B m n (pos A B m n k)).2.1 = 2
  · rw [if_pos h2, if_pos h2]; exact Or.inl ⟨rfl, rfl⟩
  · rw [if_neg h2, if_neg h2]
    have := hok.2.2.2.2.2 h2
    exact Or.inr ⟨by omega, by omega, by omega, by omega⟩
section FOL
variable {T L : Nat → Nat} {P : Nat → Nat → Option Nat} {I : Nat → Nat → Int} {hn t tp tb tk n m a k0 k1 k2 k3 f fv : Nat}
/-- a trace's cells hold the making of B's n bytes out of A's m -/
def TK (A B : Nat → Int) (m n t tp tb : Nat) (J : Nat → Nat → Int) : Prop := J t 3 = n ∧ ∀ x, x < n → J tp x = srcF A B m n x ∧ J tb x = pluF A B m n x

set_option maxHeartbeats 4000000 in
set_option maxRecDepth 100000 in
theorem k_follow {A : Nat → Int} (ht : T t = 6) (q0 : P t 0 = some tp) (q1 : P t 1 = some tb) (s0 : T tp = 10) (s1 : T tb = 10) (m0 : L tp = 120) (m1 : L tb = 120) (npb : tp ≠ tb) (ha : T a = 3) (p0 : P a 0 = some k0) (p1 : P a 1 = some k1) (p2 : P a 2 = some k2) (p3 : P a 3 = some k3) (t0 : T k0 = 10) (t1 : T k1 = 10) (t2 : T k2 = 10) (t3 : T k3 = 10) (l0 : L k0 = 120) (l1 : L k1 = 120) (l2 : L k2 = 120) (l3 : L k3 = 120) (x0 : k0 ≠ tp) (x1 : k1 ≠ tp) (x2 : k2 ≠ tp) (x3 : k3 ≠ tp) (y0 : k0 ≠ tb) (y1 : k1 ≠ tb) (y2 : k2 ≠ tb) (y3 : k3 ≠ tb) (hf : T f = 0) (pf : P f 0 = some fv) (hfv : T fv = 10) (lfv : n ≤ L fv) (lfv2 : L fv ≤ 1000) (cf : I f 1 = n) (z1 : fv ≠ tp) (z2 : fv ≠ tb) (hn1 : n ≤ 120) (hm : m ≤ 120) (hK : PK A (I fv) m n a k0 k1 k2 k3 I) :
    iX6_follow [.inr (some t), .inr (some a), .inr (some f)] T L P I hn (fun r J => r = none ∧ TK A (I fv) m n t tp tb J ∧ (∀ c, c ≠ t → c ≠ tp → c ≠ tb → J c = I c) ∧ ∀ j, j ≠ 3 → J t j = I t j) := by
  refine CT.by (by decide) (Nat.le_of_ble_eq_true rfl) fun X Y Q hQ K hv => ?_
  obtain ⟨N, hN1, hN2, hN3, hN4, hN5⟩ := hK
  have na : a ≠ t := fun e => by rw [e] at ha; omega
  have nap : a ≠ tp := fun e => by rw [e] at ha; omega
  have nab : a ≠ tb := fun e => by rw [e] at ha; omega
  have nf : f ≠ t := fun e => by rw [e] at hf; omega
  have nfp : f ≠ tp := fun e => by rw [e] at hf; omega
  have nfb : f ≠ tb := fun e => by rw [e] at hf; omega
  have n0 : k0 ≠ t := fun e => by rw [e] at t0; omega
  have n1 : k1 ≠ t := fun e => by rw [e] at t1; omega
  have n2 : k2 ≠ t := fun e => by rw [e] at t2; omega
  have n3 : k3 ≠ t := fun e => by rw [e] at t3; omega
  have nv : fv ≠ t := fun e => by rw [e] at hfv; omega
  have ntp : t ≠ tp := fun e => by rw [e] at ht; omega
  have ntb : t ≠ tb := fun e => by rw [e] at ht; omega
  have hNk : ∀ k, k ≤ N → k ≤ pos A (I fv) m n k := by
    intro k
    induction k with
    | zero => intro _; omega
    | succ k ih =>
      intro hk
      have := ih (by omega)
      have hok := ch_ok (A := A) (B := I fv) (m := m) hn1 (hN2 k (by omega))
      rw [pos]; omega
  have hN120 : N ≤ 120 := by have := hNk N (Nat.le_refl _); omega
  -- the steps, one after the other
  have loop : ∀ (d k : Nat) (z : Int) (g4 g5 : Option PV) (J : Nat → Nat → Int), z = k → N - k = d → k ≤ N → J t 3 = pos A (I fv) m n k → (∀ x, x < pos A (I fv) m n k → J tp x = srcF A (I fv) m n x ∧ J tb x = pluF A (I fv) m n x) → (∀ c, c ≠ t → c ≠ tp → c ≠ tb → J c = I c) → (∀ j, j ≠ 3 → J t j = I t j) → RR X Y Q 0 0 7 [some (.inr (some t)), some (.inr (some a)), some (.inr (some f)), some (.inl z), g4, g5] [] T L P J hn := by
    intro d
    induction d using Nat.strongRecOn with
    | ind d ih =>
      intro k z g4 g5 J hz hd hk hcnt harr hfr hft
      subst hz
      have ja : J a = I a := hfr a na nap nab
      refine r_iload_n K dX6_follow_7 rfl ?_
      refine r_aload_n K dX6_follow_8 rfl ?_
      refine r_getI K dX6_follow_9 f_X6_26 rfl (by assumption) ?_
      rw [ja, hN3]
      refine r_icmp_ge K 135 dX6_follow_12 (by decide) (fun c12 => ?_) (fun c12 => ?_)
      · exact q_vret K hQ rfl dX6_follow_135 (Nat.le_refl _) (Nat.le_refl _) (by
          have hkN : k = N := by omega
          subst hkN
          rw [hN1] at hcnt harr
          exact ⟨rfl, rfl, rfl, rfl, rfl, ⟨hcnt, harr⟩, hfr, hft⟩)
      · have hkN : k < N := by omega
        have hpn := hN2 k hkN
        have hok := ch_ok (A := A) (B := I fv) (m := m) hn1 hpn
        have hcc := hN5 k hkN
        simp only [Prod.ext_iff] at hcc
        obtain ⟨w0, w1, w2, w3⟩ := hcc
        have hsg := sgm_pos hn1 hN2 k (by omega)
        -- one step's bytes
        have inner : ∀ (d j : Nat) (z ad : Int) (J : Nat → Nat → Int), z = j → (ch A (I fv) m n (pos A (I fv) m n k)).2.2.1.toNat - j = d → j ≤ (ch A (I fv) m n (pos A (I fv) m n k)).2.2.1.toNat → (ad = 1 ∧ (ch A (I fv) m n (pos A (I fv) m n k)).2.1 = 2 ∨ ad = 0 ∧ (ch A (I fv) m n (pos A (I fv) m n k)).2.1 ≠ 2) → J t 3 = (pos A (I fv) m n k : Int) + j → (∀ x, x < pos A (I fv) m n k + j → J tp x = srcF A (I fv) m n x ∧ J tb x = pluF A (I fv) m n x) → (∀ c, c ≠ t → c ≠ tp → c ≠ tb → J c = I c) → (∀ j, j ≠ 3 → J t j = I t j) → RR X Y Q 0 0 35 [some (.inr (some t)), some (.inr (some a)), some (.inr (some f)), some (.inl (k : Int)), some (.inl ad), some (.inl z)] [] T L P J hn := by
          clear harr hcnt hfr hft ja
          intro d2
          induction d2 using Nat.strongRecOn with
          | ind d2 ih2 =>
            intro j z ad J hz hd2 hj had hcnt harr hfr hft
            subst hz
            have j0 : J k0 = I k0 := hfr k0 n0 x0 y0
            have j1 : J k1 = I k1 := hfr k1 n1 x1 y1
            have j2 : J k2 = I k2 := hfr k2 n2 x2 y2
            have j3 : J k3 = I k3 := hfr k3 n3 x3 y3
            have jf : J f = I f := hfr f nf nfp nfb
            have jv : J fv = I fv := hfr fv nv z1 z2
            have epj : ((pos A (I fv) m n k : Int) + j).toNat = pos A (I fv) m n k + j := by omega
            have j123 : ∀ (J2 : Nat → Nat → Int), j < (ch A (I fv) m n (pos A (I fv) m n k)).2.2.1.toNat → J2 = mI (mI (mI J tp (pos A (I fv) m n k + j) (srcF A (I fv) m n (pos A (I fv) m n k + j))) tb (pos A (I fv) m n k + j) (pluF A (I fv) m n (pos A (I fv) m n k + j))) t 3 ((pos A (I fv) m n k : Int) + j + 1) → RR X Y Q 0 0 123 [some (.inr (some t)), some (.inr (some a)), some (.inr (some f)), some (.inl (k : Int)), some (.inl ad), some (.inl (j : Int))] [] T L P J2 hn := by
              intro J2 hjl hJ2
              refine r_iinc K dX6_follow_123 (by decide) rfl ?_
              refine r_goto K 35 dX6_follow_126 (by decide) ?_
              refine ih2 _ (by omega) (j + 1) _ ad J2 (by omega) rfl (by omega) had (by rw [hJ2, mI_eq]; omega) (fun x hx => ?_) (fun c c1 c2 c3 => by rw [hJ2, mI_ne c1, mI_ne c3, mI_ne c2]; exact hfr c c1 c2 c3) (fun j hj => by rw [hJ2, mI_nj hj, mI_ne ntb, mI_ne ntp]; exact hft j hj)
              rw [hJ2, mI_ne (Ne.symm ntp), mI_ne (Ne.symm ntb), mI_ne npb, mI_row, mI_row, mI_ne (Ne.symm npb)]
              by_cases e : x = pos A (I fv) m n k + j
              · rw [if_pos e, if_pos e, e]; exact ⟨rfl, rfl⟩
              · rw [if_neg e, if_neg e]; exact harr x (by omega)
            have hseg := fun h => sgm_seg hsg j h
            have j81 : j < (ch A (I fv) m n (pos A (I fv) m n k)).2.2.1.toNat → RR X Y Q 0 0 81 [some (.inr (some t)), some (.inr (some a)), some (.inr (some f)), some (.inl (k : Int)), some (.inl ad), some (.inl (j : Int))] [.inl (srcF A (I fv) m n (pos A (I fv) m n k + j)), .inl ((pos A (I fv) m n k : Int) + j), .inr (some tp)] T L P J hn := by
              intro hjl
              have hsj := hseg hjl
              refine r_iast K dX6_follow_81 (by assumption) (by omega) (by omega) ?_
              rw [epj]
              refine r_aload_n K dX6_follow_82 rfl ?_
              refine r_getR K dX6_follow_83 f_X6_15 rfl (by assumption) (by assumption) ?_
              refine r_aload_n K dX6_follow_86 rfl ?_
              refine r_getI K dX6_follow_87 f_X6_22 rfl (by assumption) ?_
              rw [mI_ne ntp, hcnt]
              refine r_iload K dX6_follow_90 rfl ?_
              refine r_if_eq K 106 dX6_follow_92 (by decide) (fun c92 => ?_) (fun c92 => ?_)
              · have hk2 : (ch A (I fv) m n (pos A (I fv) m n k)).2.1 ≠ 2 := by rcases had with h | h; exact absurd h.1 (by omega); exact h.2
                have ep : (ch A (I fv) m n (pos A (I fv) m n k)).2.2.2.2 = pluF A (I fv) m n (pos A (I fv) m n k + j) := by
                  rw [pluF, hsj, if_neg hk2]
                refine r_aload_n K dX6_follow_106 rfl ?_
                refine r_getR K dX6_follow_107 f_X6_44 rfl (by assumption) (by assumption) ?_
                refine r_iload_n K dX6_follow_110 rfl ?_
                refine r_iald K dX6_follow_111 (by assumption) (by omega) (by omega) ?_
                rw [mI_ne x3, Int.toNat_natCast, j3, w3, ep]
                refine r_iast K dX6_follow_112 (by assumption) (by omega) (by omega) ?_
                rw [epj]
                refine r_aload_n K dX6_follow_113 rfl ?_
                refine r_dup K dX6_follow_114 ?_
                refine r_getI K dX6_follow_115 f_X6_22 rfl (by assumption) ?_
                rw [mI_ne ntb, mI_ne ntp, hcnt]
                refine r_iconst K dX6_follow_118 ?_
                refine r_iadd K dX6_follow_119 ?_
                refine r_putI K dX6_follow_120 f_X6_22 rfl rfl (Or.inl rfl) (by assumption) ?_
                exact j123 _ hjl rfl
              · have hk2 : (ch A (I fv) m n (pos A (I fv) m n k)).2.1 = 2 := by rcases had with h | h; exact h.2; exact absurd h.1 c92
                have ep : I fv (pos A (I fv) m n k + j) = pluF A (I fv) m n (pos A (I fv) m n k + j) := by rw [pluF, hsj, if_pos hk2]
                refine r_aload_n K dX6_follow_95 rfl ?_
                refine r_aload_n K dX6_follow_96 rfl ?_
                refine r_getI K dX6_follow_97 f_X6_22 rfl (by assumption) ?_
                rw [mI_ne ntp, hcnt]
                refine rcV1p K dX6_follow_100 c_X6_38 v_X0_at (by assumption) (k_at (T := T) (L := L) (P := P) (hn := hn) hf pf hfv (by omega)) (by decide) (Nat.le_of_ble_eq_true rfl) ?_
                rw [mI_ne nfp, mI_ne z1, jf, jv, cf, epj, if_pos (by omega), ep]
                refine r_goto K 112 dX6_follow_103 (by decide) ?_
                refine r_iast K dX6_follow_112 (by assumption) (by omega) (by omega) ?_
                rw [epj]
                refine r_aload_n K dX6_follow_113 rfl ?_
                refine r_dup K dX6_follow_114 ?_
                refine r_getI K dX6_follow_115 f_X6_22 rfl (by assumption) ?_
                rw [mI_ne ntb, mI_ne ntp, hcnt]
                refine r_iconst K dX6_follow_118 ?_
                refine r_iadd K dX6_follow_119 ?_
                refine r_putI K dX6_follow_120 f_X6_22 rfl rfl (Or.inl rfl) (by assumption) ?_
                exact j123 _ hjl rfl
            refine r_iload K dX6_follow_35 rfl ?_
            refine r_aload_n K dX6_follow_37 rfl ?_
            refine r_getR K dX6_follow_38 f_X6_34 rfl (by assumption) (by assumption) ?_
            refine r_iload_n K dX6_follow_41 rfl ?_
            refine r_iald K dX6_follow_42 (by assumption) (by omega) (by omega) ?_
            rw [Int.toNat_natCast, j1, w1]
            refine r_icmp_ge K 129 dX6_follow_43 (by decide) (fun c43 => ?_) (fun c43 => ?_)
            · have hje : j = (ch A (I fv) m n (pos A (I fv) m n k)).2.2.1.toNat := by omega
              subst hje
              refine r_iinc K dX6_follow_129 (by decide) rfl ?_
              refine r_goto K 7 dX6_follow_132 (by decide) ?_
              exact ih _ (by omega) (k + 1) _ _ _ J (by omega) rfl (by omega) (by rw [hcnt, pos]; omega) (by rw [pos]; exact harr) hfr hft
            · have hjl : j < (ch A (I fv) m n (pos A (I fv) m n k)).2.2.1.toNat := by omega
              have hsj := hseg hjl
              refine r_aload_n K dX6_follow_46 rfl ?_
              refine r_getI K dX6_follow_47 f_X6_22 rfl (by assumption) ?_
              rw [hcnt]
              refine r_bipush K dX6_follow_50 ?_
              refine r_icmp_ge K 129 dX6_follow_52 (by decide) (fun c52 => ?_) (fun c52 => ?_)
              · exact absurd c52 (by omega)
              · refine r_aload_n K dX6_follow_55 rfl ?_
                refine r_getR K dX6_follow_56 f_X6_9 rfl (by assumption) (by assumption) ?_
                refine r_aload_n K dX6_follow_59 rfl ?_
                refine r_getI K dX6_follow_60 f_X6_22 rfl (by assumption) ?_
                rw [hcnt]
                refine r_iload K dX6_follow_63 rfl ?_
                refine r_if_eq K 72 dX6_follow_65 (by decide) (fun c65 => ?_) (fun c65 => ?_)
                · have hk2 : (ch A (I fv) m n (pos A (I fv) m n k)).2.1 ≠ 2 := by rcases had with h | h; exact absurd h.1 (by omega); exact h.2
                  have hn2 := hok.2.2.2.2.2 hk2
                  have es : (ch A (I fv) m n (pos A (I fv) m n k)).2.2.2.1 + (j : Int) = srcF A (I fv) m n (pos A (I fv) m n k + j) := by
                    rw [srcF, hsj, if_neg hk2]; omega
                  refine r_aload_n K dX6_follow_72 rfl ?_
                  refine r_getR K dX6_follow_73 f_X6_37 rfl (by assumption) (by assumption) ?_
                  refine r_iload_n K dX6_follow_76 rfl ?_
                  refine r_iald K dX6_follow_77 (by assumption) (by omega) (by omega) ?_
                  rw [Int.toNat_natCast, j2, w2]
                  refine r_iload K dX6_follow_78 rfl ?_
                  refine r_iadd K dX6_follow_80 ?_
                  rw [es]
                  exact j81 hjl
                · have hk2 : (ch A (I fv) m n (pos A (I fv) m n k)).2.1 = 2 := by rcases had with h | h; exact h.2; exact absurd h.1 c65
                  have es : (-1 : Int) = srcF A (I fv) m n (pos A (I fv) m n k + j) := by rw [srcF, hsj, if_pos hk2]
                  refine r_iconst K dX6_follow_68 ?_
                  refine r_goto K 81 dX6_follow_69 (by decide) ?_
                  rw [es]
                  exact j81 hjl
        refine r_aload_n K dX6_follow_15 rfl ?_
        refine r_getR K dX6_follow_16 f_X6_31 rfl (by assumption) (by assumption) ?_
        refine r_iload_n K dX6_follow_19 rfl ?_
        refine r_iald K dX6_follow_20 (by assumption) (by omega) (by omega) ?_
        rw [Int.toNat_natCast, hfr k0 n0 x0 y0, w0]
        refine r_iconst K dX6_follow_21 ?_
        have j30 : ∀ ad : Int, (ad = 1 ∧ (ch A (I fv) m n (pos A (I fv) m n k)).2.1 = 2 ∨ ad = 0 ∧ (ch A (I fv) m n (pos A (I fv) m n k)).2.1 ≠ 2) → RR X Y Q 0 0 30 [some (.inr (some t)), some (.inr (some a)), some (.inr (some f)), some (.inl (k : Int)), g4, g5] [.inl ad] T L P J hn := by
          intro ad had
          refine r_istore K dX6_follow_30 (by decide) ?_
          refine r_iconst K dX6_follow_32 ?_
          refine r_istore K dX6_follow_33 (by decide) ?_
          exact inner _ 0 0 ad J rfl rfl (by omega) had (by rw [hcnt]; omega) harr hfr hft
        refine r_icmp_ne K 29 dX6_follow_22 (by decide) (fun c22 => ?_) (fun c22 => ?_)
        · refine r_iconst K dX6_follow_29 ?_
          first
            | exact j30 1 (Or.inl ⟨rfl, by omega⟩)
            | exact j30 0 (Or.inr ⟨rfl, by omega⟩)
        · refine r_iconst K dX6_follow_25 ?_
          refine r_goto K 30 dX6_follow_26 (by decide) ?_
          first
            | exact j30 1 (Or.inl ⟨rfl, by omega⟩)
            | exact j30 0 (Or.inr ⟨rfl, by omega⟩)
  refine r_aload_n K dX6_follow_0 rfl ?_
  refine r_iconst K dX6_follow_1 ?_
  refine r_putI K dX6_follow_2 f_X6_22 rfl rfl (Or.inl rfl) (by assumption) ?_
  refine r_iconst K dX6_follow_5 ?_
  refine r_istore_n K dX6_follow_6 (by decide) ?_
  exact loop _ 0 0 _ _ _ rfl rfl (by omega) (by rw [mI_eq]; rfl) (fun x hx => absurd hx (by simp [pos])) (fun c c1 c2 c3 => mI_ne c1) (fun j hj => mI_nj hj)
end FOL
