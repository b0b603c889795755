section MO7
variable {T L : Nat → Nat} {P : Nat → Nat → Option Nat} {I : Nat → Nat → Int} {hn : Nat}
/-- what is added in the melted patch, for the model -/
def bMM (s1 b1 s2 b2 : Nat → Int) (x : Nat) : Int := if mS s1 s2 x = -1 then 0 else (b2 x + b1 (s2 x).toNat) % 256
abbrev allM (I : Nat → Nat → Int) (a b c : Int) : Prop := hasM I a ∧ hasM I b ∧ hasM I c
def mlP (I : Nat → Nat → Int) (a b c : Nat) (z : Int) (J : Nat → Nat → Int) : Prop := (∀ k, k ≠ 54 → k < 58 ∨ 71 < k → J k = I k) ∧ (∀ j, j ≠ 10 → j ≠ 11 → j ≠ 20 → J 54 j = I 54 j) ∧ ∃ N, mpos (mS (sM I a b) (sM I b c)) (bMM (sM I a b) (bM I a b) (sM I b c) (bM I b c)) (mN I c) N = mN I c ∧ (∀ k, k < N → mpos (mS (sM I a b) (sM I b c)) (bMM (sM I a b) (bM I a b) (sM I b c) (bM I b c)) (mN I c) k < mN I c) ∧ z = mcost (mS (sM I a b) (sM I b c)) (bMM (sM I a b) (bM I a b) (sM I b c) (bM I b c)) (mN I c) N ∧ J 54 20 = N ∧ ∀ k, k < N → (J 68 k, J 69 k, J 70 k, J 71 k) = mch (mS (sM I a b) (sM I b c)) (bMM (sM I a b) (bM I a b) (sM I b c) (bM I b c)) (mN I c) (mpos (mS (sM I a b) (sM I b c)) (bMM (sM I a b) (bM I a b) (sM I b c) (bM I b c)) (mN I c) k)
def mlR (I : Nat → Nat → Int) (a b c : Int) (r : Option PV) (J : Nat → Nat → Int) : Prop := (¬ allM I a b c ∧ r = some (.inl (-1)) ∧ J = I) ∨ (allM I a b c ∧ ∃ z, r = some (.inl z) ∧ mlP I a.toNat b.toNat c.toNat z J)
set_option maxHeartbeats 4000000 in
set_option maxRecDepth 100000 in
theorem k_X8_melt {a b c : Int} (hW : Wd T L P) (hV : MV I) : iX8_melt [.inr (some 54), .inl a, .inl b, .inl c] T L P I hn (mlR I a b c) := by
  refine CT.by (by decide) (Nat.le_of_ble_eq_true rfl) fun X Y Q hQ K hv => ?_
  have l57 : L 57 = 5 := hW.2.1 57 5 rfl (by decide)
  have l64 : L 64 = 120 := hW.2.1 64 120 rfl (by decide)
  have l65 : L 65 = 120 := hW.2.1 65 120 rfl (by decide)
  have l66 : L 66 = 120 := hW.2.1 66 120 rfl (by decide)
  have l67 : L 67 = 120 := hW.2.1 67 120 rfl (by decide)
  have main : ∀ a0 b0 c0 : Nat, a = a0 → b = b0 → c = c0 → a0 < 5 → b0 < 5 → c0 < 5 → allM I a b c → RR X Y Q 0 0 26 [some (.inr (some 54)), some (.inl a), some (.inl b), some (.inl c), none, none, none, none, none] [] T L P I hn := by
    intro a0 b0 c0 ea eb ec a05 b05 c05 hall
    subst ea eb ec
    have hna := (hV.n a05).2
    have hnb := (hV.n b05).2
    have hnc := (hV.n c05).2
    refine r_aload_n K dX8_melt_26 rfl ?_
    refine r_iload_n K dX8_melt_27 rfl ?_
    refine r_iload_n K dX8_melt_28 rfl ?_
    refine rcV2i K dX8_melt_29 c_X8_153 v_X8_makes (by first | assumption | exact hW.1 _ _ rfl | exact hW.2.2.1 _ _ _ rfl) (k_makes (a := a0) (b := b0) (m := mN I a0) (n := mN I b0) (I := I) hW hV a05 b05 (hV.n a05).1 (hV.n b05).1 (hV.n a05).2 (hV.n b05).2) (by decide) (Nat.le_of_ble_eq_true rfl) ?_
    rintro _ J1 ⟨rfl, N1, p1, p2, hfr1, p3, p4, p5⟩
    rw [Nat.add_zero, p1] at p5
    have s1in : ∀ x, x < mN I b0 → -1 ≤ sM I a0 b0 x ∧ sM I a0 b0 x < mN I a0 ∧ 0 ≤ bM I a0 b0 x ∧ bM I a0 b0 x < 256 := fun x hx => by
      have := sM_in (a := 0) (b := 0) hnb hna p1 p2 hx
      exact ⟨this.1, this.2.1, this.2.2.1, this.2.2.2.1⟩
    have e57' : J1 57 = I 57 := hfr1.1 57 (by decide) (by decide)
    have loop1 : ∀ (e i : Nat) (g5 g6 g7 g8 : Option PV) (J : Nat → Nat → Int), i + e = mN I b0 → (∀ k, k ≠ 66 → k ≠ 67 → J k = J1 k) → (∀ x, x < i → J 66 x = sM I a0 b0 x ∧ J 67 x = bM I a0 b0 x) → RR X Y Q 0 0 35 [some (.inr (some 54)), some (.inl (a0 : Int)), some (.inl (b0 : Int)), some (.inl (c0 : Int)), some (.inl (i : Int)), g5, g6, g7, g8] [] T L P J hn := by
      intro e
      induction e with
      | zero =>
        intro i g5 g6 g7 g8 J he h1 h2
        have hi : i = mN I b0 := by omega
        subst hi
        have e57 : J 57 = I 57 := by rw [h1 57 (by decide) (by decide)]; exact e57'
        have e56 : J 56 = I 56 := by rw [h1 56 (by decide) (by decide)]; exact hfr1.1 56 (by decide) (by decide)
        have hVJ : MV J := hV.cong e56 e57
        have eb : ∀ v, mBy J v = mBy I v := fun v => by unfold mBy; rw [e56]
        refine r_iload K dX8_melt_35 rfl ?_
        refine r_aload_n K dX8_melt_37 rfl ?_
        refine r_getR K dX8_melt_38 f_X8_16 rfl (by first | assumption | exact hW.1 _ _ rfl | exact hW.2.2.1 _ _ _ rfl) (by first | assumption | exact hW.1 _ _ rfl | exact hW.2.2.1 _ _ _ rfl) ?_
        refine r_iload_n K dX8_melt_41 rfl ?_
        refine r_iald K dX8_melt_42 (by first | assumption | exact hW.1 _ _ rfl | exact hW.2.2.1 _ _ _ rfl) (by omega) (by omega) ?_
        rw [e57, Int.toNat_natCast, (hV.n b05).1]
        refine r_icmp_ge K 80 dX8_melt_43 (by decide) (fun c43 => ?_) (fun c43 => ?_)
        · refine r_aload_n K dX8_melt_80 rfl ?_
          refine r_iload_n K dX8_melt_81 rfl ?_
          refine r_iload_n K dX8_melt_82 rfl ?_
          refine rcV2i K dX8_melt_83 c_X8_153 v_X8_makes (by first | assumption | exact hW.1 _ _ rfl | exact hW.2.2.1 _ _ _ rfl) (k_makes (a := b0) (b := c0) (m := mN I b0) (n := mN I c0) (I := J) hW hVJ b05 c05 (by rw [e57]; exact (hV.n b05).1) (by rw [e57]; exact (hV.n c05).1) (hV.n b05).2 (hV.n c05).2) (by decide) (Nat.le_of_ble_eq_true rfl) ?_
          rintro _ J2 ⟨rfl, N2, q1, q2, hfr2, q3, q4, q5⟩
          rw [Nat.add_zero, q1] at q5
          have hfr2' := hfr2
          unfold mFr at hfr2'
          rw [eb b0, eb c0] at q1 q2 q5 hfr2'
          have s2in : ∀ x, x < mN I c0 → -1 ≤ sM I b0 c0 x ∧ sM I b0 c0 x < mN I b0 ∧ 0 ≤ bM I b0 c0 x ∧ bM I b0 c0 x < 256 := fun x hx => by
            have := sM_in (a := 0) (b := 0) hnc hnb q1 q2 hx
            exact ⟨this.1, this.2.1, this.2.2.1, this.2.2.2.1⟩
          have e57q : J2 57 = I 57 := by rw [hfr2.1 57 (by decide) (by decide)]; exact e57
          have e66 : ∀ x, x < mN I b0 → J2 66 x = sM I a0 b0 x ∧ J2 67 x = bM I a0 b0 x := fun x hx => by rw [hfr2.1 66 (by decide) (by decide), hfr2.1 67 (by decide) (by decide)]; exact h2 x hx
          have hmS : ∀ x, x < mN I c0 → -1 ≤ mS (sM I a0 b0) (sM I b0 c0) x ∧ mS (sM I a0 b0) (sM I b0 c0) x < 120 := fun x hx => by
            have w1 := s2in x hx
            unfold mS
            by_cases q : 0 ≤ sM I b0 c0 x
            · rw [if_pos q]
              have := s1in (sM I b0 c0 x).toNat (by omega)
              omega
            · rw [if_neg q]; omega
          have loop2 : ∀ (e i : Nat) (g6 g7 g8 : Option PV) (J : Nat → Nat → Int), i + e = mN I c0 → (∀ k, k ≠ 64 → k ≠ 65 → J k = J2 k) → (∀ x, x < i → J 64 x = mS (sM I a0 b0) (sM I b0 c0) x ∧ J 65 x = bMM (sM I a0 b0) (bM I a0 b0) (sM I b0 c0) (bM I b0 c0) x) → (∀ x, i ≤ x → x < mN I c0 → J 64 x = sM I b0 c0 x ∧ J 65 x = bM I b0 c0 x) → RR X Y Q 0 0 97 [some (.inr (some 54)), some (.inl (a0 : Int)), some (.inl (b0 : Int)), some (.inl (c0 : Int)), some (.inl (mN I c0 : Int)), some (.inl (i : Int)), g6, g7, g8] [] T L P J hn := by
            intro e
            induction e with
            | zero =>
              intro i g6 g7 g8 J he u1 u2 u3
              have hi : i = mN I c0 := by omega
              subst hi
              refine r_iload K dX8_melt_97 rfl ?_
              refine r_iload K dX8_melt_99 rfl ?_
              refine r_icmp_ge K 184 dX8_melt_101 (by decide) (fun c101 => ?_) (fun c101 => ?_)
              · refine r_aload_n K dX8_melt_184 rfl ?_
                refine r_iconst K dX8_melt_185 ?_
                refine r_putI K dX8_melt_186 f_X8_156 rfl rfl (Or.inl rfl) (by first | assumption | exact hW.1 _ _ rfl | exact hW.2.2.1 _ _ _ rfl) ?_
                refine r_iconst K dX8_melt_189 ?_
                refine r_istore K dX8_melt_190 (by decide) ?_
                refine r_iconst K dX8_melt_192 ?_
                refine r_istore K dX8_melt_193 (by decide) ?_
                refine ml4 (I := mI J 54 20 0) K hQ hW hnc (s := mS (sM I a0 b0) (sM I b0 c0)) (b := bMM (sM I a0 b0) (bM I a0 b0) (sM I b0 c0) (bM I b0 c0)) (fun x hx => ⟨by rw [mI_ne (by decide)]; exact (u2 x hx).1, hmS x hx⟩) (fun x hx => by rw [mI_ne (by decide)]; exact (u2 x hx).2) (fun x hx w => by rw [bMM, if_pos w]) (fun z J9 h9 => ?_) (mN I c0) 0 3 0 _ _ _ (by omega) (by rw [mpos]; omega) (fun k' h => absurd h (by omega)) rfl (by rw [mpos]; rfl) ⟨fun _ _ _ => rfl, fun _ _ => rfl, mI_eq, fun k' h => absurd h (by omega)⟩
                obtain ⟨N, v1, v2, v3, v4, v5, v6, v7⟩ := h9
                refine ⟨rfl, rfl, rfl, rfl, Or.inr ⟨hall, z, rfl, fun k k1 k2 => ?_, fun j j1 j2 j3 => ?_, ?_⟩⟩
                · rw [v4 k k1 (by omega), mI_ne k1, u1 k (by omega) (by omega), hfr2.1 k k1 (by omega), h1 k (by omega) (by omega), hfr1.1 k k1 (by omega)]
                · rw [v5 j j3, mI_nj j3, u1 54 (by decide) (by decide), hfr2.2.1 j j1 j2, h1 54 (by decide) (by decide), hfr1.2.1 j j1 j2]
                · rw [Int.toNat_natCast, Int.toNat_natCast, Int.toNat_natCast]
                  exact ⟨N, v1, v2, v3, v6, v7⟩
              · exact absurd c101 (by omega)
            | succ e ihe =>
              intro i g6 g7 g8 J he u1 u2 u3
              have r1 := u3 i (Nat.le_refl _) (by omega)
              have r2 := s2in i (by omega)
              have e66' : ∀ x, x < mN I b0 → J 66 x = sM I a0 b0 x ∧ J 67 x = bM I a0 b0 x := fun x hx => by rw [u1 66 (by decide) (by decide), u1 67 (by decide) (by decide)]; exact e66 x hx
              have j177 : ∀ v : Int, v = bMM (sM I a0 b0) (bM I a0 b0) (sM I b0 c0) (bM I b0 c0) i → RR X Y Q 0 0 177 [some (.inr (some 54)), some (.inl (a0 : Int)), some (.inl (b0 : Int)), some (.inl (c0 : Int)), some (.inl (mN I c0 : Int)), some (.inl (i : Int)), some (.inl (sM I b0 c0 i)), g7, g8] [.inl v, .inl (i : Int), .inr (some 65)] T L P (mI J 64 i (mS (sM I a0 b0) (sM I b0 c0) i)) hn := by
                intro v hv
                refine r_iast K dX8_melt_177 (by first | assumption | exact hW.1 _ _ rfl | exact hW.2.2.1 _ _ _ rfl) (by omega) (by omega) ?_
                rw [Int.toNat_natCast]
                refine r_iinc K dX8_melt_178 (by decide) rfl ?_
                refine r_goto K 97 dX8_melt_181 (by decide) ?_
                refine ihe (i + 1) _ _ _ _ (by omega) (fun k k1 k2 => by rw [mI_ne k2, mI_ne k1]; exact u1 k k1 k2) (fun x hx => ?_) (fun x x1 x2 => ?_)
                · rw [mI_ne (by decide), mI_row, mI_row, mI_ne (by decide)]
                  by_cases w : x = i
                  · rw [if_pos w, if_pos w, w]; exact ⟨rfl, hv⟩
                  · rw [if_neg w, if_neg w]; exact u2 x (by omega)
                · rw [mI_ne (by decide), mI_row, mI_row, mI_ne (by decide), if_neg (by omega), if_neg (by omega)]; exact u3 x (by omega) x2
              have j136 : ∀ v : Int, v = mS (sM I a0 b0) (sM I b0 c0) i → RR X Y Q 0 0 136 [some (.inr (some 54)), some (.inl (a0 : Int)), some (.inl (b0 : Int)), some (.inl (c0 : Int)), some (.inl (mN I c0 : Int)), some (.inl (i : Int)), some (.inl (sM I b0 c0 i)), g7, g8] [.inl v, .inl (i : Int), .inr (some 64)] T L P J hn := by
                intro v hv
                refine r_iast K dX8_melt_136 (by first | assumption | exact hW.1 _ _ rfl | exact hW.2.2.1 _ _ _ rfl) (by omega) (by omega) ?_
                rw [Int.toNat_natCast, hv]
                refine r_aload_n K dX8_melt_137 rfl ?_
                refine r_getR K dX8_melt_138 f_X8_41 rfl (by first | assumption | exact hW.1 _ _ rfl | exact hW.2.2.1 _ _ _ rfl) (by first | assumption | exact hW.1 _ _ rfl | exact hW.2.2.1 _ _ _ rfl) ?_
                refine r_iload K dX8_melt_141 rfl ?_
                refine r_aload_n K dX8_melt_143 rfl ?_
                refine r_getR K dX8_melt_144 f_X8_38 rfl (by first | assumption | exact hW.1 _ _ rfl | exact hW.2.2.1 _ _ _ rfl) (by first | assumption | exact hW.1 _ _ rfl | exact hW.2.2.1 _ _ _ rfl) ?_
                refine r_iload K dX8_melt_147 rfl ?_
                refine r_iald K dX8_melt_149 (by first | assumption | exact hW.1 _ _ rfl | exact hW.2.2.1 _ _ _ rfl) (by omega) (by omega) ?_
                rw [Int.toNat_natCast, mI_eq]
                refine r_iconst K dX8_melt_150 ?_
                refine r_icmp_ne K 158 dX8_melt_151 (by decide) (fun c151 => ?_) (fun c151 => ?_)
                · have hq : 0 ≤ sM I b0 c0 i := by
                    by_cases w : 0 ≤ sM I b0 c0 i
                    · exact w
                    · exact absurd (show mS (sM I a0 b0) (sM I b0 c0) i = -1 by rw [mS, if_neg w]; omega) c151
                  have r3 := s1in (sM I b0 c0 i).toNat (by omega)
                  refine r_aload_n K dX8_melt_158 rfl ?_
                  refine r_getR K dX8_melt_159 f_X8_41 rfl (by first | assumption | exact hW.1 _ _ rfl | exact hW.2.2.1 _ _ _ rfl) (by first | assumption | exact hW.1 _ _ rfl | exact hW.2.2.1 _ _ _ rfl) ?_
                  refine r_iload K dX8_melt_162 rfl ?_
                  refine r_iald K dX8_melt_164 (by first | assumption | exact hW.1 _ _ rfl | exact hW.2.2.1 _ _ _ rfl) (by omega) (by omega) ?_
                  rw [mI_ne (by decide), Int.toNat_natCast, r1.2]
                  refine r_aload_n K dX8_melt_165 rfl ?_
                  refine r_getR K dX8_melt_166 f_X8_47 rfl (by first | assumption | exact hW.1 _ _ rfl | exact hW.2.2.1 _ _ _ rfl) (by first | assumption | exact hW.1 _ _ rfl | exact hW.2.2.1 _ _ _ rfl) ?_
                  refine r_iload K dX8_melt_169 rfl ?_
                  refine r_iald K dX8_melt_171 (by first | assumption | exact hW.1 _ _ rfl | exact hW.2.2.1 _ _ _ rfl) (by omega) (by omega) ?_
                  rw [mI_ne (by decide), (e66' _ (by omega)).2]
                  refine r_iadd K dX8_melt_172 ?_
                  refine r_sipush K dX8_melt_173 ?_
                  refine r_iand K dX8_melt_176 ?_
                  rw [zAnd_255 ⟨by omega, by omega⟩]
                  first | exact j177 _ (by rw [bMM, if_pos c151]) | exact j177 _ (by rw [bMM, if_neg c151])
                · refine r_iconst K dX8_melt_154 ?_
                  refine r_goto K 177 dX8_melt_155 (by decide) ?_
                  first | exact j177 _ (by rw [bMM, if_pos c151]) | exact j177 _ (by rw [bMM, if_neg c151])
              refine r_iload K dX8_melt_97 rfl ?_
              refine r_iload K dX8_melt_99 rfl ?_
              refine r_icmp_ge K 184 dX8_melt_101 (by decide) (fun c101 => ?_) (fun c101 => ?_)
              · exact absurd c101 (by omega)
              · refine r_aload_n K dX8_melt_104 rfl ?_
                refine r_getR K dX8_melt_105 f_X8_38 rfl (by first | assumption | exact hW.1 _ _ rfl | exact hW.2.2.1 _ _ _ rfl) (by first | assumption | exact hW.1 _ _ rfl | exact hW.2.2.1 _ _ _ rfl) ?_
                refine r_iload K dX8_melt_108 rfl ?_
                refine r_iald K dX8_melt_110 (by first | assumption | exact hW.1 _ _ rfl | exact hW.2.2.1 _ _ _ rfl) (by omega) (by omega) ?_
                rw [Int.toNat_natCast, r1.1]
                refine r_istore K dX8_melt_111 (by decide) ?_
                refine r_aload_n K dX8_melt_113 rfl ?_
                refine r_getR K dX8_melt_114 f_X8_38 rfl (by first | assumption | exact hW.1 _ _ rfl | exact hW.2.2.1 _ _ _ rfl) (by first | assumption | exact hW.1 _ _ rfl | exact hW.2.2.1 _ _ _ rfl) ?_
                refine r_iload K dX8_melt_117 rfl ?_
                refine r_iload K dX8_melt_119 rfl ?_
                refine r_iconst K dX8_melt_121 ?_
                refine r_icmp_ne K 129 dX8_melt_122 (by decide) (fun c122 => ?_) (fun c122 => ?_)
                · refine r_aload_n K dX8_melt_129 rfl ?_
                  refine r_getR K dX8_melt_130 f_X8_44 rfl (by first | assumption | exact hW.1 _ _ rfl | exact hW.2.2.1 _ _ _ rfl) (by first | assumption | exact hW.1 _ _ rfl | exact hW.2.2.1 _ _ _ rfl) ?_
                  refine r_iload K dX8_melt_133 rfl ?_
                  refine r_iald K dX8_melt_135 (by first | assumption | exact hW.1 _ _ rfl | exact hW.2.2.1 _ _ _ rfl) (by omega) (by omega) ?_
                  rw [(e66' _ (by omega)).1]
                  first | exact j136 _ (by rw [mS, if_neg (by omega), c122]) | exact j136 _ (by rw [mS, if_pos (by omega)])
                · refine r_iconst K dX8_melt_125 ?_
                  refine r_goto K 136 dX8_melt_126 (by decide) ?_
                  first | exact j136 _ (by rw [mS, if_neg (by omega), c122]) | exact j136 _ (by rw [mS, if_pos (by omega)])
          refine r_aload_n K dX8_melt_86 rfl ?_
          refine r_getR K dX8_melt_87 f_X8_16 rfl (by first | assumption | exact hW.1 _ _ rfl | exact hW.2.2.1 _ _ _ rfl) (by first | assumption | exact hW.1 _ _ rfl | exact hW.2.2.1 _ _ _ rfl) ?_
          refine r_iload_n K dX8_melt_90 rfl ?_
          refine r_iald K dX8_melt_91 (by first | assumption | exact hW.1 _ _ rfl | exact hW.2.2.1 _ _ _ rfl) (by omega) (by omega) ?_
          rw [e57q, Int.toNat_natCast, (hV.n c05).1]
          refine r_istore K dX8_melt_92 (by decide) ?_
          refine r_iconst K dX8_melt_94 ?_
          refine r_istore K dX8_melt_95 (by decide) ?_
          exact loop2 (mN I c0) 0 _ _ _ J2 (by omega) (fun _ _ _ => rfl) (fun x hx => absurd hx (by omega)) (fun x _ hx => q5 x hx)
        · exact absurd c43 (by omega)
      | succ e ihe =>
        intro i g5 g6 g7 g8 J he h1 h2
        have e57 : J 57 = I 57 := by rw [h1 57 (by decide) (by decide)]; exact e57'
        have e64 : J 64 = J1 64 := h1 64 (by decide) (by decide)
        have e65 : J 65 = J1 65 := h1 65 (by decide) (by decide)
        have r1 := p5 i (by omega)
        refine r_iload K dX8_melt_35 rfl ?_
        refine r_aload_n K dX8_melt_37 rfl ?_
        refine r_getR K dX8_melt_38 f_X8_16 rfl (by first | assumption | exact hW.1 _ _ rfl | exact hW.2.2.1 _ _ _ rfl) (by first | assumption | exact hW.1 _ _ rfl | exact hW.2.2.1 _ _ _ rfl) ?_
        refine r_iload_n K dX8_melt_41 rfl ?_
        refine r_iald K dX8_melt_42 (by first | assumption | exact hW.1 _ _ rfl | exact hW.2.2.1 _ _ _ rfl) (by omega) (by omega) ?_
        rw [e57, Int.toNat_natCast, (hV.n b05).1]
        refine r_icmp_ge K 80 dX8_melt_43 (by decide) (fun c43 => ?_) (fun c43 => ?_)
        · exact absurd c43 (by omega)
        · refine r_aload_n K dX8_melt_46 rfl ?_
          refine r_getR K dX8_melt_47 f_X8_44 rfl (by first | assumption | exact hW.1 _ _ rfl | exact hW.2.2.1 _ _ _ rfl) (by first | assumption | exact hW.1 _ _ rfl | exact hW.2.2.1 _ _ _ rfl) ?_
          refine r_iload K dX8_melt_50 rfl ?_
          refine r_aload_n K dX8_melt_52 rfl ?_
          refine r_getR K dX8_melt_53 f_X8_38 rfl (by first | assumption | exact hW.1 _ _ rfl | exact hW.2.2.1 _ _ _ rfl) (by first | assumption | exact hW.1 _ _ rfl | exact hW.2.2.1 _ _ _ rfl) ?_
          refine r_iload K dX8_melt_56 rfl ?_
          refine r_iald K dX8_melt_58 (by first | assumption | exact hW.1 _ _ rfl | exact hW.2.2.1 _ _ _ rfl) (by omega) (by omega) ?_
          rw [e64, Int.toNat_natCast, r1.1]
          refine r_iast K dX8_melt_59 (by first | assumption | exact hW.1 _ _ rfl | exact hW.2.2.1 _ _ _ rfl) (by omega) (by omega) ?_
          rw [Int.toNat_natCast]
          refine r_aload_n K dX8_melt_60 rfl ?_
          refine r_getR K dX8_melt_61 f_X8_47 rfl (by first | assumption | exact hW.1 _ _ rfl | exact hW.2.2.1 _ _ _ rfl) (by first | assumption | exact hW.1 _ _ rfl | exact hW.2.2.1 _ _ _ rfl) ?_
          refine r_iload K dX8_melt_64 rfl ?_
          refine r_aload_n K dX8_melt_66 rfl ?_
          refine r_getR K dX8_melt_67 f_X8_41 rfl (by first | assumption | exact hW.1 _ _ rfl | exact hW.2.2.1 _ _ _ rfl) (by first | assumption | exact hW.1 _ _ rfl | exact hW.2.2.1 _ _ _ rfl) ?_
          refine r_iload K dX8_melt_70 rfl ?_
          refine r_iald K dX8_melt_72 (by first | assumption | exact hW.1 _ _ rfl | exact hW.2.2.1 _ _ _ rfl) (by omega) (by omega) ?_
          rw [mI_ne (by decide), e65, Int.toNat_natCast, r1.2]
          refine r_iast K dX8_melt_73 (by first | assumption | exact hW.1 _ _ rfl | exact hW.2.2.1 _ _ _ rfl) (by omega) (by omega) ?_
          rw [Int.toNat_natCast]
          refine r_iinc K dX8_melt_74 (by decide) rfl ?_
          refine r_goto K 35 dX8_melt_77 (by decide) ?_
          refine ihe (i + 1) _ _ _ _ _ (by omega) (fun k k1 k2 => by rw [mI_ne k2, mI_ne k1]; exact h1 k k1 k2) (fun x hx => ?_)
          rw [mI_ne (by decide), mI_row, mI_row, mI_ne (by decide)]
          by_cases w : x = i
          · rw [if_pos w, if_pos w, w]; exact ⟨rfl, rfl⟩
          · rw [if_neg w, if_neg w]; exact h2 x (by omega)
    refine r_iconst K dX8_melt_32 ?_
    refine r_istore K dX8_melt_33 (by decide) ?_
    exact loop1 (mN I b0) 0 _ _ _ _ J1 (by omega) (fun _ _ _ => rfl) (fun x hx => absurd hx (by omega))
  refine r_aload_n K dX8_melt_0 rfl ?_
  refine r_iload_n K dX8_melt_1 rfl ?_
  refine rcV1p K dX8_melt_2 c_X8_117 v_X8_isVersion (by first | assumption | exact hW.1 _ _ rfl | exact hW.2.2.1 _ _ _ rfl) (k_isVersion hW) (by decide) (Nat.le_of_ble_eq_true rfl) ?_
  refine r_if_eq K 24 dX8_melt_5 (by decide) (fun c5 => ?_) (fun c5 => ?_)
  · have h1 : ¬ (hasM I a) := fun q => by rw [if_pos q] at c5; exact absurd c5 (by decide)
    refine r_iconst K dX8_melt_24 ?_
    exact q_iret K hQ rfl dX8_melt_25 (Nat.le_refl _) (Nat.le_refl _) (⟨rfl, rfl, rfl, rfl, Or.inl ⟨fun q => by first | exact h1 q.1 | exact h2 q.2.1 | exact h3 q.2.2, rfl, rfl⟩⟩)
  · have h1 : hasM I a := by
      by_cases q : hasM I a
      · exact q
      · rw [if_neg q] at c5; exact absurd rfl c5
    refine r_aload_n K dX8_melt_8 rfl ?_
    refine r_iload_n K dX8_melt_9 rfl ?_
    refine rcV1p K dX8_melt_10 c_X8_117 v_X8_isVersion (by first | assumption | exact hW.1 _ _ rfl | exact hW.2.2.1 _ _ _ rfl) (k_isVersion hW) (by decide) (Nat.le_of_ble_eq_true rfl) ?_
    refine r_if_eq K 24 dX8_melt_13 (by decide) (fun c13 => ?_) (fun c13 => ?_)
    · have h2 : ¬ (hasM I b) := fun q => by rw [if_pos q] at c13; exact absurd c13 (by decide)
      refine r_iconst K dX8_melt_24 ?_
      exact q_iret K hQ rfl dX8_melt_25 (Nat.le_refl _) (Nat.le_refl _) (⟨rfl, rfl, rfl, rfl, Or.inl ⟨fun q => by first | exact h1 q.1 | exact h2 q.2.1 | exact h3 q.2.2, rfl, rfl⟩⟩)
    · have h2 : hasM I b := by
        by_cases q : hasM I b
        · exact q
        · rw [if_neg q] at c13; exact absurd rfl c13
      refine r_aload_n K dX8_melt_16 rfl ?_
      refine r_iload_n K dX8_melt_17 rfl ?_
      refine rcV1p K dX8_melt_18 c_X8_117 v_X8_isVersion (by first | assumption | exact hW.1 _ _ rfl | exact hW.2.2.1 _ _ _ rfl) (k_isVersion hW) (by decide) (Nat.le_of_ble_eq_true rfl) ?_
      refine r_if_ne K 26 dX8_melt_21 (by decide) (fun c21 => ?_) (fun c21 => ?_)
      · have h3 : hasM I c := by
          by_cases q : hasM I c
          · exact q
          · rw [if_neg q] at c21; exact absurd rfl c21
        exact main a.toNat b.toNat c.toNat (by omega) (by omega) (by omega) (by omega) (by omega) (by omega) ⟨h1, h2, h3⟩
      · have h3 : ¬ (hasM I c) := fun q => by rw [if_pos q] at c21; exact absurd c21 (by decide)
        refine r_iconst K dX8_melt_24 ?_
        exact q_iret K hQ rfl dX8_melt_25 (Nat.le_refl _) (Nat.le_refl _) (⟨rfl, rfl, rfl, rfl, Or.inl ⟨fun q => by first | exact h1 q.1 | exact h2 q.2.1 | exact h3 q.2.2, rfl, rfl⟩⟩)
end MO7
