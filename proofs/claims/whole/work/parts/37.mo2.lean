section MO2
variable {T L : Nat → Nat} {P : Nat → Nat → Option Nat} {I : Nat → Nat → Int} {hn : Nat}
/-- only step st of the model's plan has changed -/
def tkF (I : Nat → Nat → Int) (st : Nat) (J : Nat → Nat → Int) : Prop := (∀ k, k < 60 ∨ 63 < k → J k = I k) ∧ ∀ k j, j ≠ st → J k j = I k j
theorem tkF.refl (I : Nat → Nat → Int) (st : Nat) : tkF I st I := ⟨fun _ _ => rfl, fun _ _ _ => rfl⟩
theorem tkF.set {I J : Nat → Nat → Int} {st k : Nat} {z : Int} (h : tkF I st J) (h1 : 60 ≤ k) (h2 : k ≤ 63) : tkF I st (mI J k st z) := by
  refine ⟨fun k' hk => by rw [mI_ne (by omega)]; exact h.1 k' hk, fun k' j hj => ?_⟩
  by_cases e : k' = k
  · subst e; rw [mI_nj hj]; exact h.2 k' j hj
  · rw [mI_ne e]; exact h.2 k' j hj
set_option maxHeartbeats 4000000 in
set_option maxRecDepth 100000 in
theorem k_takes {a b i st m n w q0 : Nat} {c : Int} (hW : Wd T L P) (hV : MV I) (ha : a < 5) (hb : b < 5) (hm : I 57 a = m) (hm1 : m ≤ 120) (hn1 : n ≤ 120) (hi : i < n) (hst : I 54 10 = st) (hst1 : st < 120) (hw : w ≤ 1) (hr : ∀ p, p < m → I 58 (121 * i + p) = rn (mBy I a) (mBy I b) m n i p) (hl : ∀ j, j ≤ n → I 59 j = ls (mBy I a) (mBy I b) m n j) (h0 : 0 ≤ c) (hcn : c ≤ (n : Int) - i) (hcm : ∀ q, q < m → (ap (mBy I a) (mBy I b) i q = 0 ↔ w = 0) → rn (mBy I a) (mBy I b) m n i q ≤ c) (hcq : 0 < c → q0 < m ∧ (ap (mBy I a) (mBy I b) i q0 = 0 ↔ w = 0) ∧ rn (mBy I a) (mBy I b) m n i q0 = c ∧ ∀ q, q < q0 → (ap (mBy I a) (mBy I b) i q = 0 ↔ w = 0) → rn (mBy I a) (mBy I b) m n i q < c) (hmo : ∀ k : Nat, 1 ≤ k → (k : Int) ≤ c → 4 + (w : Int) + ls (mBy I a) (mBy I b) m n (i + k) = ls (mBy I a) (mBy I b) m n i → 4 + (w : Int) + ls (mBy I a) (mBy I b) m n (i + c.toNat) = ls (mBy I a) (mBy I b) m n i) : iX8_takes [.inr (some 54), .inl (a : Int), .inl (b : Int), .inl (i : Int), .inl (w : Int)] T L P I hn (fun r J => tkF I st J ∧ (((0 < c ∧ 4 + (w : Int) + ls (mBy I a) (mBy I b) m n (i + c.toNat) = ls (mBy I a) (mBy I b) m n i) ∧ r = some (.inl 1) ∧ (J 60 st, J 61 st, J 62 st, J 63 st) = ((w : Int), c, (q0 : Int), ap (mBy I a) (mBy I b) i q0)) ∨ (¬ (0 < c ∧ 4 + (w : Int) + ls (mBy I a) (mBy I b) m n (i + c.toNat) = ls (mBy I a) (mBy I b) m n i) ∧ r = some (.inl 0)))) := by
  refine CT.by (by decide) (Nat.le_of_ble_eq_true rfl) fun X Y Q hQ K hv => ?_
  have l57 : L 57 = 5 := hW.2.1 57 5 rfl (by decide)
  have l59 : L 59 = 121 := hW.2.1 59 121 rfl (by decide)
  have l60 : L 60 = 120 := hW.2.1 60 120 rfl (by decide)
  have l61 : L 61 = 120 := hW.2.1 61 120 rfl (by decide)
  have l62 : L 62 = 120 := hW.2.1 62 120 rfl (by decide)
  have l63 : L 63 = 120 := hW.2.1 63 120 rfl (by decide)
  have hls : ∀ j, j ≤ n → 0 ≤ ls (mBy I a) (mBy I b) m n j ∧ ls (mBy I a) (mBy I b) m n j ≤ 240 := fun j hj => by
    have := ls_in (mBy I a) (mBy I b) m n hn1 (n - j) j (by omega)
    omega
  have loop : ∀ (d p : Nat) (best : Int) (g7 g8 : Option PV) (J : Nat → Nat → Int), p + d = m → tkF I st J → 0 ≤ best → best ≤ c → ((¬ (0 < c ∧ 4 + (w : Int) + ls (mBy I a) (mBy I b) m n (i + c.toNat) = ls (mBy I a) (mBy I b) m n i) ∧ best = 0) ∨ ((0 < c ∧ 4 + (w : Int) + ls (mBy I a) (mBy I b) m n (i + c.toNat) = ls (mBy I a) (mBy I b) m n i) ∧ p ≤ q0 ∧ best < c) ∨ ((0 < c ∧ 4 + (w : Int) + ls (mBy I a) (mBy I b) m n (i + c.toNat) = ls (mBy I a) (mBy I b) m n i) ∧ q0 < p ∧ best = c ∧ J 62 st = q0 ∧ J 63 st = ap (mBy I a) (mBy I b) i q0)) → RR X Y Q 0 0 6 [some (.inr (some 54)), some (.inl (a : Int)), some (.inl (b : Int)), some (.inl (i : Int)), some (.inl (w : Int)), some (.inl best), some (.inl (p : Int)), g7, g8] [] T L P J hn := by
    intro d
    induction d with
    | zero =>
      intro p best g7 g8 J hd hF b0 b1 hI
      have e57 : J 57 a = m := by rw [hF.1 57 (by omega)]; exact hm
      have e54 : J 54 10 = st := by rw [hF.1 54 (by omega)]; exact hst
      refine r_iload K dX8_takes_6 rfl ?_
      refine r_aload_n K dX8_takes_8 rfl ?_
      refine r_getR K dX8_takes_9 f_X8_16 rfl (by first | assumption | exact hW.1 _ _ rfl | exact hW.2.2.1 _ _ _ rfl) (by first | assumption | exact hW.1 _ _ rfl | exact hW.2.2.1 _ _ _ rfl) ?_
      refine r_iload_n K dX8_takes_12 rfl ?_
      refine r_iald K dX8_takes_13 (by first | assumption | exact hW.1 _ _ rfl | exact hW.2.2.1 _ _ _ rfl) (by omega) (by omega) ?_
      rw [Int.toNat_natCast, e57]
      refine r_icmp_ge K 134 dX8_takes_14 (by decide) (fun c14 => ?_) (fun c14 => ?_)
      · refine r_aload_n K dX8_takes_134 rfl ?_
        refine r_getR K dX8_takes_135 f_X8_26 rfl (by first | assumption | exact hW.1 _ _ rfl | exact hW.2.2.1 _ _ _ rfl) (by first | assumption | exact hW.1 _ _ rfl | exact hW.2.2.1 _ _ _ rfl) ?_
        refine r_aload_n K dX8_takes_138 rfl ?_
        refine r_getI K dX8_takes_139 f_X8_142 rfl (by first | assumption | exact hW.1 _ _ rfl | exact hW.2.2.1 _ _ _ rfl) ?_
        rw [e54]
        refine r_iload K dX8_takes_142 rfl ?_
        refine r_iast K dX8_takes_144 (by first | assumption | exact hW.1 _ _ rfl | exact hW.2.2.1 _ _ _ rfl) (by omega) (by omega) ?_
        rw [Int.toNat_natCast]
        refine r_aload_n K dX8_takes_145 rfl ?_
        refine r_getR K dX8_takes_146 f_X8_29 rfl (by first | assumption | exact hW.1 _ _ rfl | exact hW.2.2.1 _ _ _ rfl) (by first | assumption | exact hW.1 _ _ rfl | exact hW.2.2.1 _ _ _ rfl) ?_
        refine r_aload_n K dX8_takes_149 rfl ?_
        refine r_getI K dX8_takes_150 f_X8_142 rfl (by first | assumption | exact hW.1 _ _ rfl | exact hW.2.2.1 _ _ _ rfl) ?_
        rw [mI_ne (by decide), e54]
        refine r_iload K dX8_takes_153 rfl ?_
        refine r_iast K dX8_takes_155 (by first | assumption | exact hW.1 _ _ rfl | exact hW.2.2.1 _ _ _ rfl) (by omega) (by omega) ?_
        rw [Int.toNat_natCast]
        refine r_iload K dX8_takes_156 rfl ?_
        refine r_if_le K 165 dX8_takes_158 (by decide) (fun c158 => ?_) (fun c158 => ?_)
        · refine r_iconst K dX8_takes_165 ?_
          exact q_zret K hQ rfl dX8_takes_166 (by first | exact Or.inl rfl | exact Or.inr rfl) (Nat.le_refl _) (Nat.le_refl _) (⟨rfl, rfl, rfl, rfl, (hF.set (by decide) (by decide)).set (by decide) (by decide), by
            rcases hI with ⟨q1, q2⟩ | ⟨q1, q2, q3⟩ | ⟨q1, q2, q3, q4, q5⟩
            · first | exact absurd c158 (by omega) | exact Or.inr ⟨q1, rfl⟩
            · exact absurd (hcq q1.1).1 (by omega)
            · first
              | exact absurd c158 (by omega)
              | exact Or.inl ⟨q1, rfl, by rw [mI_ne (by decide), mI_eq, mI_eq, mI_ne (by decide), mI_ne (by decide), mI_ne (by decide), mI_ne (by decide), q3, q4, q5]⟩⟩)
        · refine r_iconst K dX8_takes_161 ?_
          refine r_goto K 166 dX8_takes_162 (by decide) ?_
          exact q_zret K hQ rfl dX8_takes_166 (by first | exact Or.inl rfl | exact Or.inr rfl) (Nat.le_refl _) (Nat.le_refl _) (⟨rfl, rfl, rfl, rfl, (hF.set (by decide) (by decide)).set (by decide) (by decide), by
            rcases hI with ⟨q1, q2⟩ | ⟨q1, q2, q3⟩ | ⟨q1, q2, q3, q4, q5⟩
            · first | exact absurd c158 (by omega) | exact Or.inr ⟨q1, rfl⟩
            · exact absurd (hcq q1.1).1 (by omega)
            · first
              | exact absurd c158 (by omega)
              | exact Or.inl ⟨q1, rfl, by rw [mI_ne (by decide), mI_eq, mI_eq, mI_ne (by decide), mI_ne (by decide), mI_ne (by decide), mI_ne (by decide), q3, q4, q5]⟩⟩)
      · exact absurd c14 (by omega)
    | succ d ih =>
      intro p best g7 g8 J hd hF b0 b1 hI
      have e57 : J 57 a = m := by rw [hF.1 57 (by omega)]; exact hm
      have e54 : J 54 10 = st := by rw [hF.1 54 (by omega)]; exact hst
      have hV1 : MV J := hV.cong (hF.1 56 (by omega)) (hF.1 57 (by omega))
      have eA : mBy J a = mBy I a := by unfold mBy; rw [hF.1 56 (by omega)]
      have eB : mBy J b = mBy I b := by unfold mBy; rw [hF.1 56 (by omega)]
      have hrn := rn_in (mBy I a) (mBy I b) m n i p
      have j128 : ∀ (best : Int) (J : Nat → Nat → Int) (g7 g8 : Option PV), tkF I st J → 0 ≤ best → best ≤ c → ((¬ (0 < c ∧ 4 + (w : Int) + ls (mBy I a) (mBy I b) m n (i + c.toNat) = ls (mBy I a) (mBy I b) m n i) ∧ best = 0) ∨ ((0 < c ∧ 4 + (w : Int) + ls (mBy I a) (mBy I b) m n (i + c.toNat) = ls (mBy I a) (mBy I b) m n i) ∧ p + 1 ≤ q0 ∧ best < c) ∨ ((0 < c ∧ 4 + (w : Int) + ls (mBy I a) (mBy I b) m n (i + c.toNat) = ls (mBy I a) (mBy I b) m n i) ∧ q0 < p + 1 ∧ best = c ∧ J 62 st = q0 ∧ J 63 st = ap (mBy I a) (mBy I b) i q0)) → RR X Y Q 0 0 128 [some (.inr (some 54)), some (.inl (a : Int)), some (.inl (b : Int)), some (.inl (i : Int)), some (.inl (w : Int)), some (.inl best), some (.inl (p : Int)), g7, g8] [] T L P J hn := by
        intro best J g7 g8 hF b0 b1 hI
        refine r_iinc K dX8_takes_128 (by decide) rfl ?_
        refine r_goto K 6 dX8_takes_131 (by decide) ?_
        exact ih (p + 1) best _ _ _ (by omega) hF b0 b1 hI
      have inner : (ap (mBy I a) (mBy I b) i p = 0 ↔ w = 0) → ∀ (e : Nat) (k best : Int) (J : Nat → Nat → Int), k.toNat = e → k ≤ rn (mBy I a) (mBy I b) m n i p → 0 ≤ k → tkF I st J → 0 ≤ best → best ≤ c → ((¬ (0 < c ∧ 4 + (w : Int) + ls (mBy I a) (mBy I b) m n (i + c.toNat) = ls (mBy I a) (mBy I b) m n i) ∧ best = 0) ∨ ((0 < c ∧ 4 + (w : Int) + ls (mBy I a) (mBy I b) m n (i + c.toNat) = ls (mBy I a) (mBy I b) m n i) ∧ p < q0 ∧ best < c) ∨ ((0 < c ∧ 4 + (w : Int) + ls (mBy I a) (mBy I b) m n (i + c.toNat) = ls (mBy I a) (mBy I b) m n i) ∧ p = q0 ∧ best < c ∧ k = c) ∨ ((0 < c ∧ 4 + (w : Int) + ls (mBy I a) (mBy I b) m n (i + c.toNat) = ls (mBy I a) (mBy I b) m n i) ∧ q0 ≤ p ∧ best = c ∧ J 62 st = q0 ∧ J 63 st = ap (mBy I a) (mBy I b) i q0)) → RR X Y Q 0 0 63 [some (.inr (some 54)), some (.inl (a : Int)), some (.inl (b : Int)), some (.inl (i : Int)), some (.inl (w : Int)), some (.inl best), some (.inl (p : Int)), some (.inl (ap (mBy I a) (mBy I b) i p)), some (.inl k)] [] T L P J hn := by
        intro hcd e
        induction e with
        | zero =>
          intro k best J he hk k0 hF b0 b1 hH
          refine r_iload K dX8_takes_63 rfl ?_
          refine r_iload K dX8_takes_65 rfl ?_
          refine r_icmp_le K 128 dX8_takes_67 (by decide) (fun c67 => ?_) (fun c67 => ?_)
          · refine j128 best J _ _ hF b0 b1 ?_
            rcases hH with h | ⟨q1, q2, q3⟩ | ⟨q1, q2, q3, q4⟩ | ⟨q1, q2, q3⟩
            · exact Or.inl h
            · exact Or.inr (Or.inl ⟨q1, by omega, q3⟩)
            · exact absurd q1.1 (by omega)
            · exact Or.inr (Or.inr ⟨q1, by omega, q3⟩)
          · exact absurd c67 (by omega)
        | succ e ihe =>
          intro k best J he hk k0 hF b0 b1 hH
          have e59 : J 59 = I 59 := hF.1 59 (by omega)
          have e54 : J 54 10 = st := by rw [hF.1 54 (by omega)]; exact hst
          have hkc : k ≤ c := by have := hcm p (by omega) hcd; omega
          have t1 := hl (i + k.toNat) (by omega)
          have t2 := hl i (by omega)
          have t3 := hls (i + k.toNat) (by omega)
          have t4 := hls i (by omega)
          refine r_iload K dX8_takes_63 rfl ?_
          refine r_iload K dX8_takes_65 rfl ?_
          refine r_icmp_le K 128 dX8_takes_67 (by decide) (fun c67 => ?_) (fun c67 => ?_)
          · clear t1 t2 t3 t4
            refine j128 best J _ _ hF b0 b1 ?_
            rcases hH with h | ⟨q1, q2, q3⟩ | ⟨q1, q2, q3, q4⟩ | ⟨q1, q2, q3⟩
            · exact Or.inl h
            · exact Or.inr (Or.inl ⟨q1, by omega, q3⟩)
            · exact absurd c67 (by omega)
            · exact Or.inr (Or.inr ⟨q1, by omega, q3⟩)
          · refine r_iconst K dX8_takes_70 ?_
            refine r_iload K dX8_takes_71 rfl ?_
            refine r_iadd K dX8_takes_73 ?_
            refine r_aload_n K dX8_takes_74 rfl ?_
            refine r_getR K dX8_takes_75 f_X8_23 rfl (by first | assumption | exact hW.1 _ _ rfl | exact hW.2.2.1 _ _ _ rfl) (by first | assumption | exact hW.1 _ _ rfl | exact hW.2.2.1 _ _ _ rfl) ?_
            refine r_iload_n K dX8_takes_78 rfl ?_
            refine r_iload K dX8_takes_79 rfl ?_
            refine r_iadd K dX8_takes_81 ?_
            refine r_iald K dX8_takes_82 (by first | assumption | exact hW.1 _ _ rfl | exact hW.2.2.1 _ _ _ rfl) (by omega) (by omega) ?_
            rw [e59, show ((i : Int) + k).toNat = i + k.toNat by omega, t1]
            refine r_iadd K dX8_takes_83 ?_
            refine r_aload_n K dX8_takes_84 rfl ?_
            refine r_getR K dX8_takes_85 f_X8_23 rfl (by first | assumption | exact hW.1 _ _ rfl | exact hW.2.2.1 _ _ _ rfl) (by first | assumption | exact hW.1 _ _ rfl | exact hW.2.2.1 _ _ _ rfl) ?_
            refine r_iload_n K dX8_takes_88 rfl ?_
            refine r_iald K dX8_takes_89 (by first | assumption | exact hW.1 _ _ rfl | exact hW.2.2.1 _ _ _ rfl) (by omega) (by omega) ?_
            rw [e59, Int.toNat_natCast, t2]
            refine r_icmp_eq K 96 dX8_takes_90 (by decide) (fun c90 => ?_) (fun c90 => ?_)
            · have hg := hmo k.toNat (by omega) (by omega) (by omega)
              refine r_iload K dX8_takes_96 rfl ?_
              refine r_istore K dX8_takes_98 (by decide) ?_
              refine r_aload_n K dX8_takes_100 rfl ?_
              refine r_getR K dX8_takes_101 f_X8_32 rfl (by first | assumption | exact hW.1 _ _ rfl | exact hW.2.2.1 _ _ _ rfl) (by first | assumption | exact hW.1 _ _ rfl | exact hW.2.2.1 _ _ _ rfl) ?_
              refine r_aload_n K dX8_takes_104 rfl ?_
              refine r_getI K dX8_takes_105 f_X8_142 rfl (by first | assumption | exact hW.1 _ _ rfl | exact hW.2.2.1 _ _ _ rfl) ?_
              rw [e54]
              refine r_iload K dX8_takes_108 rfl ?_
              refine r_iast K dX8_takes_110 (by first | assumption | exact hW.1 _ _ rfl | exact hW.2.2.1 _ _ _ rfl) (by omega) (by omega) ?_
              rw [Int.toNat_natCast]
              refine r_aload_n K dX8_takes_111 rfl ?_
              refine r_getR K dX8_takes_112 f_X8_35 rfl (by first | assumption | exact hW.1 _ _ rfl | exact hW.2.2.1 _ _ _ rfl) (by first | assumption | exact hW.1 _ _ rfl | exact hW.2.2.1 _ _ _ rfl) ?_
              refine r_aload_n K dX8_takes_115 rfl ?_
              refine r_getI K dX8_takes_116 f_X8_142 rfl (by first | assumption | exact hW.1 _ _ rfl | exact hW.2.2.1 _ _ _ rfl) ?_
              rw [mI_ne (by decide), e54]
              refine r_iload K dX8_takes_119 rfl ?_
              refine r_iast K dX8_takes_121 (by first | assumption | exact hW.1 _ _ rfl | exact hW.2.2.1 _ _ _ rfl) (by omega) (by omega) ?_
              rw [Int.toNat_natCast]
              refine r_iinc K dX8_takes_122 (by decide) rfl ?_
              refine r_goto K 63 dX8_takes_125 (by decide) ?_
              first
              | (refine ihe _ _ _ (by omega) (by omega) (by omega) ((hF.set (by decide) (by decide)).set (by decide) (by decide)) (by omega) (by omega) ?_
                 rcases hH with ⟨q1, q2⟩ | ⟨q1, q2, q3⟩ | ⟨q1, q2, q3, q4⟩ | ⟨q1, q2, q3, -⟩
                 · exact absurd (show 0 < c ∧ 4 + (w : Int) + ls (mBy I a) (mBy I b) m n (i + c.toNat) = ls (mBy I a) (mBy I b) m n i from ⟨by omega, hg⟩) q1
                 · exact Or.inr (Or.inl ⟨q1, q2, by have := (hcq q1.1).2.2.2 p q2 hcd; omega⟩)
                 · subst q2 q4
                   exact Or.inr (Or.inr (Or.inr ⟨q1, Nat.le_refl _, rfl, by rw [mI_ne (by decide), mI_eq], by rw [mI_eq]⟩))
                 · exact absurd c67 (by omega))
              | (refine ihe _ _ _ (by omega) (by omega) (by omega) hF (by omega) (by omega) ?_
                 rcases hH with h | ⟨q1, q2, q3⟩ | ⟨q1, q2, q3, q4⟩ | h
                 · exact Or.inl h
                 · exact Or.inr (Or.inl ⟨q1, q2, q3⟩)
                 · subst q4; exact absurd q1.2 hg
                 · exact Or.inr (Or.inr (Or.inr h)))
            · have hg : ¬ 4 + (w : Int) + ls (mBy I a) (mBy I b) m n (i + k.toNat) = ls (mBy I a) (mBy I b) m n i := by omega
              refine r_goto K 122 dX8_takes_93 (by decide) ?_
              refine r_iinc K dX8_takes_122 (by decide) rfl ?_
              refine r_goto K 63 dX8_takes_125 (by decide) ?_
              first
              | (refine ihe _ _ _ (by omega) (by omega) (by omega) ((hF.set (by decide) (by decide)).set (by decide) (by decide)) (by omega) (by omega) ?_
                 rcases hH with ⟨q1, q2⟩ | ⟨q1, q2, q3⟩ | ⟨q1, q2, q3, q4⟩ | ⟨q1, q2, q3, -⟩
                 · exact absurd (show 0 < c ∧ 4 + (w : Int) + ls (mBy I a) (mBy I b) m n (i + c.toNat) = ls (mBy I a) (mBy I b) m n i from ⟨by omega, hg⟩) q1
                 · exact Or.inr (Or.inl ⟨q1, q2, by have := (hcq q1.1).2.2.2 p q2 hcd; omega⟩)
                 · subst q2 q4
                   exact Or.inr (Or.inr (Or.inr ⟨q1, Nat.le_refl _, rfl, by rw [mI_ne (by decide), mI_eq], by rw [mI_eq]⟩))
                 · exact absurd c67 (by omega))
              | (refine ihe _ _ _ (by omega) (by omega) (by omega) hF (by omega) (by omega) ?_
                 rcases hH with h | ⟨q1, q2, q3⟩ | ⟨q1, q2, q3, q4⟩ | h
                 · exact Or.inl h
                 · exact Or.inr (Or.inl ⟨q1, q2, q3⟩)
                 · subst q4; exact absurd q1.2 hg
                 · exact Or.inr (Or.inr (Or.inr h)))
      have j54 : (ap (mBy I a) (mBy I b) i p = 0 ↔ w = 0) → RR X Y Q 0 0 54 [some (.inr (some 54)), some (.inl (a : Int)), some (.inl (b : Int)), some (.inl (i : Int)), some (.inl (w : Int)), some (.inl best), some (.inl (p : Int)), some (.inl (ap (mBy I a) (mBy I b) i p)), g8] [] T L P J hn := by
        intro hcd
        refine r_aload_n K dX8_takes_54 rfl ?_
        refine r_iload_n K dX8_takes_55 rfl ?_
        refine r_iload K dX8_takes_56 rfl ?_
        refine rcV2p K dX8_takes_58 c_X8_132 v_X8_runAt (by first | assumption | exact hW.1 _ _ rfl | exact hW.2.2.1 _ _ _ rfl) (k_runAt (i := i) (p := p) hW (by omega)) (by decide) (Nat.le_of_ble_eq_true rfl) ?_
        rw [hF.1 58 (by omega), hr p (by omega)]
        refine r_istore K dX8_takes_61 (by decide) ?_
        refine inner hcd _ _ _ _ rfl (Int.le_refl _) hrn.1 hF b0 b1 ?_
        rcases hI with h | ⟨q1, q2, q3⟩ | ⟨q1, q2, q3⟩
        · exact Or.inl h
        · rcases Nat.lt_or_ge p q0 with e | e
          · exact Or.inr (Or.inl ⟨q1, e, q3⟩)
          · have : p = q0 := by omega
            subst this
            exact Or.inr (Or.inr (Or.inl ⟨q1, rfl, q3, (hcq q1.1).2.2.1⟩))
        · exact Or.inr (Or.inr (Or.inr ⟨q1, by omega, q3⟩))
      refine r_iload K dX8_takes_6 rfl ?_
      refine r_aload_n K dX8_takes_8 rfl ?_
      refine r_getR K dX8_takes_9 f_X8_16 rfl (by first | assumption | exact hW.1 _ _ rfl | exact hW.2.2.1 _ _ _ rfl) (by first | assumption | exact hW.1 _ _ rfl | exact hW.2.2.1 _ _ _ rfl) ?_
      refine r_iload_n K dX8_takes_12 rfl ?_
      refine r_iald K dX8_takes_13 (by first | assumption | exact hW.1 _ _ rfl | exact hW.2.2.1 _ _ _ rfl) (by omega) (by omega) ?_
      rw [Int.toNat_natCast, e57]
      refine r_icmp_ge K 134 dX8_takes_14 (by decide) (fun c14 => ?_) (fun c14 => ?_)
      · exact absurd c14 (by omega)
      · refine r_aload_n K dX8_takes_17 rfl ?_
        refine r_iload_n K dX8_takes_18 rfl ?_
        refine r_iload_n K dX8_takes_19 rfl ?_
        refine r_iload_n K dX8_takes_20 rfl ?_
        refine r_iload K dX8_takes_21 rfl ?_
        refine rcV4p K dX8_takes_23 c_X8_128 v_X8_apart (by first | assumption | exact hW.1 _ _ rfl | exact hW.2.2.1 _ _ _ rfl) (k_apart (a := a) (b := b) (i := i) (p := p) hW hV1 (by omega) (by omega)) (by decide) (Nat.le_of_ble_eq_true rfl) ?_
        rw [eA, eB]
        refine r_istore K dX8_takes_26 (by decide) ?_
        refine r_iload K dX8_takes_28 rfl ?_
        refine r_if_ne K 37 dX8_takes_30 (by decide) (fun c30 => ?_) (fun c30 => ?_)
        · refine r_iconst K dX8_takes_37 ?_
          refine r_iload K dX8_takes_38 rfl ?_
          refine r_if_ne K 47 dX8_takes_40 (by decide) (fun c40 => ?_) (fun c40 => ?_)
          · refine r_iconst K dX8_takes_47 ?_
            refine r_icmp_eq K 54 dX8_takes_48 (by decide) (fun c48 => ?_) (fun c48 => ?_)
            · first | exact absurd c48 (by decide) | exact j54 (by omega)
            · refine r_goto K 128 dX8_takes_51 (by decide) ?_
              first
              | exact absurd rfl c48
              | (refine j128 best J _ _ hF b0 b1 ?_
                 rcases hI with h | ⟨q1, q2, q3⟩ | ⟨q1, q2, q3⟩
                 · exact Or.inl h
                 · rcases Nat.lt_or_ge p q0 with e | e
                   · exact Or.inr (Or.inl ⟨q1, by omega, q3⟩)
                   · have : p = q0 := by omega
                     subst this
                     exact absurd (hcq q1.1).2.1 (by omega)
                 · exact Or.inr (Or.inr ⟨q1, by omega, q3⟩))
          · refine r_iconst K dX8_takes_43 ?_
            refine r_goto K 48 dX8_takes_44 (by decide) ?_
            refine r_icmp_eq K 54 dX8_takes_48 (by decide) (fun c48 => ?_) (fun c48 => ?_)
            · first | exact absurd c48 (by decide) | exact j54 (by omega)
            · refine r_goto K 128 dX8_takes_51 (by decide) ?_
              first
              | exact absurd rfl c48
              | (refine j128 best J _ _ hF b0 b1 ?_
                 rcases hI with h | ⟨q1, q2, q3⟩ | ⟨q1, q2, q3⟩
                 · exact Or.inl h
                 · rcases Nat.lt_or_ge p q0 with e | e
                   · exact Or.inr (Or.inl ⟨q1, by omega, q3⟩)
                   · have : p = q0 := by omega
                     subst this
                     exact absurd (hcq q1.1).2.1 (by omega)
                 · exact Or.inr (Or.inr ⟨q1, by omega, q3⟩))
        · refine r_iconst K dX8_takes_33 ?_
          refine r_goto K 38 dX8_takes_34 (by decide) ?_
          refine r_iload K dX8_takes_38 rfl ?_
          refine r_if_ne K 47 dX8_takes_40 (by decide) (fun c40 => ?_) (fun c40 => ?_)
          · refine r_iconst K dX8_takes_47 ?_
            refine r_icmp_eq K 54 dX8_takes_48 (by decide) (fun c48 => ?_) (fun c48 => ?_)
            · first | exact absurd c48 (by decide) | exact j54 (by omega)
            · refine r_goto K 128 dX8_takes_51 (by decide) ?_
              first
              | exact absurd rfl c48
              | (refine j128 best J _ _ hF b0 b1 ?_
                 rcases hI with h | ⟨q1, q2, q3⟩ | ⟨q1, q2, q3⟩
                 · exact Or.inl h
                 · rcases Nat.lt_or_ge p q0 with e | e
                   · exact Or.inr (Or.inl ⟨q1, by omega, q3⟩)
                   · have : p = q0 := by omega
                     subst this
                     exact absurd (hcq q1.1).2.1 (by omega)
                 · exact Or.inr (Or.inr ⟨q1, by omega, q3⟩))
          · refine r_iconst K dX8_takes_43 ?_
            refine r_goto K 48 dX8_takes_44 (by decide) ?_
            refine r_icmp_eq K 54 dX8_takes_48 (by decide) (fun c48 => ?_) (fun c48 => ?_)
            · first | exact absurd c48 (by decide) | exact j54 (by omega)
            · refine r_goto K 128 dX8_takes_51 (by decide) ?_
              first
              | exact absurd rfl c48
              | (refine j128 best J _ _ hF b0 b1 ?_
                 rcases hI with h | ⟨q1, q2, q3⟩ | ⟨q1, q2, q3⟩
                 · exact Or.inl h
                 · rcases Nat.lt_or_ge p q0 with e | e
                   · exact Or.inr (Or.inl ⟨q1, by omega, q3⟩)
                   · have : p = q0 := by omega
                     subst this
                     exact absurd (hcq q1.1).2.1 (by omega)
                 · exact Or.inr (Or.inr ⟨q1, by omega, q3⟩))
  refine r_iconst K dX8_takes_0 ?_
  refine r_istore K dX8_takes_1 (by decide) ?_
  refine r_iconst K dX8_takes_3 ?_
  refine r_istore K dX8_takes_4 (by decide) ?_
  refine loop m 0 0 _ _ I (by omega) (tkF.refl I st) (by omega) h0 ?_
  by_cases hG : (0 < c ∧ 4 + (w : Int) + ls (mBy I a) (mBy I b) m n (i + c.toNat) = ls (mBy I a) (mBy I b) m n i)
  · exact Or.inr (Or.inl ⟨hG, by omega, hG.1⟩)
  · exact Or.inl ⟨hG, rfl⟩
set_option maxHeartbeats 4000000 in
set_option maxRecDepth 100000 in
theorem k_adds {a b i st m n : Nat} (hW : Wd T L P) (hV : MV I) (ha : a < 5) (hb : b < 5) (hm : I 57 a = m) (hm1 : m ≤ 120) (hn1 : n ≤ 120) (hi : i < n) (hst : I 54 10 = st) (hst1 : st < 120) (hl : ∀ j, j ≤ n → I 59 j = ls (mBy I a) (mBy I b) m n j) (h : ¬ gC (mBy I a) (mBy I b) m n i) (h2 : ¬ gS (mBy I a) (mBy I b) m n i) : iX8_adds [.inr (some 54), .inl (i : Int), .inl (n : Int)] T L P I hn (fun r J => r = none ∧ tkF I st J ∧ (J 60 st, J 61 st, J 62 st, J 63 st) = (ch (mBy I a) (mBy I b) m n i).2) := by
  refine CT.by (by decide) (Nat.le_of_ble_eq_true rfl) fun X Y Q hQ K hv => ?_
  have l59 : L 59 = 121 := hW.2.1 59 121 rfl (by decide)
  have l60 : L 60 = 120 := hW.2.1 60 120 rfl (by decide)
  have l61 : L 61 = 120 := hW.2.1 61 120 rfl (by decide)
  have l62 : L 62 = 120 := hW.2.1 62 120 rfl (by decide)
  have l63 : L 63 = 120 := hW.2.1 63 120 rfl (by decide)
  obtain ⟨q, q1, q2, q3, q4, q5, q6⟩ := ch_A (A := mBy I a) (B := mBy I b) (m := m) hn1 hi h h2
  have hls : ∀ j, j ≤ n → 0 ≤ ls (mBy I a) (mBy I b) m n j ∧ ls (mBy I a) (mBy I b) m n j ≤ 240 := fun j hj => by
    have := ls_in (mBy I a) (mBy I b) m n hn1 (n - j) j (by omega)
    omega
  have loop : ∀ (d k : Nat) (z : Int), z = k → k = q + d → k ≤ 30 → i + k ≤ n → RR X Y Q 0 0 9 [some (.inr (some 54)), some (.inl (i : Int)), some (.inl (n : Int)), some (.inl z)] [] T L P I hn := by
    intro d
    induction d with
    | zero =>
      intro k z hz hk k1 k2
      subst hz
      have hk : k = q := by omega
      subst hk
      have t1 := hl (i + k) (by omega)
      have t2 := hl i (by omega)
      have t3 := hls (i + k) (by omega)
      refine r_iconst K dX8_adds_9 ?_
      refine r_iload_n K dX8_adds_10 rfl ?_
      refine r_iadd K dX8_adds_11 ?_
      refine r_aload_n K dX8_adds_12 rfl ?_
      refine r_getR K dX8_adds_13 f_X8_23 rfl (by first | assumption | exact hW.1 _ _ rfl | exact hW.2.2.1 _ _ _ rfl) (by first | assumption | exact hW.1 _ _ rfl | exact hW.2.2.1 _ _ _ rfl) ?_
      refine r_iload_n K dX8_adds_16 rfl ?_
      refine r_iload_n K dX8_adds_17 rfl ?_
      refine r_iadd K dX8_adds_18 ?_
      refine r_iald K dX8_adds_19 (by first | assumption | exact hW.1 _ _ rfl | exact hW.2.2.1 _ _ _ rfl) (by omega) (by omega) ?_
      rw [show ((i : Int) + k).toNat = i + k by omega, t1]
      refine r_iadd K dX8_adds_20 ?_
      refine r_aload_n K dX8_adds_21 rfl ?_
      refine r_getR K dX8_adds_22 f_X8_23 rfl (by first | assumption | exact hW.1 _ _ rfl | exact hW.2.2.1 _ _ _ rfl) (by first | assumption | exact hW.1 _ _ rfl | exact hW.2.2.1 _ _ _ rfl) ?_
      refine r_iload_n K dX8_adds_25 rfl ?_
      refine r_iald K dX8_adds_26 (by first | assumption | exact hW.1 _ _ rfl | exact hW.2.2.1 _ _ _ rfl) (by omega) (by omega) ?_
      rw [Int.toNat_natCast, t2]
      refine r_icmp_eq K 36 dX8_adds_27 (by decide) (fun c27 => ?_) (fun c27 => ?_)
      · refine r_aload_n K dX8_adds_36 rfl ?_
        refine r_getR K dX8_adds_37 f_X8_26 rfl (by first | assumption | exact hW.1 _ _ rfl | exact hW.2.2.1 _ _ _ rfl) (by first | assumption | exact hW.1 _ _ rfl | exact hW.2.2.1 _ _ _ rfl) ?_
        refine r_aload_n K dX8_adds_40 rfl ?_
        refine r_getI K dX8_adds_41 f_X8_142 rfl (by first | assumption | exact hW.1 _ _ rfl | exact hW.2.2.1 _ _ _ rfl) ?_
        rw [hst]
        refine r_iconst K dX8_adds_44 ?_
        refine r_iast K dX8_adds_45 (by first | assumption | exact hW.1 _ _ rfl | exact hW.2.2.1 _ _ _ rfl) (by omega) (by omega) ?_
        rw [Int.toNat_natCast]
        refine r_aload_n K dX8_adds_46 rfl ?_
        refine r_getR K dX8_adds_47 f_X8_29 rfl (by first | assumption | exact hW.1 _ _ rfl | exact hW.2.2.1 _ _ _ rfl) (by first | assumption | exact hW.1 _ _ rfl | exact hW.2.2.1 _ _ _ rfl) ?_
        refine r_aload_n K dX8_adds_50 rfl ?_
        refine r_getI K dX8_adds_51 f_X8_142 rfl (by first | assumption | exact hW.1 _ _ rfl | exact hW.2.2.1 _ _ _ rfl) ?_
        rw [mI_ne (by decide), hst]
        refine r_iload_n K dX8_adds_54 rfl ?_
        refine r_iast K dX8_adds_55 (by first | assumption | exact hW.1 _ _ rfl | exact hW.2.2.1 _ _ _ rfl) (by omega) (by omega) ?_
        rw [Int.toNat_natCast]
        refine r_aload_n K dX8_adds_56 rfl ?_
        refine r_getR K dX8_adds_57 f_X8_32 rfl (by first | assumption | exact hW.1 _ _ rfl | exact hW.2.2.1 _ _ _ rfl) (by first | assumption | exact hW.1 _ _ rfl | exact hW.2.2.1 _ _ _ rfl) ?_
        refine r_aload_n K dX8_adds_60 rfl ?_
        refine r_getI K dX8_adds_61 f_X8_142 rfl (by first | assumption | exact hW.1 _ _ rfl | exact hW.2.2.1 _ _ _ rfl) ?_
        rw [mI_ne (by decide), mI_ne (by decide), hst]
        refine r_iload_n K dX8_adds_64 rfl ?_
        refine r_iast K dX8_adds_65 (by first | assumption | exact hW.1 _ _ rfl | exact hW.2.2.1 _ _ _ rfl) (by omega) (by omega) ?_
        rw [Int.toNat_natCast]
        refine r_aload_n K dX8_adds_66 rfl ?_
        refine r_getR K dX8_adds_67 f_X8_35 rfl (by first | assumption | exact hW.1 _ _ rfl | exact hW.2.2.1 _ _ _ rfl) (by first | assumption | exact hW.1 _ _ rfl | exact hW.2.2.1 _ _ _ rfl) ?_
        refine r_aload_n K dX8_adds_70 rfl ?_
        refine r_getI K dX8_adds_71 f_X8_142 rfl (by first | assumption | exact hW.1 _ _ rfl | exact hW.2.2.1 _ _ _ rfl) ?_
        rw [mI_ne (by decide), mI_ne (by decide), mI_ne (by decide), hst]
        refine r_iconst K dX8_adds_74 ?_
        refine r_iast K dX8_adds_75 (by first | assumption | exact hW.1 _ _ rfl | exact hW.2.2.1 _ _ _ rfl) (by omega) (by omega) ?_
        rw [Int.toNat_natCast]
        exact q_vret K hQ rfl dX8_adds_76 (Nat.le_refl _) (Nat.le_refl _) (⟨rfl, rfl, rfl, rfl, rfl, ((((tkF.refl I st).set (by decide) (by decide)).set (by decide) (by decide)).set (by decide) (by decide)).set (by decide) (by decide), by rw [q4, mI_ne (by decide), mI_ne (by decide), mI_ne (by decide), mI_eq, mI_ne (by decide), mI_ne (by decide), mI_eq, mI_ne (by decide), mI_eq, mI_eq]⟩)
      · exact absurd q5 c27
    | succ d ih =>
      intro k z hz hk k1 k2
      subst hz
      have t1 := hl (i + k) (by omega)
      have t2 := hl i (by omega)
      have t3 := hls (i + k) (by omega)
      refine r_iconst K dX8_adds_9 ?_
      refine r_iload_n K dX8_adds_10 rfl ?_
      refine r_iadd K dX8_adds_11 ?_
      refine r_aload_n K dX8_adds_12 rfl ?_
      refine r_getR K dX8_adds_13 f_X8_23 rfl (by first | assumption | exact hW.1 _ _ rfl | exact hW.2.2.1 _ _ _ rfl) (by first | assumption | exact hW.1 _ _ rfl | exact hW.2.2.1 _ _ _ rfl) ?_
      refine r_iload_n K dX8_adds_16 rfl ?_
      refine r_iload_n K dX8_adds_17 rfl ?_
      refine r_iadd K dX8_adds_18 ?_
      refine r_iald K dX8_adds_19 (by first | assumption | exact hW.1 _ _ rfl | exact hW.2.2.1 _ _ _ rfl) (by omega) (by omega) ?_
      rw [show ((i : Int) + k).toNat = i + k by omega, t1]
      refine r_iadd K dX8_adds_20 ?_
      refine r_aload_n K dX8_adds_21 rfl ?_
      refine r_getR K dX8_adds_22 f_X8_23 rfl (by first | assumption | exact hW.1 _ _ rfl | exact hW.2.2.1 _ _ _ rfl) (by first | assumption | exact hW.1 _ _ rfl | exact hW.2.2.1 _ _ _ rfl) ?_
      refine r_iload_n K dX8_adds_25 rfl ?_
      refine r_iald K dX8_adds_26 (by first | assumption | exact hW.1 _ _ rfl | exact hW.2.2.1 _ _ _ rfl) (by omega) (by omega) ?_
      rw [Int.toNat_natCast, t2]
      refine r_icmp_eq K 36 dX8_adds_27 (by decide) (fun c27 => ?_) (fun c27 => ?_)
      · exact absurd c27 (q6 k (by omega) k1 k2)
      · refine r_iinc K dX8_adds_30 (by decide) rfl ?_
        refine r_goto K 9 dX8_adds_33 (by decide) ?_
        exact ih (k - 1) _ (by omega) (by omega) (by omega) (by omega)
  refine r_bipush K dX8_adds_0 ?_
  refine r_iload_n K dX8_adds_2 rfl ?_
  refine r_iload_n K dX8_adds_3 rfl ?_
  refine r_isub K dX8_adds_4 ?_
  refine r_min K dX8_adds_5 m_X8_111 (Nat.le_of_ble_eq_true rfl) (Nat.le_of_ble_eq_true rfl) (Nat.le_of_ble_eq_true rfl) (Nat.le_of_ble_eq_true rfl) ?_
  refine r_istore_n K dX8_adds_8 (by decide) ?_
  by_cases e : (n : Int) - i < 30
  · rw [if_pos e]; exact loop (n - i - q) (n - i) _ (by omega) (by omega) (by omega) (by omega)
  · rw [if_neg e]; exact loop (30 - q) 30 _ rfl (by omega) (by omega) (by omega)
end MO2
