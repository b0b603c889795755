section MOE
variable {T L : Nat → Nat} {P : Nat → Nat → Option Nat} {I : Nat → Nat → Int} {hn : Nat}
/-- the sums of the sets, for the model -/
abbrev fsI (I : Nat → Nat → Int) : Nat → Int := sntF (I 80) (prM I) (grM I) (whM I)
/-- a set that the model considers -/
def okM (I : Nat → Nat → Int) (k S : Nat) : Prop := pcn S ≤ k ∧ ∀ j, j < 10 → S.testBit j = true → prM I j ≠ -1
/-- the best of the sets below s -/
def bsI (I : Nat → Nat → Int) (k s B : Nat) : Prop := B < s ∧ okM I k B ∧ ∀ S, S < s → okM I k S → fsI I B < fsI I S ∨ (fsI I B = fsI I S ∧ rk B ≤ rk S)
theorem bsI.skip {k s B : Nat} (h : bsI I k s B) (hn : ¬ okM I k s) : bsI I k (s + 1) B := ⟨Nat.lt_succ_of_lt h.1, h.2.1, fun S h1 h2 => by
  by_cases e : S = s
  · rw [e] at h2; exact absurd h2 hn
  · exact h.2.2 S (by omega) h2⟩
theorem bsI.keep {k s B : Nat} (h : bsI I k s B) (hs : s < 1024) (hn : ¬ (fsI I s < fsI I B ∨ (fsI I s = fsI I B ∧ (pcn s < pcn B ∨ (pcn s = pcn B ∧ s &&& lw1 (s ^^^ B) ≠ 0))))) : bsI I k (s + 1) B := ⟨Nat.lt_succ_of_lt h.1, h.2.1, fun S h1 h2 => by
  by_cases e : S = s
  · subst e
    have q := rk_lt (S := S) (R := B) hs (by have := h.1; omega) (by have := h.1; omega)
    rw [← q] at hn
    omega
  · exact h.2.2 S (by omega) h2⟩
theorem bsI.take {k s B : Nat} (h : bsI I k s B) (hs : s < 1024) (ho : okM I k s) (hn : fsI I s < fsI I B ∨ (fsI I s = fsI I B ∧ (pcn s < pcn B ∨ (pcn s = pcn B ∧ s &&& lw1 (s ^^^ B) ≠ 0)))) : bsI I k (s + 1) s := ⟨Nat.lt_succ_self _, ho, fun S h1 h2 => by
  by_cases e : S = s
  · subst e; exact Or.inr ⟨rfl, Nat.le_refl _⟩
  · have q := rk_lt (S := s) (R := B) hs (by have := h.1; omega) (by have := h.1; omega)
    rw [← q] at hn
    have := h.2.2 S (by omega) h2
    omega⟩
theorem bsI.fin {k B : Nat} (hk : k ≤ 3) (h : bsI I k 1024 B) : bstF (fsI I) k = (fsI I B, (B : Int)) := by
  obtain ⟨C, ⟨c1, c2⟩, c3, c4⟩ := bst_am (fsI I) hk
  have hC : okM I k C := ⟨c2, bst_ok c1 c2 c4⟩
  have h1 := h.2.2 C c1 hC
  have h2 := c4 B h.1 h.2.1.1
  have e : B = C := rk_inj h.1 c1 (by omega)
  rw [c3, e]
abbrev KB (X : Cx) (Y : SY) : Prop := OK X Y cX8_best yX8_best.cls 10 (some .int) (rm_ 6 146 0 0) yX8_best.name
def bA (I : Nat → Nat → Int) (k : Nat) (what : Int) : Int := if what = 0 then (bstF (fsI I) k).1 else if what = 1 then ((pcn (bstF (fsI I) k).2.toNat : Nat) : Int) else (bstF (fsI I) k).2
set_option maxHeartbeats 4000000 in
set_option maxRecDepth 100000 in
theorem be1 {X : Cx} {Y : SY} {Q : State → Prop} {post : Po} (K : KB X Y) (hQ : Q = QM X Y post 0 0) {k : Nat} {what : Int} (hW : Wd T L P) (hV : MV I) (hdv : dvM I) (hg : grM I ≠ -1) (hk : k ≤ 3) (hpost : ∀ (J : Nat → Nat → Int), mScr I J → post (some (.inl (bA I k what))) T L P J hn) : ∀ (d s B : Nat) (g6 g7 g8 g9 : Option PV) (J : Nat → Nat → Int), s + d = 1024 → bsI I k s B → pcP I J → RR X Y Q 0 0 44 [some (.inr (some 54)), some (.inl (k : Int)), some (.inl what), some (.inl (B : Int)), some (.inl (fsI I B)), some (.inl (s : Int)), g6, g7, g8, g9] [] T L P J hn := by
  have l82 : L 82 = 10 := hW.2.1 82 10 rfl (by decide)
  intro d
  induction d with
  | zero =>
    intro s B g6 g7 g8 g9 J hd hB hJ
    have hs : s = 1024 := by omega
    subst hs
    have hf := hB.fin hk
    have hB1 := hB.1
    refine r_iload K dX8_best_44 rfl ?_
    refine r_sipush K dX8_best_46 ?_
    refine r_icmp_ge K 206 dX8_best_49 (by decide) (fun c49 => ?_) (fun c49 => ?_)
    · refine r_iload_n K dX8_best_206 rfl ?_
      refine r_if_ne K 215 dX8_best_207 (by decide) (fun c207 => ?_) (fun c207 => ?_)
      · refine r_iload_n K dX8_best_215 rfl ?_
        refine r_iconst K dX8_best_216 ?_
        refine r_icmp_ne K 227 dX8_best_217 (by decide) (fun c217 => ?_) (fun c217 => ?_)
        · refine r_iload_n K dX8_best_227 rfl ?_
          exact q_iret K hQ rfl dX8_best_228 (Nat.le_refl _) (Nat.le_refl _) (by
            have e : ∀ z : Int, z = bA I k what → post (some (.inl z)) T L P J hn := fun z hz => by rw [hz]; exact hpost J hJ.1
            first
            | exact e _ (by rw [bA, hf, if_pos c207])
            | exact e _ (by rw [bA, hf, if_neg c207, if_pos c217, Int.toNat_natCast])
            | exact e _ (by rw [bA, hf, if_neg c207, if_neg c217]))
        · refine r_iload_n K dX8_best_220 rfl ?_
          refine rcS1p K dX8_best_221 c_X8_217 s_X8_pairsIn (k_pairsIn hB1) (by decide) (Nat.le_of_ble_eq_true rfl) ?_
          refine r_goto K 228 dX8_best_224 (by decide) ?_
          exact q_iret K hQ rfl dX8_best_228 (Nat.le_refl _) (Nat.le_refl _) (by
            have e : ∀ z : Int, z = bA I k what → post (some (.inl z)) T L P J hn := fun z hz => by rw [hz]; exact hpost J hJ.1
            first
            | exact e _ (by rw [bA, hf, if_pos c207])
            | exact e _ (by rw [bA, hf, if_neg c207, if_pos c217, Int.toNat_natCast])
            | exact e _ (by rw [bA, hf, if_neg c207, if_neg c217]))
      · refine r_iload K dX8_best_210 rfl ?_
        refine r_goto K 228 dX8_best_212 (by decide) ?_
        exact q_iret K hQ rfl dX8_best_228 (Nat.le_refl _) (Nat.le_refl _) (by
          have e : ∀ z : Int, z = bA I k what → post (some (.inl z)) T L P J hn := fun z hz => by rw [hz]; exact hpost J hJ.1
          first
          | exact e _ (by rw [bA, hf, if_pos c207])
          | exact e _ (by rw [bA, hf, if_neg c207, if_pos c217, Int.toNat_natCast])
          | exact e _ (by rw [bA, hf, if_neg c207, if_neg c217]))
    · exact absurd c49 (by omega)
  | succ d ih =>
    intro s B g6 g7 g8 g9 J hd hB hJ
    have hs : s < 1024 := by omega
    have hB1 : B < 1024 := by have := hB.1; omega
    have hF := hJ.fm hV hdv hg
    have j200 : ∀ (C : Nat) (g6 g7 g8 g9 : Option PV) (J : Nat → Nat → Int), bsI I k (s + 1) C → pcP I J → RR X Y Q 0 0 200 [some (.inr (some 54)), some (.inl (k : Int)), some (.inl what), some (.inl (C : Int)), some (.inl (fsI I C)), some (.inl (s : Int)), g6, g7, g8, g9] [] T L P J hn := by
      intro C g6 g7 g8 g9 J hC hJ
      refine r_iinc K dX8_best_200 (by decide) rfl ?_
      refine r_goto K 44 dX8_best_203 (by decide) ?_
      exact ih (s + 1) C _ _ _ _ J (by omega) hC hJ
    have j183 : okM I k s → ∀ (w : Int) (g7 : Option PV) (J : Nat → Nat → Int), pcP I J → (w = 1 ∧ (fsI I s < fsI I B ∨ (fsI I s = fsI I B ∧ (pcn s < pcn B ∨ (pcn s = pcn B ∧ s &&& lw1 (s ^^^ B) ≠ 0))))) ∨ (w = 0 ∧ ¬ (fsI I s < fsI I B ∨ (fsI I s = fsI I B ∧ (pcn s < pcn B ∨ (pcn s = pcn B ∧ s &&& lw1 (s ^^^ B) ≠ 0))))) → RR X Y Q 0 0 183 [some (.inr (some 54)), some (.inl (k : Int)), some (.inl what), some (.inl (B : Int)), some (.inl (fsI I B)), some (.inl (s : Int)), some (.inl ((pcn s : Nat) : Int)), g7, some (.inl (fsI I s)), g9] [.inl w] T L P J hn := by
      intro hok w g7 J hJ hw
      refine r_istore K dX8_best_183 (by decide) ?_
      refine r_iload K dX8_best_185 rfl ?_
      refine r_if_ne K 193 dX8_best_187 (by decide) (fun c187 => ?_) (fun c187 => ?_)
      · have hw1 := hw.resolve_right (fun q => c187 q.1)
        refine r_iload K dX8_best_193 rfl ?_
        refine r_istore_n K dX8_best_195 (by decide) ?_
        refine r_iload K dX8_best_196 rfl ?_
        refine r_istore K dX8_best_198 (by decide) ?_
        first | exact j200 s _ _ _ _ J (hB.take hs hok hw1.2) hJ | exact j200 B _ _ _ _ J (hB.keep hs hw0.2) hJ
      · have hw0 := hw.resolve_left (fun q => absurd q.1 (by omega))
        refine r_goto K 200 dX8_best_190 (by decide) ?_
        first | exact j200 s _ _ _ _ J (hB.take hs hok hw1.2) hJ | exact j200 B _ _ _ _ J (hB.keep hs hw0.2) hJ
    have j121 : ∀ (t : Int) (g8 : Option PV), (t = 0 ∨ t = 1) → (t = 1 ↔ okM I k s) → RR X Y Q 0 0 121 [some (.inr (some 54)), some (.inl (k : Int)), some (.inl what), some (.inl (B : Int)), some (.inl (fsI I B)), some (.inl (s : Int)), some (.inl ((pcn s : Nat) : Int)), some (.inl t), g8, g9] [] T L P J hn := by
      intro t g8 ht1 ht
      refine r_iload K dX8_best_121 rfl ?_
      refine r_if_ne K 129 dX8_best_123 (by decide) (fun c123 => ?_) (fun c123 => ?_)
      · have hok : okM I k s := ht.mp (by omega)
        refine r_aload_n K dX8_best_129 rfl ?_
        refine r_iload K dX8_best_130 rfl ?_
        refine rcV1i K dX8_best_132 c_X8_214 v_X8_sentBy (by first | assumption | exact hW.1 _ _ rfl | exact hW.2.2.1 _ _ _ rfl) (k_sentBy hW (hJ.1.mv hV) hs hF) (by decide) (Nat.le_of_ble_eq_true rfl) ?_
        rintro _ J2 ⟨rfl, hJ2⟩
        rw [hJ.fs]
        have hJ3 := hJ.next hJ2
        refine r_istore K dX8_best_135 (by decide) ?_
        refine r_iload K dX8_best_137 rfl ?_
        refine r_iload K dX8_best_139 rfl ?_
        refine r_icmp_lt K 178 dX8_best_141 (by decide) (fun c141 => ?_) (fun c141 => ?_)
        · refine r_iconst K dX8_best_178 ?_
          refine r_goto K 183 dX8_best_179 (by decide) ?_
          first
          | exact j183 hok _ _ J2 hJ3 (Or.inl ⟨rfl, Or.inl c141⟩)
          | exact j183 hok _ _ J2 hJ3 (Or.inl ⟨rfl, Or.inr ⟨c148, Or.inl (by omega)⟩⟩)
          | exact j183 hok _ _ J2 hJ3 (Or.inl ⟨rfl, Or.inr ⟨c148, Or.inr ⟨by omega, if1 c175⟩⟩⟩)
          | exact j183 hok _ _ J2 hJ3 (Or.inr ⟨rfl, fun q => by
              rcases q with q | ⟨q1, q2 | ⟨q2, q3⟩⟩
              · exact absurd q (Int.not_lt.mpr c141)
              · first | exact absurd q1 c148 | exact absurd q2 (by omega)
              · first | exact absurd q1 c148 | exact absurd q2 (by omega) | exact absurd q3 (if0 c175)⟩)
        · refine r_iload K dX8_best_144 rfl ?_
          refine r_iload K dX8_best_146 rfl ?_
          refine r_icmp_ne K 182 dX8_best_148 (by decide) (fun c148 => ?_) (fun c148 => ?_)
          · refine r_iconst K dX8_best_182 ?_
            first
            | exact j183 hok _ _ J2 hJ3 (Or.inl ⟨rfl, Or.inl c141⟩)
            | exact j183 hok _ _ J2 hJ3 (Or.inl ⟨rfl, Or.inr ⟨c148, Or.inl (by omega)⟩⟩)
            | exact j183 hok _ _ J2 hJ3 (Or.inl ⟨rfl, Or.inr ⟨c148, Or.inr ⟨by omega, if1 c175⟩⟩⟩)
            | exact j183 hok _ _ J2 hJ3 (Or.inr ⟨rfl, fun q => by
                rcases q with q | ⟨q1, q2 | ⟨q2, q3⟩⟩
                · exact absurd q (Int.not_lt.mpr c141)
                · first | exact absurd q1 c148 | exact absurd q2 (by omega)
                · first | exact absurd q1 c148 | exact absurd q2 (by omega) | exact absurd q3 (if0 c175)⟩)
          · refine r_iload K dX8_best_151 rfl ?_
            refine r_iload_n K dX8_best_153 rfl ?_
            refine rcS1p K dX8_best_154 c_X8_217 s_X8_pairsIn (k_pairsIn hB1) (by decide) (Nat.le_of_ble_eq_true rfl) ?_
            refine r_icmp_lt K 178 dX8_best_157 (by decide) (fun c157 => ?_) (fun c157 => ?_)
            · refine r_iconst K dX8_best_178 ?_
              refine r_goto K 183 dX8_best_179 (by decide) ?_
              first
              | exact j183 hok _ _ J2 hJ3 (Or.inl ⟨rfl, Or.inl c141⟩)
              | exact j183 hok _ _ J2 hJ3 (Or.inl ⟨rfl, Or.inr ⟨c148, Or.inl (by omega)⟩⟩)
              | exact j183 hok _ _ J2 hJ3 (Or.inl ⟨rfl, Or.inr ⟨c148, Or.inr ⟨by omega, if1 c175⟩⟩⟩)
              | exact j183 hok _ _ J2 hJ3 (Or.inr ⟨rfl, fun q => by
                  rcases q with q | ⟨q1, q2 | ⟨q2, q3⟩⟩
                  · exact absurd q (Int.not_lt.mpr c141)
                  · first | exact absurd q1 c148 | exact absurd q2 (by omega)
                  · first | exact absurd q1 c148 | exact absurd q2 (by omega) | exact absurd q3 (if0 c175)⟩)
            · refine r_iload K dX8_best_160 rfl ?_
              refine r_iload_n K dX8_best_162 rfl ?_
              refine rcS1p K dX8_best_163 c_X8_217 s_X8_pairsIn (k_pairsIn hB1) (by decide) (Nat.le_of_ble_eq_true rfl) ?_
              refine r_icmp_ne K 182 dX8_best_166 (by decide) (fun c166 => ?_) (fun c166 => ?_)
              · refine r_iconst K dX8_best_182 ?_
                first
                | exact j183 hok _ _ J2 hJ3 (Or.inl ⟨rfl, Or.inl c141⟩)
                | exact j183 hok _ _ J2 hJ3 (Or.inl ⟨rfl, Or.inr ⟨c148, Or.inl (by omega)⟩⟩)
                | exact j183 hok _ _ J2 hJ3 (Or.inl ⟨rfl, Or.inr ⟨c148, Or.inr ⟨by omega, if1 c175⟩⟩⟩)
                | exact j183 hok _ _ J2 hJ3 (Or.inr ⟨rfl, fun q => by
                    rcases q with q | ⟨q1, q2 | ⟨q2, q3⟩⟩
                    · exact absurd q (Int.not_lt.mpr c141)
                    · first | exact absurd q1 c148 | exact absurd q2 (by omega)
                    · first | exact absurd q1 c148 | exact absurd q2 (by omega) | exact absurd q3 (if0 c175)⟩)
              · refine r_iload K dX8_best_169 rfl ?_
                refine r_iload_n K dX8_best_171 rfl ?_
                refine rcS2p K dX8_best_172 c_X8_220 s_X8_isLess (k_isLess hs hB1) (by decide) (Nat.le_of_ble_eq_true rfl) ?_
                refine r_if_eq K 182 dX8_best_175 (by decide) (fun c175 => ?_) (fun c175 => ?_)
                · refine r_iconst K dX8_best_182 ?_
                  first
                  | exact j183 hok _ _ J2 hJ3 (Or.inl ⟨rfl, Or.inl c141⟩)
                  | exact j183 hok _ _ J2 hJ3 (Or.inl ⟨rfl, Or.inr ⟨c148, Or.inl (by omega)⟩⟩)
                  | exact j183 hok _ _ J2 hJ3 (Or.inl ⟨rfl, Or.inr ⟨c148, Or.inr ⟨by omega, if1 c175⟩⟩⟩)
                  | exact j183 hok _ _ J2 hJ3 (Or.inr ⟨rfl, fun q => by
                      rcases q with q | ⟨q1, q2 | ⟨q2, q3⟩⟩
                      · exact absurd q (Int.not_lt.mpr c141)
                      · first | exact absurd q1 c148 | exact absurd q2 (by omega)
                      · first | exact absurd q1 c148 | exact absurd q2 (by omega) | exact absurd q3 (if0 c175)⟩)
                · refine r_iconst K dX8_best_178 ?_
                  refine r_goto K 183 dX8_best_179 (by decide) ?_
                  first
                  | exact j183 hok _ _ J2 hJ3 (Or.inl ⟨rfl, Or.inl c141⟩)
                  | exact j183 hok _ _ J2 hJ3 (Or.inl ⟨rfl, Or.inr ⟨c148, Or.inl (by omega)⟩⟩)
                  | exact j183 hok _ _ J2 hJ3 (Or.inl ⟨rfl, Or.inr ⟨c148, Or.inr ⟨by omega, if1 c175⟩⟩⟩)
                  | exact j183 hok _ _ J2 hJ3 (Or.inr ⟨rfl, fun q => by
                      rcases q with q | ⟨q1, q2 | ⟨q2, q3⟩⟩
                      · exact absurd q (Int.not_lt.mpr c141)
                      · first | exact absurd q1 c148 | exact absurd q2 (by omega)
                      · first | exact absurd q1 c148 | exact absurd q2 (by omega) | exact absurd q3 (if0 c175)⟩)
      · have hno : ¬ okM I k s := fun q => absurd (ht.mpr q) (by omega)
        refine r_goto K 200 dX8_best_126 (by decide) ?_
        exact j200 B _ _ _ _ J (hB.skip hno) hJ
    have inner : ∀ (e p : Nat) (t : Int), p + e = 10 → (t = 0 ∨ t = 1) → (t = 1 ↔ (pcn s ≤ k ∧ ∀ j, j < p → s.testBit j = true → prM I j ≠ -1)) → RR X Y Q 0 0 75 [some (.inr (some 54)), some (.inl (k : Int)), some (.inl what), some (.inl (B : Int)), some (.inl (fsI I B)), some (.inl (s : Int)), some (.inl ((pcn s : Nat) : Int)), some (.inl t), some (.inl (p : Int)), g9] [] T L P J hn := by
      intro e
      induction e with
      | zero =>
        intro p t he h1 h2
        have hp : p = 10 := by omega
        subst hp
        refine r_iload K dX8_best_75 rfl ?_
        refine r_bipush K dX8_best_77 ?_
        refine r_icmp_ge K 121 dX8_best_79 (by decide) (fun c79 => ?_) (fun c79 => ?_)
        · exact j121 t _ h1 h2
        · exact absurd c79 (by omega)
      | succ e ihe =>
        intro p t he h1 h2
        have hbit := zsbit (S := s) (k := p) hs (by omega)
        have h82 := hJ.2 p (by omega)
        have j113 : ∀ w : Int, (w = 1 ∧ t = 1 ∧ (s.testBit p = true → prM I p ≠ -1)) ∨ (w = 0 ∧ ¬ (t = 1 ∧ (s.testBit p = true → prM I p ≠ -1))) → RR X Y Q 0 0 113 [some (.inr (some 54)), some (.inl (k : Int)), some (.inl what), some (.inl (B : Int)), some (.inl (fsI I B)), some (.inl (s : Int)), some (.inl ((pcn s : Nat) : Int)), some (.inl t), some (.inl (p : Int)), g9] [.inl w] T L P J hn := by
          intro w hw
          refine r_istore K dX8_best_113 (by decide) ?_
          refine r_iinc K dX8_best_115 (by decide) rfl ?_
          refine r_goto K 75 dX8_best_118 (by decide) ?_
          refine ihe (p + 1) w (by omega) (by rcases hw with q | q <;> omega) ?_
          constructor
          · intro q
            rcases hw with ⟨-, w1, w2⟩ | ⟨w1, -⟩
            · refine ⟨(h2.mp w1).1, fun j hj hb => ?_⟩
              by_cases z : j = p
              · rw [z] at hb ⊢; exact w2 hb
              · exact (h2.mp w1).2 j (by omega) hb
            · exact absurd q (by omega)
          · rintro ⟨q1, q2⟩
            rcases hw with ⟨w1, -⟩ | ⟨-, w2⟩
            · exact w1
            · exact absurd ⟨h2.mpr ⟨q1, fun j hj => q2 j (by omega)⟩, q2 p (by omega)⟩ w2
        refine r_iload K dX8_best_75 rfl ?_
        refine r_bipush K dX8_best_77 ?_
        refine r_icmp_ge K 121 dX8_best_79 (by decide) (fun c79 => ?_) (fun c79 => ?_)
        · exact absurd c79 (by omega)
        · refine r_iload K dX8_best_82 rfl ?_
          refine r_if_eq K 112 dX8_best_84 (by decide) (fun c84 => ?_) (fun c84 => ?_)
          · refine r_iconst K dX8_best_112 ?_
            first
            | exact j113 _ (Or.inr ⟨rfl, fun q => absurd q.1 (by omega)⟩)
            | exact j113 _ (Or.inl ⟨rfl, by omega, fun q => absurd q (if0 c94)⟩)
            | exact j113 _ (Or.inl ⟨rfl, by omega, fun _ => c105⟩)
            | exact j113 _ (Or.inr ⟨rfl, fun q => q.2 (if1 c94) c105⟩)
          · refine r_iload K dX8_best_87 rfl ?_
            refine r_iload K dX8_best_89 rfl ?_
            refine r_ishr K dX8_best_91 ?_
            refine r_iconst K dX8_best_92 ?_
            refine r_iand K dX8_best_93 ?_
            rw [hbit]
            refine r_if_eq K 108 dX8_best_94 (by decide) (fun c94 => ?_) (fun c94 => ?_)
            · refine r_iconst K dX8_best_108 ?_
              refine r_goto K 113 dX8_best_109 (by decide) ?_
              first
              | exact j113 _ (Or.inr ⟨rfl, fun q => absurd q.1 (by omega)⟩)
              | exact j113 _ (Or.inl ⟨rfl, by omega, fun q => absurd q (if0 c94)⟩)
              | exact j113 _ (Or.inl ⟨rfl, by omega, fun _ => c105⟩)
              | exact j113 _ (Or.inr ⟨rfl, fun q => q.2 (if1 c94) c105⟩)
            · refine r_aload_n K dX8_best_97 rfl ?_
              refine r_getR K dX8_best_98 f_X8_93 rfl (by first | assumption | exact hW.1 _ _ rfl | exact hW.2.2.1 _ _ _ rfl) (by first | assumption | exact hW.1 _ _ rfl | exact hW.2.2.1 _ _ _ rfl) ?_
              refine r_iload K dX8_best_101 rfl ?_
              refine r_iald K dX8_best_103 (by first | assumption | exact hW.1 _ _ rfl | exact hW.2.2.1 _ _ _ rfl) (by omega) (by omega) ?_
              rw [Int.toNat_natCast, h82]
              refine r_iconst K dX8_best_104 ?_
              refine r_icmp_eq K 112 dX8_best_105 (by decide) (fun c105 => ?_) (fun c105 => ?_)
              · refine r_iconst K dX8_best_112 ?_
                first
                | exact j113 _ (Or.inr ⟨rfl, fun q => absurd q.1 (by omega)⟩)
                | exact j113 _ (Or.inl ⟨rfl, by omega, fun q => absurd q (if0 c94)⟩)
                | exact j113 _ (Or.inl ⟨rfl, by omega, fun _ => c105⟩)
                | exact j113 _ (Or.inr ⟨rfl, fun q => q.2 (if1 c94) c105⟩)
              · refine r_iconst K dX8_best_108 ?_
                refine r_goto K 113 dX8_best_109 (by decide) ?_
                first
                | exact j113 _ (Or.inr ⟨rfl, fun q => absurd q.1 (by omega)⟩)
                | exact j113 _ (Or.inl ⟨rfl, by omega, fun q => absurd q (if0 c94)⟩)
                | exact j113 _ (Or.inl ⟨rfl, by omega, fun _ => c105⟩)
                | exact j113 _ (Or.inr ⟨rfl, fun q => q.2 (if1 c94) c105⟩)
    refine r_iload K dX8_best_44 rfl ?_
    refine r_sipush K dX8_best_46 ?_
    refine r_icmp_ge K 206 dX8_best_49 (by decide) (fun c49 => ?_) (fun c49 => ?_)
    · exact absurd c49 (by omega)
    · refine r_iload K dX8_best_52 rfl ?_
      refine rcS1p K dX8_best_54 c_X8_217 s_X8_pairsIn (k_pairsIn hs) (by decide) (Nat.le_of_ble_eq_true rfl) ?_
      refine r_istore K dX8_best_57 (by decide) ?_
      refine r_iload K dX8_best_59 rfl ?_
      refine r_iload_n K dX8_best_61 rfl ?_
      refine r_icmp_gt K 69 dX8_best_62 (by decide) (fun c62 => ?_) (fun c62 => ?_)
      · refine r_iconst K dX8_best_69 ?_
        refine r_istore K dX8_best_70 (by decide) ?_
        refine r_iconst K dX8_best_72 ?_
        refine r_istore K dX8_best_73 (by decide) ?_
        first
        | exact inner 10 0 1 rfl (Or.inr rfl) ⟨fun _ => ⟨by omega, fun j hj => absurd hj (by omega)⟩, fun _ => rfl⟩
        | exact inner 10 0 0 rfl (Or.inl rfl) ⟨fun q => absurd q (by decide), fun q => absurd q.1 (by omega)⟩
      · refine r_iconst K dX8_best_65 ?_
        refine r_goto K 70 dX8_best_66 (by decide) ?_
        refine r_istore K dX8_best_70 (by decide) ?_
        refine r_iconst K dX8_best_72 ?_
        refine r_istore K dX8_best_73 (by decide) ?_
        first
        | exact inner 10 0 1 rfl (Or.inr rfl) ⟨fun _ => ⟨by omega, fun j hj => absurd hj (by omega)⟩, fun _ => rfl⟩
        | exact inner 10 0 0 rfl (Or.inl rfl) ⟨fun q => absurd q (by decide), fun q => absurd q.1 (by omega)⟩
theorem pcn_0 : pcn 0 = 0 := pcf_0 10
set_option maxHeartbeats 4000000 in
set_option maxRecDepth 100000 in
theorem k_X8_best {k what : Int} (hW : Wd T L P) (hV : MV I) (hdv : dvM I) : iX8_best [.inr (some 54), .inl k, .inl what] T L P I hn (fun r J => mScr I J ∧ ∃ z, r = some (.inl z) ∧ ((¬ ((0 ≤ k ∧ k ≤ 3) ∧ (0 ≤ what ∧ what ≤ 2) ∧ grM I ≠ -1) ∧ z = -1) ∨ (((0 ≤ k ∧ k ≤ 3) ∧ (0 ≤ what ∧ what ≤ 2)) ∧ grM I ≠ -1 ∧ z = bA I k.toNat what))) := by
  refine CT.by (by decide) (Nat.le_of_ble_eq_true rfl) fun X Y Q hQ K hv => ?_
  refine r_iload_n K dX8_best_0 rfl ?_
  refine r_iconst K dX8_best_1 ?_
  refine r_iconst K dX8_best_2 ?_
  refine rcS3p K dX8_best_3 c_X8_99 s_X8_isIn k_isIn (by decide) (Nat.le_of_ble_eq_true rfl) ?_
  refine r_if_eq K 26 dX8_best_6 (by decide) (fun c6 => ?_) (fun c6 => ?_)
  · have h1 : ¬ (0 ≤ k ∧ k ≤ 3) := fun q => by rw [if_pos q] at c6; exact absurd c6 (by decide)
    refine r_iconst K dX8_best_26 ?_
    exact q_iret K hQ rfl dX8_best_27 (Nat.le_refl _) (Nat.le_refl _) (⟨rfl, rfl, rfl, rfl, mScr.refl I, _, rfl, Or.inl ⟨fun q => by first | exact h1 q.1 | exact h2 q.2.1 | exact q.2.2 c23, rfl⟩⟩)
  · have h1 : 0 ≤ k ∧ k ≤ 3 := by
      by_cases q : 0 ≤ k ∧ k ≤ 3
      · exact q
      · rw [if_neg q] at c6; exact absurd rfl c6
    refine r_iload_n K dX8_best_9 rfl ?_
    refine r_iconst K dX8_best_10 ?_
    refine r_iconst K dX8_best_11 ?_
    refine rcS3p K dX8_best_12 c_X8_99 s_X8_isIn k_isIn (by decide) (Nat.le_of_ble_eq_true rfl) ?_
    refine r_if_eq K 26 dX8_best_15 (by decide) (fun c15 => ?_) (fun c15 => ?_)
    · have h2 : ¬ (0 ≤ what ∧ what ≤ 2) := fun q => by rw [if_pos q] at c15; exact absurd c15 (by decide)
      refine r_iconst K dX8_best_26 ?_
      exact q_iret K hQ rfl dX8_best_27 (Nat.le_refl _) (Nat.le_refl _) (⟨rfl, rfl, rfl, rfl, mScr.refl I, _, rfl, Or.inl ⟨fun q => by first | exact h1 q.1 | exact h2 q.2.1 | exact q.2.2 c23, rfl⟩⟩)
    · have h2 : 0 ≤ what ∧ what ≤ 2 := by
        by_cases q : 0 ≤ what ∧ what ≤ 2
        · exact q
        · rw [if_neg q] at c15; exact absurd rfl c15
      refine r_aload_n K dX8_best_18 rfl ?_
      refine rcV0p K dX8_best_19 c_X8_208 v_X8_greatest (by first | assumption | exact hW.1 _ _ rfl | exact hW.2.2.1 _ _ _ rfl) (k_X8_greatest hW) (by decide) (Nat.le_of_ble_eq_true rfl) ?_
      refine r_iconst K dX8_best_22 ?_
      refine r_icmp_ne K 28 dX8_best_23 (by decide) (fun c23 => ?_) (fun c23 => ?_)
      · refine r_aload_n K dX8_best_28 rfl ?_
        refine rcV0i K dX8_best_29 c_X8_211 v_X8_pairCosts (by first | assumption | exact hW.1 _ _ rfl | exact hW.2.2.1 _ _ _ rfl) (k_pairCosts hW hV) (by decide) (Nat.le_of_ble_eq_true rfl) ?_
        rintro _ J ⟨rfl, hJ⟩
        have hF := hJ.fm hV hdv c23
        obtain ⟨k0, rfl⟩ : ∃ n : Nat, k = n := ⟨k.toNat, by omega⟩
        refine r_iconst K dX8_best_32 ?_
        refine r_istore_n K dX8_best_33 (by decide) ?_
        refine r_aload_n K dX8_best_34 rfl ?_
        refine r_iconst K dX8_best_35 ?_
        refine rcV1i K dX8_best_36 c_X8_214 v_X8_sentBy (by first | assumption | exact hW.1 _ _ rfl | exact hW.2.2.1 _ _ _ rfl) (k_sentBy (S := 0) hW (hJ.1.mv hV) (by decide) hF) (by decide) (Nat.le_of_ble_eq_true rfl) ?_
        rintro _ J2 ⟨rfl, hJ2⟩
        rw [hJ.fs]
        have hJ3 := hJ.next hJ2
        refine r_istore K dX8_best_39 (by decide) ?_
        refine r_iconst K dX8_best_41 ?_
        refine r_istore K dX8_best_42 (by decide) ?_
        exact be1 K hQ hW hV hdv c23 (by omega) (fun J4 h4 => ⟨rfl, rfl, rfl, rfl, h4, _, rfl, Or.inr ⟨⟨h1, h2⟩, c23, by rw [Int.toNat_natCast]⟩⟩) 1023 1 0 _ _ _ _ J2 rfl ⟨by decide, ⟨by rw [pcn_0]; omega, fun j hj hb => by rw [Nat.zero_testBit] at hb; cases hb⟩, fun S h1 h2 => by rw [show S = 0 by omega]; exact Or.inr ⟨rfl, Nat.le_refl _⟩⟩ hJ3
      · refine r_iconst K dX8_best_26 ?_
        exact q_iret K hQ rfl dX8_best_27 (Nat.le_refl _) (Nat.le_refl _) (⟨rfl, rfl, rfl, rfl, mScr.refl I, _, rfl, Or.inl ⟨fun q => by first | exact h1 q.1 | exact h2 q.2.1 | exact q.2.2 c23, rfl⟩⟩)
end MOE
