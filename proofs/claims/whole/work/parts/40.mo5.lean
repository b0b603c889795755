section MO5
variable {T L : Nat → Nat} {P : Nat → Nat → Option Nat} {I : Nat → Nat → Int} {hn : Nat}
abbrev mN (I : Nat → Nat → Int) (v : Nat) : Nat := (I 57 v).toNat
theorem MV.n (hV : MV I) {v : Nat} (h : v < 5) : I 57 v = ((mN I v : Nat) : Int) ∧ mN I v ≤ 120 := by
  have := hV.1 v h
  exact ⟨(Int.toNat_of_nonneg this.1).symm, by unfold mN; omega⟩
/-- only the model's scratch has changed -/
def mScr (I J : Nat → Nat → Int) : Prop := (∀ c, c ≠ 54 → c < 58 ∨ 67 < c → c ≠ 72 → c < 82 → J c = I c) ∧ (∀ j, j ≠ 10 → j ≠ 11 → J 54 j = I 54 j) ∧ ∀ c, 84 ≤ c → J c = I c
theorem mScr.refl (I : Nat → Nat → Int) : mScr I I := ⟨fun _ _ _ _ _ => rfl, fun _ _ _ => rfl, fun _ _ => rfl⟩
theorem mScr.trans {I J J2 : Nat → Nat → Int} (h : mScr I J) (h2 : mScr J J2) : mScr I J2 := ⟨fun c c1 c2 c3 c4 => by rw [h2.1 c c1 c2 c3 c4, h.1 c c1 c2 c3 c4], fun j j1 j2 => by rw [h2.2.1 j j1 j2, h.2.1 j j1 j2], fun c hc => by rw [h2.2.2 c hc, h.2.2 c hc]⟩
theorem mScr.by {J : Nat → Nat → Int} (h : mScr I J) (v : Nat) : mBy J v = mBy I v := by unfold mBy; rw [h.1 56 (by decide) (by decide) (by decide) (by decide)]
theorem mScr.mv {J : Nat → Nat → Int} (h : mScr I J) (hV : MV I) : MV J := hV.cong (h.1 56 (by decide) (by decide) (by decide) (by decide)) (h.1 57 (by decide) (by decide) (by decide) (by decide))
theorem mFr.scr {a b m n : Nat} {J : Nat → Nat → Int} (h : mFr I a b m n J) : mScr I J := ⟨fun c c1 c2 _ _ => h.1 c c1 (by omega), h.2.1, fun c hc => h.1 c (by omega) (by omega)⟩
/-- the cost of a patch, for the model -/
def prcM (I : Nat → Nat → Int) (a b : Int) : Int := if hasM I a ∧ hasM I b then 3 + ls (mBy I a.toNat) (mBy I b.toNat) (mN I a.toNat) (mN I b.toNat) 0 else -1
set_option maxHeartbeats 4000000 in
set_option maxRecDepth 100000 in
theorem k_X8_cost {a b : Int} (hW : Wd T L P) (hV : MV I) : iX8_cost [.inr (some 54), .inl a, .inl b] T L P I hn (fun r J => r = some (.inl (prcM I a b)) ∧ mScr I J) := by
  refine CT.by (by decide) (Nat.le_of_ble_eq_true rfl) fun X Y Q hQ K hv => ?_
  refine r_aload_n K dX8_cost_0 rfl ?_
  refine r_iload_n K dX8_cost_1 rfl ?_
  refine rcV1p K dX8_cost_2 c_X8_117 v_X8_isVersion (by first | assumption | exact hW.1 _ _ rfl | exact hW.2.2.1 _ _ _ rfl) (k_isVersion hW) (by decide) (Nat.le_of_ble_eq_true rfl) ?_
  refine r_if_eq K 16 dX8_cost_5 (by decide) (fun c5 => ?_) (fun c5 => ?_)
  · have h1 : ¬ (hasM I a) := fun q => by rw [if_pos q] at c5; exact absurd c5 (by decide)
    refine r_iconst K dX8_cost_16 ?_
    exact q_iret K hQ rfl dX8_cost_17 (Nat.le_refl _) (Nat.le_refl _) (⟨rfl, rfl, rfl, rfl, by rw [prcM, if_neg (fun q => by first | exact h1 q.1 | exact h2 q.2)], mScr.refl I⟩)
  · have h1 : hasM I a := by
      by_cases q : hasM I a
      · exact q
      · rw [if_neg q] at c5; exact absurd rfl c5
    obtain ⟨a0, rfl⟩ : ∃ n : Nat, a = n := ⟨a.toNat, by have := h1.1; omega⟩
    have a05 : a0 < 5 := by have := h1.2.1; omega
    refine r_aload_n K dX8_cost_8 rfl ?_
    refine r_iload_n K dX8_cost_9 rfl ?_
    refine rcV1p K dX8_cost_10 c_X8_117 v_X8_isVersion (by first | assumption | exact hW.1 _ _ rfl | exact hW.2.2.1 _ _ _ rfl) (k_isVersion hW) (by decide) (Nat.le_of_ble_eq_true rfl) ?_
    refine r_if_ne K 18 dX8_cost_13 (by decide) (fun c13 => ?_) (fun c13 => ?_)
    · have h2 : hasM I b := by
        by_cases q : hasM I b
        · exact q
        · rw [if_neg q] at c13; exact absurd rfl c13
      obtain ⟨b0, rfl⟩ : ∃ n : Nat, b = n := ⟨b.toNat, by have := h2.1; omega⟩
      have b05 : b0 < 5 := by have := h2.2.1; omega
      refine r_aload_n K dX8_cost_18 rfl ?_
      refine r_iload_n K dX8_cost_19 rfl ?_
      refine r_iload_n K dX8_cost_20 rfl ?_
      refine rcV2i K dX8_cost_21 c_X8_153 v_X8_makes (by first | assumption | exact hW.1 _ _ rfl | exact hW.2.2.1 _ _ _ rfl) (k_makes (a := a0) (b := b0) (m := mN I a0) (n := mN I b0) hW hV a05 b05 (hV.n a05).1 (hV.n b05).1 (hV.n a05).2 (hV.n b05).2) (by decide) (Nat.le_of_ble_eq_true rfl) ?_
      rintro _ J1 ⟨rfl, N, n1, n2, hfr, n3, n4, n5⟩
      have hn120 : mN I b0 ≤ 120 := (hV.n b05).2
      have hN1 : N ≤ 120 := by have := pos_ge (A := mBy I a0) (B := mBy I b0) (m := mN I a0) hn120 n2 N (Nat.le_refl _); omega
      refine r_aload_n K dX8_cost_24 rfl ?_
      refine r_getI K dX8_cost_25 f_X8_139 rfl (by first | assumption | exact hW.1 _ _ rfl | exact hW.2.2.1 _ _ _ rfl) ?_
      exact q_iret K hQ rfl dX8_cost_28 (Nat.le_refl _) (Nat.le_refl _) (⟨rfl, rfl, rfl, rfl, by rw [prcM, if_pos ⟨h1, h2⟩, hfr.2.2.1, Int.toNat_natCast, Int.toNat_natCast], hfr.scr⟩)
    · have h2 : ¬ (hasM I b) := fun q => by rw [if_pos q] at c13; exact absurd c13 (by decide)
      refine r_iconst K dX8_cost_16 ?_
      exact q_iret K hQ rfl dX8_cost_17 (Nat.le_refl _) (Nat.le_refl _) (⟨rfl, rfl, rfl, rfl, by rw [prcM, if_neg (fun q => by first | exact h1 q.1 | exact h2 q.2)], mScr.refl I⟩)
set_option maxHeartbeats 4000000 in
set_option maxRecDepth 100000 in
theorem k_X8_step {a b k what : Int} (hW : Wd T L P) (hV : MV I) : iX8_step [.inr (some 54), .inl a, .inl b, .inl k, .inl what] T L P I hn (fun r J => mScr I J ∧ ∃ z, r = some (.inl z) ∧ ((¬ (hasM I a ∧ hasM I b) ∧ z = -1) ∨ ((hasM I a ∧ hasM I b) ∧ stA (mBy I a.toNat) (mBy I b.toNat) (mN I a.toNat) (mN I b.toNat) k what z))) := by
  refine CT.by (by decide) (Nat.le_of_ble_eq_true rfl) fun X Y Q hQ K hv => ?_
  have l60 : L 60 = 120 := hW.2.1 60 120 rfl (by decide)
  have l61 : L 61 = 120 := hW.2.1 61 120 rfl (by decide)
  have l62 : L 62 = 120 := hW.2.1 62 120 rfl (by decide)
  have l63 : L 63 = 120 := hW.2.1 63 120 rfl (by decide)
  refine r_aload_n K dX8_step_0 rfl ?_
  refine r_iload_n K dX8_step_1 rfl ?_
  refine rcV1p K dX8_step_2 c_X8_117 v_X8_isVersion (by first | assumption | exact hW.1 _ _ rfl | exact hW.2.2.1 _ _ _ rfl) (k_isVersion hW) (by decide) (Nat.le_of_ble_eq_true rfl) ?_
  refine r_if_eq K 16 dX8_step_5 (by decide) (fun c5 => ?_) (fun c5 => ?_)
  · have h1 : ¬ (hasM I a) := fun q => by rw [if_pos q] at c5; exact absurd c5 (by decide)
    refine r_iconst K dX8_step_16 ?_
    exact q_iret K hQ rfl dX8_step_17 (Nat.le_refl _) (Nat.le_refl _) (⟨rfl, rfl, rfl, rfl, mScr.refl I, _, rfl, Or.inl ⟨fun q => by first | exact h1 q.1 | exact h2 q.2, rfl⟩⟩)
  · have h1 : hasM I a := by
      by_cases q : hasM I a
      · exact q
      · rw [if_neg q] at c5; exact absurd rfl c5
    obtain ⟨a0, rfl⟩ : ∃ n : Nat, a = n := ⟨a.toNat, by have := h1.1; omega⟩
    have a05 : a0 < 5 := by have := h1.2.1; omega
    refine r_aload_n K dX8_step_8 rfl ?_
    refine r_iload_n K dX8_step_9 rfl ?_
    refine rcV1p K dX8_step_10 c_X8_117 v_X8_isVersion (by first | assumption | exact hW.1 _ _ rfl | exact hW.2.2.1 _ _ _ rfl) (k_isVersion hW) (by decide) (Nat.le_of_ble_eq_true rfl) ?_
    refine r_if_ne K 18 dX8_step_13 (by decide) (fun c13 => ?_) (fun c13 => ?_)
    · have h2 : hasM I b := by
        by_cases q : hasM I b
        · exact q
        · rw [if_neg q] at c13; exact absurd rfl c13
      obtain ⟨b0, rfl⟩ : ∃ n : Nat, b = n := ⟨b.toNat, by have := h2.1; omega⟩
      have b05 : b0 < 5 := by have := h2.2.1; omega
      refine r_aload_n K dX8_step_18 rfl ?_
      refine r_iload_n K dX8_step_19 rfl ?_
      refine r_iload_n K dX8_step_20 rfl ?_
      refine rcV2i K dX8_step_21 c_X8_153 v_X8_makes (by first | assumption | exact hW.1 _ _ rfl | exact hW.2.2.1 _ _ _ rfl) (k_makes (a := a0) (b := b0) (m := mN I a0) (n := mN I b0) hW hV a05 b05 (hV.n a05).1 (hV.n b05).1 (hV.n a05).2 (hV.n b05).2) (by decide) (Nat.le_of_ble_eq_true rfl) ?_
      rintro _ J1 ⟨rfl, N, n1, n2, hfr, n3, n4, n5⟩
      have hn120 : mN I b0 ≤ 120 := (hV.n b05).2
      have hN1 : N ≤ 120 := by have := pos_ge (A := mBy I a0) (B := mBy I b0) (m := mN I a0) hn120 n2 N (Nat.le_refl _); omega
      have fin : ∀ z : Int, z = ptell N (J1 60) (J1 61) (J1 62) (J1 63) k what → stA (mBy I ((a0 : Int)).toNat) (mBy I ((b0 : Int)).toNat) (mN I ((a0 : Int)).toNat) (mN I ((b0 : Int)).toNat) k what z := fun z hz => by
        rw [Int.toNat_natCast, Int.toNat_natCast]
        exact ⟨N, n1, n2, by rw [hz]; exact ptell_cong n4 k what⟩
      refine r_iload_n K dX8_step_24 rfl ?_
      refine r_iconst K dX8_step_25 ?_
      refine r_icmp_ne K 34 dX8_step_26 (by decide) (fun c26 => ?_) (fun c26 => ?_)
      · refine r_iload_n K dX8_step_34 rfl ?_
        refine r_iconst K dX8_step_35 ?_
        refine r_aload_n K dX8_step_36 rfl ?_
        refine r_getI K dX8_step_37 f_X8_142 rfl (by first | assumption | exact hW.1 _ _ rfl | exact hW.2.2.1 _ _ _ rfl) ?_
        rw [n3]
        refine r_iconst K dX8_step_40 ?_
        refine r_isub K dX8_step_41 ?_
        refine rcS3p K dX8_step_42 c_X8_99 s_X8_isIn k_isIn (by decide) (Nat.le_of_ble_eq_true rfl) ?_
        refine r_if_ne K 50 dX8_step_45 (by decide) (fun c45 => ?_) (fun c45 => ?_)
        · have q2 : 0 ≤ k ∧ k ≤ (N : Int) - 1 := by
            by_cases q : 0 ≤ k ∧ k ≤ (N : Int) - 1
            · exact q
            · rw [if_neg q] at c45; exact absurd rfl c45
          refine r_iload K dX8_step_50 rfl ?_
          refine r_if_ne K 64 dX8_step_52 (by decide) (fun c52 => ?_) (fun c52 => ?_)
          · refine r_iload K dX8_step_64 rfl ?_
            refine r_iconst K dX8_step_66 ?_
            refine r_icmp_ne K 79 dX8_step_67 (by decide) (fun c67 => ?_) (fun c67 => ?_)
            · refine r_iload K dX8_step_79 rfl ?_
              refine r_iconst K dX8_step_81 ?_
              refine r_icmp_ne K 94 dX8_step_82 (by decide) (fun c82 => ?_) (fun c82 => ?_)
              · refine r_iload K dX8_step_94 rfl ?_
                refine r_iconst K dX8_step_96 ?_
                refine r_icmp_ne K 109 dX8_step_97 (by decide) (fun c97 => ?_) (fun c97 => ?_)
                · refine r_iconst K dX8_step_109 ?_
                  exact q_iret K hQ rfl dX8_step_110 (Nat.le_refl _) (Nat.le_refl _) (⟨rfl, rfl, rfl, rfl, hfr.scr, _, rfl, Or.inr ⟨⟨h1, h2⟩, fin _ (by
                    rw [ptell, if_neg c26, if_neg (by omega)]
                    first
                    | rw [if_pos c52]
                    | rw [if_neg c52, if_pos c67]
                    | rw [if_neg c52, if_neg c67, if_pos c82]
                    | rw [if_neg c52, if_neg c67, if_neg c82, if_pos c97]
                    | rw [if_neg c52, if_neg c67, if_neg c82, if_neg c97])⟩⟩)
                · refine r_aload_n K dX8_step_100 rfl ?_
                  refine r_getR K dX8_step_101 f_X8_35 rfl (by first | assumption | exact hW.1 _ _ rfl | exact hW.2.2.1 _ _ _ rfl) (by first | assumption | exact hW.1 _ _ rfl | exact hW.2.2.1 _ _ _ rfl) ?_
                  refine r_iload_n K dX8_step_104 rfl ?_
                  refine r_iald K dX8_step_105 (by first | assumption | exact hW.1 _ _ rfl | exact hW.2.2.1 _ _ _ rfl) (by omega) (by omega) ?_
                  refine r_goto K 110 dX8_step_106 (by decide) ?_
                  exact q_iret K hQ rfl dX8_step_110 (Nat.le_refl _) (Nat.le_refl _) (⟨rfl, rfl, rfl, rfl, hfr.scr, _, rfl, Or.inr ⟨⟨h1, h2⟩, fin _ (by
                    rw [ptell, if_neg c26, if_neg (by omega)]
                    first
                    | rw [if_pos c52]
                    | rw [if_neg c52, if_pos c67]
                    | rw [if_neg c52, if_neg c67, if_pos c82]
                    | rw [if_neg c52, if_neg c67, if_neg c82, if_pos c97]
                    | rw [if_neg c52, if_neg c67, if_neg c82, if_neg c97])⟩⟩)
              · refine r_aload_n K dX8_step_85 rfl ?_
                refine r_getR K dX8_step_86 f_X8_32 rfl (by first | assumption | exact hW.1 _ _ rfl | exact hW.2.2.1 _ _ _ rfl) (by first | assumption | exact hW.1 _ _ rfl | exact hW.2.2.1 _ _ _ rfl) ?_
                refine r_iload_n K dX8_step_89 rfl ?_
                refine r_iald K dX8_step_90 (by first | assumption | exact hW.1 _ _ rfl | exact hW.2.2.1 _ _ _ rfl) (by omega) (by omega) ?_
                refine r_goto K 110 dX8_step_91 (by decide) ?_
                exact q_iret K hQ rfl dX8_step_110 (Nat.le_refl _) (Nat.le_refl _) (⟨rfl, rfl, rfl, rfl, hfr.scr, _, rfl, Or.inr ⟨⟨h1, h2⟩, fin _ (by
                  rw [ptell, if_neg c26, if_neg (by omega)]
                  first
                  | rw [if_pos c52]
                  | rw [if_neg c52, if_pos c67]
                  | rw [if_neg c52, if_neg c67, if_pos c82]
                  | rw [if_neg c52, if_neg c67, if_neg c82, if_pos c97]
                  | rw [if_neg c52, if_neg c67, if_neg c82, if_neg c97])⟩⟩)
            · refine r_aload_n K dX8_step_70 rfl ?_
              refine r_getR K dX8_step_71 f_X8_29 rfl (by first | assumption | exact hW.1 _ _ rfl | exact hW.2.2.1 _ _ _ rfl) (by first | assumption | exact hW.1 _ _ rfl | exact hW.2.2.1 _ _ _ rfl) ?_
              refine r_iload_n K dX8_step_74 rfl ?_
              refine r_iald K dX8_step_75 (by first | assumption | exact hW.1 _ _ rfl | exact hW.2.2.1 _ _ _ rfl) (by omega) (by omega) ?_
              refine r_goto K 110 dX8_step_76 (by decide) ?_
              exact q_iret K hQ rfl dX8_step_110 (Nat.le_refl _) (Nat.le_refl _) (⟨rfl, rfl, rfl, rfl, hfr.scr, _, rfl, Or.inr ⟨⟨h1, h2⟩, fin _ (by
                rw [ptell, if_neg c26, if_neg (by omega)]
                first
                | rw [if_pos c52]
                | rw [if_neg c52, if_pos c67]
                | rw [if_neg c52, if_neg c67, if_pos c82]
                | rw [if_neg c52, if_neg c67, if_neg c82, if_pos c97]
                | rw [if_neg c52, if_neg c67, if_neg c82, if_neg c97])⟩⟩)
          · refine r_aload_n K dX8_step_55 rfl ?_
            refine r_getR K dX8_step_56 f_X8_26 rfl (by first | assumption | exact hW.1 _ _ rfl | exact hW.2.2.1 _ _ _ rfl) (by first | assumption | exact hW.1 _ _ rfl | exact hW.2.2.1 _ _ _ rfl) ?_
            refine r_iload_n K dX8_step_59 rfl ?_
            refine r_iald K dX8_step_60 (by first | assumption | exact hW.1 _ _ rfl | exact hW.2.2.1 _ _ _ rfl) (by omega) (by omega) ?_
            refine r_goto K 110 dX8_step_61 (by decide) ?_
            exact q_iret K hQ rfl dX8_step_110 (Nat.le_refl _) (Nat.le_refl _) (⟨rfl, rfl, rfl, rfl, hfr.scr, _, rfl, Or.inr ⟨⟨h1, h2⟩, fin _ (by
              rw [ptell, if_neg c26, if_neg (by omega)]
              first
              | rw [if_pos c52]
              | rw [if_neg c52, if_pos c67]
              | rw [if_neg c52, if_neg c67, if_pos c82]
              | rw [if_neg c52, if_neg c67, if_neg c82, if_pos c97]
              | rw [if_neg c52, if_neg c67, if_neg c82, if_neg c97])⟩⟩)
        · have q2 : ¬ (0 ≤ k ∧ k ≤ (N : Int) - 1) := fun q => by rw [if_pos q] at c45; exact absurd c45 (by decide)
          refine r_iconst K dX8_step_48 ?_
          exact q_iret K hQ rfl dX8_step_49 (Nat.le_refl _) (Nat.le_refl _) (⟨rfl, rfl, rfl, rfl, hfr.scr, _, rfl, Or.inr ⟨⟨h1, h2⟩, fin _ (by rw [ptell, if_neg c26, if_pos (by omega)])⟩⟩)
      · refine r_aload_n K dX8_step_29 rfl ?_
        refine r_getI K dX8_step_30 f_X8_142 rfl (by first | assumption | exact hW.1 _ _ rfl | exact hW.2.2.1 _ _ _ rfl) ?_
        rw [n3]
        exact q_iret K hQ rfl dX8_step_33 (Nat.le_refl _) (Nat.le_refl _) (⟨rfl, rfl, rfl, rfl, hfr.scr, _, rfl, Or.inr ⟨⟨h1, h2⟩, fin _ (by rw [ptell, if_pos c26])⟩⟩)
    · have h2 : ¬ (hasM I b) := fun q => by rw [if_pos q] at c13; exact absurd c13 (by decide)
      refine r_iconst K dX8_step_16 ?_
      exact q_iret K hQ rfl dX8_step_17 (Nat.le_refl _) (Nat.le_refl _) (⟨rfl, rfl, rfl, rfl, mScr.refl I, _, rfl, Or.inl ⟨fun q => by first | exact h1 q.1 | exact h2 q.2, rfl⟩⟩)
set_option maxHeartbeats 4000000 in
set_option maxRecDepth 100000 in
theorem k_X8_melted {k what : Int} (hW : Wd T L P) (h1 : 0 ≤ I 54 20 ∧ I 54 20 ≤ 120) : pX8_melted [.inr (some 54), .inl k, .inl what] T L P I hn (.inl (if I 54 20 = 0 then -1 else ptell (I 54 20) (I 68) (I 69) (I 70) (I 71) k what)) := by
  refine CT.by (by decide) (Nat.le_of_ble_eq_true rfl) fun X Y Q hQ K hv => ?_
  have l68 : L 68 = 120 := hW.2.1 68 120 rfl (by decide)
  have l69 : L 69 = 120 := hW.2.1 69 120 rfl (by decide)
  have l70 : L 70 = 120 := hW.2.1 70 120 rfl (by decide)
  have l71 : L 71 = 120 := hW.2.1 71 120 rfl (by decide)
  refine r_aload_n K dX8_melted_0 rfl ?_
  refine r_getI K dX8_melted_1 f_X8_156 rfl (by first | assumption | exact hW.1 _ _ rfl | exact hW.2.2.1 _ _ _ rfl) ?_
  refine r_if_ne K 9 dX8_melted_4 (by decide) (fun c4 => ?_) (fun c4 => ?_)
  · refine r_iload_n K dX8_melted_9 rfl ?_
    refine r_iconst K dX8_melted_10 ?_
    refine r_icmp_ne K 19 dX8_melted_11 (by decide) (fun c11 => ?_) (fun c11 => ?_)
    · refine r_iload_n K dX8_melted_19 rfl ?_
      refine r_iconst K dX8_melted_20 ?_
      refine r_aload_n K dX8_melted_21 rfl ?_
      refine r_getI K dX8_melted_22 f_X8_156 rfl (by first | assumption | exact hW.1 _ _ rfl | exact hW.2.2.1 _ _ _ rfl) ?_
      refine r_iconst K dX8_melted_25 ?_
      refine r_isub K dX8_melted_26 ?_
      refine rcS3p K dX8_melted_27 c_X8_99 s_X8_isIn k_isIn (by decide) (Nat.le_of_ble_eq_true rfl) ?_
      refine r_if_ne K 35 dX8_melted_30 (by decide) (fun c30 => ?_) (fun c30 => ?_)
      · have q2 : 0 ≤ k ∧ k ≤ I 54 20 - 1 := by
          by_cases q : 0 ≤ k ∧ k ≤ I 54 20 - 1
          · exact q
          · rw [if_neg q] at c30; exact absurd rfl c30
        refine r_iload_n K dX8_melted_35 rfl ?_
        refine r_if_ne K 48 dX8_melted_36 (by decide) (fun c36 => ?_) (fun c36 => ?_)
        · refine r_iload_n K dX8_melted_48 rfl ?_
          refine r_iconst K dX8_melted_49 ?_
          refine r_icmp_ne K 62 dX8_melted_50 (by decide) (fun c50 => ?_) (fun c50 => ?_)
          · refine r_iload_n K dX8_melted_62 rfl ?_
            refine r_iconst K dX8_melted_63 ?_
            refine r_icmp_ne K 76 dX8_melted_64 (by decide) (fun c64 => ?_) (fun c64 => ?_)
            · refine r_iload_n K dX8_melted_76 rfl ?_
              refine r_iconst K dX8_melted_77 ?_
              refine r_icmp_ne K 90 dX8_melted_78 (by decide) (fun c78 => ?_) (fun c78 => ?_)
              · refine r_iconst K dX8_melted_90 ?_
                exact q_iret K hQ rfl dX8_melted_91 (Nat.le_refl _) (Nat.le_refl _) (⟨by
                  rw [if_neg c4, ptell, if_neg c11, if_neg (by omega)]
                  first
                  | rw [if_pos c36]
                  | rw [if_neg c36, if_pos c50]
                  | rw [if_neg c36, if_neg c50, if_pos c64]
                  | rw [if_neg c36, if_neg c50, if_neg c64, if_pos c78]
                  | rw [if_neg c36, if_neg c50, if_neg c64, if_neg c78], rfl, rfl, rfl, rfl, rfl⟩)
              · refine r_aload_n K dX8_melted_81 rfl ?_
                refine r_getR K dX8_melted_82 f_X8_59 rfl (by first | assumption | exact hW.1 _ _ rfl | exact hW.2.2.1 _ _ _ rfl) (by first | assumption | exact hW.1 _ _ rfl | exact hW.2.2.1 _ _ _ rfl) ?_
                refine r_iload_n K dX8_melted_85 rfl ?_
                refine r_iald K dX8_melted_86 (by first | assumption | exact hW.1 _ _ rfl | exact hW.2.2.1 _ _ _ rfl) (by omega) (by omega) ?_
                refine r_goto K 91 dX8_melted_87 (by decide) ?_
                exact q_iret K hQ rfl dX8_melted_91 (Nat.le_refl _) (Nat.le_refl _) (⟨by
                  rw [if_neg c4, ptell, if_neg c11, if_neg (by omega)]
                  first
                  | rw [if_pos c36]
                  | rw [if_neg c36, if_pos c50]
                  | rw [if_neg c36, if_neg c50, if_pos c64]
                  | rw [if_neg c36, if_neg c50, if_neg c64, if_pos c78]
                  | rw [if_neg c36, if_neg c50, if_neg c64, if_neg c78], rfl, rfl, rfl, rfl, rfl⟩)
            · refine r_aload_n K dX8_melted_67 rfl ?_
              refine r_getR K dX8_melted_68 f_X8_56 rfl (by first | assumption | exact hW.1 _ _ rfl | exact hW.2.2.1 _ _ _ rfl) (by first | assumption | exact hW.1 _ _ rfl | exact hW.2.2.1 _ _ _ rfl) ?_
              refine r_iload_n K dX8_melted_71 rfl ?_
              refine r_iald K dX8_melted_72 (by first | assumption | exact hW.1 _ _ rfl | exact hW.2.2.1 _ _ _ rfl) (by omega) (by omega) ?_
              refine r_goto K 91 dX8_melted_73 (by decide) ?_
              exact q_iret K hQ rfl dX8_melted_91 (Nat.le_refl _) (Nat.le_refl _) (⟨by
                rw [if_neg c4, ptell, if_neg c11, if_neg (by omega)]
                first
                | rw [if_pos c36]
                | rw [if_neg c36, if_pos c50]
                | rw [if_neg c36, if_neg c50, if_pos c64]
                | rw [if_neg c36, if_neg c50, if_neg c64, if_pos c78]
                | rw [if_neg c36, if_neg c50, if_neg c64, if_neg c78], rfl, rfl, rfl, rfl, rfl⟩)
          · refine r_aload_n K dX8_melted_53 rfl ?_
            refine r_getR K dX8_melted_54 f_X8_53 rfl (by first | assumption | exact hW.1 _ _ rfl | exact hW.2.2.1 _ _ _ rfl) (by first | assumption | exact hW.1 _ _ rfl | exact hW.2.2.1 _ _ _ rfl) ?_
            refine r_iload_n K dX8_melted_57 rfl ?_
            refine r_iald K dX8_melted_58 (by first | assumption | exact hW.1 _ _ rfl | exact hW.2.2.1 _ _ _ rfl) (by omega) (by omega) ?_
            refine r_goto K 91 dX8_melted_59 (by decide) ?_
            exact q_iret K hQ rfl dX8_melted_91 (Nat.le_refl _) (Nat.le_refl _) (⟨by
              rw [if_neg c4, ptell, if_neg c11, if_neg (by omega)]
              first
              | rw [if_pos c36]
              | rw [if_neg c36, if_pos c50]
              | rw [if_neg c36, if_neg c50, if_pos c64]
              | rw [if_neg c36, if_neg c50, if_neg c64, if_pos c78]
              | rw [if_neg c36, if_neg c50, if_neg c64, if_neg c78], rfl, rfl, rfl, rfl, rfl⟩)
        · refine r_aload_n K dX8_melted_39 rfl ?_
          refine r_getR K dX8_melted_40 f_X8_50 rfl (by first | assumption | exact hW.1 _ _ rfl | exact hW.2.2.1 _ _ _ rfl) (by first | assumption | exact hW.1 _ _ rfl | exact hW.2.2.1 _ _ _ rfl) ?_
          refine r_iload_n K dX8_melted_43 rfl ?_
          refine r_iald K dX8_melted_44 (by first | assumption | exact hW.1 _ _ rfl | exact hW.2.2.1 _ _ _ rfl) (by omega) (by omega) ?_
          refine r_goto K 91 dX8_melted_45 (by decide) ?_
          exact q_iret K hQ rfl dX8_melted_91 (Nat.le_refl _) (Nat.le_refl _) (⟨by
            rw [if_neg c4, ptell, if_neg c11, if_neg (by omega)]
            first
            | rw [if_pos c36]
            | rw [if_neg c36, if_pos c50]
            | rw [if_neg c36, if_neg c50, if_pos c64]
            | rw [if_neg c36, if_neg c50, if_neg c64, if_pos c78]
            | rw [if_neg c36, if_neg c50, if_neg c64, if_neg c78], rfl, rfl, rfl, rfl, rfl⟩)
      · have q2 : ¬ (0 ≤ k ∧ k ≤ I 54 20 - 1) := fun q => by rw [if_pos q] at c30; exact absurd c30 (by decide)
        refine r_iconst K dX8_melted_33 ?_
        exact q_iret K hQ rfl dX8_melted_34 (Nat.le_refl _) (Nat.le_refl _) (⟨by rw [if_neg c4, ptell, if_neg c11, if_pos (by omega)], rfl, rfl, rfl, rfl, rfl⟩)
    · refine r_aload_n K dX8_melted_14 rfl ?_
      refine r_getI K dX8_melted_15 f_X8_156 rfl (by first | assumption | exact hW.1 _ _ rfl | exact hW.2.2.1 _ _ _ rfl) ?_
      exact q_iret K hQ rfl dX8_melted_18 (Nat.le_refl _) (Nat.le_refl _) (⟨by rw [if_neg c4, ptell, if_pos c11], rfl, rfl, rfl, rfl, rfl⟩)
  · refine r_iconst K dX8_melted_7 ?_
    exact q_iret K hQ rfl dX8_melted_8 (Nat.le_refl _) (Nat.le_refl _) (⟨by rw [if_pos c4], rfl, rfl, rfl, rfl, rfl⟩)
theorem if1 {p : Prop} [Decidable p] (h : (if p then (1 : Int) else 0) ≠ 0) : p := by
  by_cases q : p
  · exact q
  · rw [if_neg q] at h; exact absurd rfl h
theorem if0 {p : Prop} [Decidable p] (h : (if p then (1 : Int) else 0) = 0) : ¬ p := fun q => by rw [if_pos q] at h; exact absurd h (by decide)
theorem kpt_1 {s b : Nat → Int} {w : Int} {q p : Nat} (hd : decide (s q = (p : Int)) = true) (h : kpt s b w q p = true ∨ latB (s q) q w (b q) = true) : (1 : Int) = if kpt s b w (q + 1) p = true then 1 else 0 := by
  rw [kpt, hd, Bool.true_and]
  rcases h with h | h
  · rw [h, Bool.true_or, if_pos rfl]
  · rw [h, Bool.or_true, if_pos rfl]
theorem kpt_0 {s b : Nat → Int} {w : Int} {q p : Nat} (h : ¬ kpt s b w q p = true) (h2 : latB (s q) q w (b q) = false) : (0 : Int) = if kpt s b w (q + 1) p = true then 1 else 0 := by
  rw [kpt, h2, Bool.and_false, Bool.or_false, if_neg h]
/-- the bytes to keep are marked -/
def kpR (s b : Nat → Int) (w : Int) (n : Nat) (I J : Nat → Nat → Int) : Prop := (∀ c, c ≠ 72 → J c = I c) ∧ ∀ p, p < 120 → J 72 p = if kpt s b w n p = true then 1 else 0
set_option maxHeartbeats 4000000 in
set_option maxRecDepth 100000 in
theorem k_keeps {n : Nat} {w : Int} (hW : Wd T L P) (hn1 : n ≤ 120) (hw : w = 0 ∨ w = 1) (hs : ∀ x, x < n → -1 ≤ I 64 x ∧ I 64 x < 120) : iX8_keeps [.inr (some 54), .inl (n : Int), .inl w] T L P I hn (fun r J => r = some (.inl (cn (kpt (I 64) (I 65) w n) 120)) ∧ kpR (I 64) (I 65) w n I J) := by
  refine CT.by (by decide) (Nat.le_of_ble_eq_true rfl) fun X Y Q hQ K hv => ?_
  have l64 : L 64 = 120 := hW.2.1 64 120 rfl (by decide)
  have l65 : L 65 = 120 := hW.2.1 65 120 rfl (by decide)
  have l72 : L 72 = 120 := hW.2.1 72 120 rfl (by decide)
  have loop3 : ∀ (e p : Nat) (g5 : Option PV) (J : Nat → Nat → Int), p + e = 120 → kpR (I 64) (I 65) w n I J → RR X Y Q 0 0 137 [some (.inr (some 54)), some (.inl (n : Int)), some (.inl w), some (.inl (cn (kpt (I 64) (I 65) w n) p)), some (.inl (p : Int)), g5] [] T L P J hn := by
    intro e
    induction e with
    | zero =>
      intro p g5 J he hJ
      have hp : p = 120 := by omega
      subst hp
      refine r_iload K dX8_keeps_137 rfl ?_
      refine r_bipush K dX8_keeps_139 ?_
      refine r_icmp_ge K 168 dX8_keeps_141 (by decide) (fun c141 => ?_) (fun c141 => ?_)
      · refine r_iload_n K dX8_keeps_168 rfl ?_
        exact q_iret K hQ rfl dX8_keeps_169 (Nat.le_refl _) (Nat.le_refl _) (⟨rfl, rfl, rfl, rfl, rfl, hJ⟩)
      · exact absurd c141 (by omega)
    | succ e ihe =>
      intro p g5 J he hJ
      have hc := cn_in (kpt (I 64) (I 65) w n) p
      have hr := hJ.2 p (by omega)
      refine r_iload K dX8_keeps_137 rfl ?_
      refine r_bipush K dX8_keeps_139 ?_
      refine r_icmp_ge K 168 dX8_keeps_141 (by decide) (fun c141 => ?_) (fun c141 => ?_)
      · exact absurd c141 (by omega)
      · refine r_iload_n K dX8_keeps_144 rfl ?_
        refine r_aload_n K dX8_keeps_145 rfl ?_
        refine r_getR K dX8_keeps_146 f_X8_62 rfl (by first | assumption | exact hW.1 _ _ rfl | exact hW.2.2.1 _ _ _ rfl) (by first | assumption | exact hW.1 _ _ rfl | exact hW.2.2.1 _ _ _ rfl) ?_
        refine r_iload K dX8_keeps_149 rfl ?_
        refine r_zald K dX8_keeps_151 (by first | assumption | exact hW.1 _ _ rfl | exact hW.2.2.1 _ _ _ rfl) (by omega) (by omega) ?_
        rw [Int.toNat_natCast, hr]
        refine r_if_eq K 159 dX8_keeps_152 (by decide) (fun c152 => ?_) (fun c152 => ?_)
        · refine r_iconst K dX8_keeps_159 ?_
          refine r_iadd K dX8_keeps_160 ?_
          refine r_istore_n K dX8_keeps_161 (by decide) ?_
          refine r_iinc K dX8_keeps_162 (by decide) rfl ?_
          refine r_goto K 137 dX8_keeps_165 (by decide) ?_
          have hi := ihe (p + 1) g5 J (by omega) hJ
          rw [cn] at hi
          first
          | (rw [if_neg (show ¬ kpt (I 64) (I 65) w n p = true from fun q => by rw [if_pos q] at c152; exact absurd c152 (by decide))] at hi; exact hi)
          | (rw [if_pos (show kpt (I 64) (I 65) w n p = true from by
              by_cases q : kpt (I 64) (I 65) w n p = true
              · exact q
              · rw [if_neg q] at c152; exact absurd rfl c152)] at hi; exact hi)
        · refine r_iconst K dX8_keeps_155 ?_
          refine r_goto K 160 dX8_keeps_156 (by decide) ?_
          refine r_iadd K dX8_keeps_160 ?_
          refine r_istore_n K dX8_keeps_161 (by decide) ?_
          refine r_iinc K dX8_keeps_162 (by decide) rfl ?_
          refine r_goto K 137 dX8_keeps_165 (by decide) ?_
          have hi := ihe (p + 1) g5 J (by omega) hJ
          rw [cn] at hi
          first
          | (rw [if_neg (show ¬ kpt (I 64) (I 65) w n p = true from fun q => by rw [if_pos q] at c152; exact absurd c152 (by decide))] at hi; exact hi)
          | (rw [if_pos (show kpt (I 64) (I 65) w n p = true from by
              by_cases q : kpt (I 64) (I 65) w n p = true
              · exact q
              · rw [if_neg q] at c152; exact absurd rfl c152)] at hi; exact hi)
  have loop2 : ∀ (e q : Nat) (g4 g5 : Option PV) (J : Nat → Nat → Int), q + e = n → kpR (I 64) (I 65) w q I J → RR X Y Q 0 0 23 [some (.inr (some 54)), some (.inl (n : Int)), some (.inl w), some (.inl (q : Int)), g4, g5] [] T L P J hn := by
    intro e
    induction e with
    | zero =>
      intro q g4 g5 J he hJ
      have hq : q = n := by omega
      subst hq
      refine r_iload_n K dX8_keeps_23 rfl ?_
      refine r_iload_n K dX8_keeps_24 rfl ?_
      refine r_icmp_ge K 132 dX8_keeps_25 (by decide) (fun c25 => ?_) (fun c25 => ?_)
      · refine r_iconst K dX8_keeps_132 ?_
        refine r_istore_n K dX8_keeps_133 (by decide) ?_
        refine r_iconst K dX8_keeps_134 ?_
        refine r_istore K dX8_keeps_135 (by decide) ?_
        exact loop3 120 0 _ J rfl hJ
      · exact absurd c25 (by omega)
    | succ e ihe =>
      intro q g4 g5 J he hJ
      have e64 : J 64 q = I 64 q := by rw [hJ.1 64 (by decide)]
      have e65 : J 65 q = I 65 q := by rw [hJ.1 65 (by decide)]
      have hsq := hs q (by omega)
      have j97 : I 64 q ≠ -1 → ∀ (v : Int) (g5 : Option PV), (v = 1 ∧ latB (I 64 q) q w (I 65 q) = true ∨ v = 0 ∧ latB (I 64 q) q w (I 65 q) = false) → RR X Y Q 0 0 97 [some (.inr (some 54)), some (.inl (n : Int)), some (.inl w), some (.inl (q : Int)), some (.inl (I 64 q)), g5] [.inl v] T L P J hn := by
        intro hne v g5 hv
        have hr := hJ.2 (I 64 q).toNat (by omega)
        have j125 : ∀ u : Int, u = (if kpt (I 64) (I 65) w (q + 1) (I 64 q).toNat = true then 1 else 0) → RR X Y Q 0 0 125 [some (.inr (some 54)), some (.inl (n : Int)), some (.inl w), some (.inl (q : Int)), some (.inl (I 64 q)), some (.inl v)] [.inl u, .inl (I 64 q), .inr (some 72)] T L P J hn := by
          intro u hu
          refine r_zast K dX8_keeps_125 (by first | assumption | exact hW.1 _ _ rfl | exact hW.2.2.1 _ _ _ rfl) (by omega) (by omega) (by rw [hu]; split; exact Or.inr rfl; exact Or.inl rfl) ?_
          refine r_iinc K dX8_keeps_126 (by decide) rfl ?_
          refine r_goto K 23 dX8_keeps_129 (by decide) ?_
          refine ihe (q + 1) _ _ _ (by omega) ⟨fun c c1 => by rw [mI_ne c1]; exact hJ.1 c c1, fun p hp => ?_⟩
          rw [mI_row]
          by_cases w1 : p = (I 64 q).toNat
          · rw [if_pos w1, w1]; exact hu
          · rw [if_neg w1, hJ.2 p hp, kpt]
            have : decide (I 64 q = (p : Int)) = false := decide_eq_false (by omega)
            rw [this, Bool.false_and, Bool.or_false]
        have hdq : decide (I 64 q = (((I 64 q).toNat : Nat) : Int)) = true := decide_eq_true (by omega)
        refine r_istore K dX8_keeps_97 (by decide) ?_
        refine r_aload_n K dX8_keeps_99 rfl ?_
        refine r_getR K dX8_keeps_100 f_X8_62 rfl (by first | assumption | exact hW.1 _ _ rfl | exact hW.2.2.1 _ _ _ rfl) (by first | assumption | exact hW.1 _ _ rfl | exact hW.2.2.1 _ _ _ rfl) ?_
        refine r_iload K dX8_keeps_103 rfl ?_
        refine r_aload_n K dX8_keeps_105 rfl ?_
        refine r_getR K dX8_keeps_106 f_X8_62 rfl (by first | assumption | exact hW.1 _ _ rfl | exact hW.2.2.1 _ _ _ rfl) (by first | assumption | exact hW.1 _ _ rfl | exact hW.2.2.1 _ _ _ rfl) ?_
        refine r_iload K dX8_keeps_109 rfl ?_
        refine r_zald K dX8_keeps_111 (by first | assumption | exact hW.1 _ _ rfl | exact hW.2.2.1 _ _ _ rfl) (by omega) (by omega) ?_
        rw [hr]
        refine r_if_ne K 120 dX8_keeps_112 (by decide) (fun c112 => ?_) (fun c112 => ?_)
        · refine r_iconst K dX8_keeps_120 ?_
          refine r_goto K 125 dX8_keeps_121 (by decide) ?_
          first
          | exact j125 1 (kpt_1 hdq (Or.inl (if1 c112)))
          | exact j125 1 (kpt_1 hdq (Or.inr (hv.elim (fun h => h.2) (fun h => absurd h.1 c117))))
          | exact j125 0 (kpt_0 (if0 c112) (hv.elim (fun h => absurd h.1 (by omega)) (fun h => h.2)))
        · refine r_iload K dX8_keeps_115 rfl ?_
          refine r_if_eq K 124 dX8_keeps_117 (by decide) (fun c117 => ?_) (fun c117 => ?_)
          · refine r_iconst K dX8_keeps_124 ?_
            first
            | exact j125 1 (kpt_1 hdq (Or.inl (if1 c112)))
            | exact j125 1 (kpt_1 hdq (Or.inr (hv.elim (fun h => h.2) (fun h => absurd h.1 c117))))
            | exact j125 0 (kpt_0 (if0 c112) (hv.elim (fun h => absurd h.1 (by omega)) (fun h => h.2)))
          · refine r_iconst K dX8_keeps_120 ?_
            refine r_goto K 125 dX8_keeps_121 (by decide) ?_
            first
            | exact j125 1 (kpt_1 hdq (Or.inl (if1 c112)))
            | exact j125 1 (kpt_1 hdq (Or.inr (hv.elim (fun h => h.2) (fun h => absurd h.1 c117))))
            | exact j125 0 (kpt_0 (if0 c112) (hv.elim (fun h => absurd h.1 (by omega)) (fun h => h.2)))
      refine r_iload_n K dX8_keeps_23 rfl ?_
      refine r_iload_n K dX8_keeps_24 rfl ?_
      refine r_icmp_ge K 132 dX8_keeps_25 (by decide) (fun c25 => ?_) (fun c25 => ?_)
      · exact absurd c25 (by omega)
      · refine r_aload_n K dX8_keeps_28 rfl ?_
        refine r_getR K dX8_keeps_29 f_X8_38 rfl (by first | assumption | exact hW.1 _ _ rfl | exact hW.2.2.1 _ _ _ rfl) (by first | assumption | exact hW.1 _ _ rfl | exact hW.2.2.1 _ _ _ rfl) ?_
        refine r_iload_n K dX8_keeps_32 rfl ?_
        refine r_iald K dX8_keeps_33 (by first | assumption | exact hW.1 _ _ rfl | exact hW.2.2.1 _ _ _ rfl) (by omega) (by omega) ?_
        rw [Int.toNat_natCast, e64]
        refine r_istore K dX8_keeps_34 (by decide) ?_
        refine r_iload K dX8_keeps_36 rfl ?_
        refine r_iconst K dX8_keeps_38 ?_
        refine r_icmp_ne K 45 dX8_keeps_39 (by decide) (fun c39 => ?_) (fun c39 => ?_)
        · refine r_iload_n K dX8_keeps_45 rfl ?_
          refine r_iload K dX8_keeps_46 rfl ?_
          refine r_icmp_ne K 68 dX8_keeps_48 (by decide) (fun c48 => ?_) (fun c48 => ?_)
          · refine r_iload_n K dX8_keeps_68 rfl ?_
            refine r_if_eq K 86 dX8_keeps_69 (by decide) (fun c69 => ?_) (fun c69 => ?_)
            · refine r_iload_n K dX8_keeps_86 rfl ?_
              refine r_iload K dX8_keeps_87 rfl ?_
              refine r_icmp_le K 96 dX8_keeps_89 (by decide) (fun c89 => ?_) (fun c89 => ?_)
              · refine r_iconst K dX8_keeps_96 ?_
                first
                | exact j97 c39 1 _ (Or.inl ⟨rfl, by rw [latB, if_pos c48.symm]; exact decide_eq_true c57⟩)
                | exact j97 c39 0 _ (Or.inr ⟨rfl, by rw [latB, if_pos c48.symm]; exact decide_eq_false (fun h => h c57)⟩)
                | exact j97 c39 1 _ (Or.inl ⟨rfl, by rw [latB, if_neg (fun h => c48 h.symm), if_neg c69]; exact decide_eq_true (by omega)⟩)
                | exact j97 c39 0 _ (Or.inr ⟨rfl, by rw [latB, if_neg (fun h => c48 h.symm), if_neg c69]; exact decide_eq_false (by omega)⟩)
                | exact j97 c39 1 _ (Or.inl ⟨rfl, by rw [latB, if_neg (fun h => c48 h.symm), if_pos c69]; exact decide_eq_true (by omega)⟩)
                | exact j97 c39 0 _ (Or.inr ⟨rfl, by rw [latB, if_neg (fun h => c48 h.symm), if_pos c69]; exact decide_eq_false (by omega)⟩)
              · refine r_iconst K dX8_keeps_92 ?_
                refine r_goto K 97 dX8_keeps_93 (by decide) ?_
                first
                | exact j97 c39 1 _ (Or.inl ⟨rfl, by rw [latB, if_pos c48.symm]; exact decide_eq_true c57⟩)
                | exact j97 c39 0 _ (Or.inr ⟨rfl, by rw [latB, if_pos c48.symm]; exact decide_eq_false (fun h => h c57)⟩)
                | exact j97 c39 1 _ (Or.inl ⟨rfl, by rw [latB, if_neg (fun h => c48 h.symm), if_neg c69]; exact decide_eq_true (by omega)⟩)
                | exact j97 c39 0 _ (Or.inr ⟨rfl, by rw [latB, if_neg (fun h => c48 h.symm), if_neg c69]; exact decide_eq_false (by omega)⟩)
                | exact j97 c39 1 _ (Or.inl ⟨rfl, by rw [latB, if_neg (fun h => c48 h.symm), if_pos c69]; exact decide_eq_true (by omega)⟩)
                | exact j97 c39 0 _ (Or.inr ⟨rfl, by rw [latB, if_neg (fun h => c48 h.symm), if_pos c69]; exact decide_eq_false (by omega)⟩)
            · refine r_iload_n K dX8_keeps_72 rfl ?_
              refine r_iload K dX8_keeps_73 rfl ?_
              refine r_icmp_ge K 82 dX8_keeps_75 (by decide) (fun c75 => ?_) (fun c75 => ?_)
              · refine r_iconst K dX8_keeps_82 ?_
                refine r_goto K 97 dX8_keeps_83 (by decide) ?_
                first
                | exact j97 c39 1 _ (Or.inl ⟨rfl, by rw [latB, if_pos c48.symm]; exact decide_eq_true c57⟩)
                | exact j97 c39 0 _ (Or.inr ⟨rfl, by rw [latB, if_pos c48.symm]; exact decide_eq_false (fun h => h c57)⟩)
                | exact j97 c39 1 _ (Or.inl ⟨rfl, by rw [latB, if_neg (fun h => c48 h.symm), if_neg c69]; exact decide_eq_true (by omega)⟩)
                | exact j97 c39 0 _ (Or.inr ⟨rfl, by rw [latB, if_neg (fun h => c48 h.symm), if_neg c69]; exact decide_eq_false (by omega)⟩)
                | exact j97 c39 1 _ (Or.inl ⟨rfl, by rw [latB, if_neg (fun h => c48 h.symm), if_pos c69]; exact decide_eq_true (by omega)⟩)
                | exact j97 c39 0 _ (Or.inr ⟨rfl, by rw [latB, if_neg (fun h => c48 h.symm), if_pos c69]; exact decide_eq_false (by omega)⟩)
              · refine r_iconst K dX8_keeps_78 ?_
                refine r_goto K 97 dX8_keeps_79 (by decide) ?_
                first
                | exact j97 c39 1 _ (Or.inl ⟨rfl, by rw [latB, if_pos c48.symm]; exact decide_eq_true c57⟩)
                | exact j97 c39 0 _ (Or.inr ⟨rfl, by rw [latB, if_pos c48.symm]; exact decide_eq_false (fun h => h c57)⟩)
                | exact j97 c39 1 _ (Or.inl ⟨rfl, by rw [latB, if_neg (fun h => c48 h.symm), if_neg c69]; exact decide_eq_true (by omega)⟩)
                | exact j97 c39 0 _ (Or.inr ⟨rfl, by rw [latB, if_neg (fun h => c48 h.symm), if_neg c69]; exact decide_eq_false (by omega)⟩)
                | exact j97 c39 1 _ (Or.inl ⟨rfl, by rw [latB, if_neg (fun h => c48 h.symm), if_pos c69]; exact decide_eq_true (by omega)⟩)
                | exact j97 c39 0 _ (Or.inr ⟨rfl, by rw [latB, if_neg (fun h => c48 h.symm), if_pos c69]; exact decide_eq_false (by omega)⟩)
          · refine r_aload_n K dX8_keeps_51 rfl ?_
            refine r_getR K dX8_keeps_52 f_X8_41 rfl (by first | assumption | exact hW.1 _ _ rfl | exact hW.2.2.1 _ _ _ rfl) (by first | assumption | exact hW.1 _ _ rfl | exact hW.2.2.1 _ _ _ rfl) ?_
            refine r_iload_n K dX8_keeps_55 rfl ?_
            refine r_iald K dX8_keeps_56 (by first | assumption | exact hW.1 _ _ rfl | exact hW.2.2.1 _ _ _ rfl) (by omega) (by omega) ?_
            rw [Int.toNat_natCast, e65]
            refine r_if_eq K 64 dX8_keeps_57 (by decide) (fun c57 => ?_) (fun c57 => ?_)
            · refine r_iconst K dX8_keeps_64 ?_
              refine r_goto K 97 dX8_keeps_65 (by decide) ?_
              first
              | exact j97 c39 1 _ (Or.inl ⟨rfl, by rw [latB, if_pos c48.symm]; exact decide_eq_true c57⟩)
              | exact j97 c39 0 _ (Or.inr ⟨rfl, by rw [latB, if_pos c48.symm]; exact decide_eq_false (fun h => h c57)⟩)
              | exact j97 c39 1 _ (Or.inl ⟨rfl, by rw [latB, if_neg (fun h => c48 h.symm), if_neg c69]; exact decide_eq_true (by omega)⟩)
              | exact j97 c39 0 _ (Or.inr ⟨rfl, by rw [latB, if_neg (fun h => c48 h.symm), if_neg c69]; exact decide_eq_false (by omega)⟩)
              | exact j97 c39 1 _ (Or.inl ⟨rfl, by rw [latB, if_neg (fun h => c48 h.symm), if_pos c69]; exact decide_eq_true (by omega)⟩)
              | exact j97 c39 0 _ (Or.inr ⟨rfl, by rw [latB, if_neg (fun h => c48 h.symm), if_pos c69]; exact decide_eq_false (by omega)⟩)
            · refine r_iconst K dX8_keeps_60 ?_
              refine r_goto K 97 dX8_keeps_61 (by decide) ?_
              first
              | exact j97 c39 1 _ (Or.inl ⟨rfl, by rw [latB, if_pos c48.symm]; exact decide_eq_true c57⟩)
              | exact j97 c39 0 _ (Or.inr ⟨rfl, by rw [latB, if_pos c48.symm]; exact decide_eq_false (fun h => h c57)⟩)
              | exact j97 c39 1 _ (Or.inl ⟨rfl, by rw [latB, if_neg (fun h => c48 h.symm), if_neg c69]; exact decide_eq_true (by omega)⟩)
              | exact j97 c39 0 _ (Or.inr ⟨rfl, by rw [latB, if_neg (fun h => c48 h.symm), if_neg c69]; exact decide_eq_false (by omega)⟩)
              | exact j97 c39 1 _ (Or.inl ⟨rfl, by rw [latB, if_neg (fun h => c48 h.symm), if_pos c69]; exact decide_eq_true (by omega)⟩)
              | exact j97 c39 0 _ (Or.inr ⟨rfl, by rw [latB, if_neg (fun h => c48 h.symm), if_pos c69]; exact decide_eq_false (by omega)⟩)
        · refine r_goto K 126 dX8_keeps_42 (by decide) ?_
          refine r_iinc K dX8_keeps_126 (by decide) rfl ?_
          refine r_goto K 23 dX8_keeps_129 (by decide) ?_
          refine ihe (q + 1) _ _ _ (by omega) ⟨hJ.1, fun p hp => ?_⟩
          rw [hJ.2 p hp, kpt]
          have : decide (I 64 q = (p : Int)) = false := decide_eq_false (by omega)
          rw [this, Bool.false_and, Bool.or_false]
  have loop1 : ∀ (e p : Nat) (g4 g5 : Option PV) (J : Nat → Nat → Int), p + e = 120 → (∀ c, c ≠ 72 → J c = I c) → (∀ q, q < p → J 72 q = 0) → RR X Y Q 0 0 2 [some (.inr (some 54)), some (.inl (n : Int)), some (.inl w), some (.inl (p : Int)), g4, g5] [] T L P J hn := by
    intro e
    induction e with
    | zero =>
      intro p g4 g5 J he h1 h2
      refine r_iload_n K dX8_keeps_2 rfl ?_
      refine r_bipush K dX8_keeps_3 ?_
      refine r_icmp_ge K 21 dX8_keeps_5 (by decide) (fun c5 => ?_) (fun c5 => ?_)
      · refine r_iconst K dX8_keeps_21 ?_
        refine r_istore_n K dX8_keeps_22 (by decide) ?_
        exact loop2 n 0 _ _ J (by omega) ⟨h1, fun p hp => by rw [h2 p (by omega)]; rfl⟩
      · exact absurd c5 (by omega)
    | succ e ihe =>
      intro p g4 g5 J he h1 h2
      refine r_iload_n K dX8_keeps_2 rfl ?_
      refine r_bipush K dX8_keeps_3 ?_
      refine r_icmp_ge K 21 dX8_keeps_5 (by decide) (fun c5 => ?_) (fun c5 => ?_)
      · exact absurd c5 (by omega)
      · refine r_aload_n K dX8_keeps_8 rfl ?_
        refine r_getR K dX8_keeps_9 f_X8_62 rfl (by first | assumption | exact hW.1 _ _ rfl | exact hW.2.2.1 _ _ _ rfl) (by first | assumption | exact hW.1 _ _ rfl | exact hW.2.2.1 _ _ _ rfl) ?_
        refine r_iload_n K dX8_keeps_12 rfl ?_
        refine r_iconst K dX8_keeps_13 ?_
        refine r_zast K dX8_keeps_14 (by first | assumption | exact hW.1 _ _ rfl | exact hW.2.2.1 _ _ _ rfl) (by omega) (by omega) (by first | exact Or.inl rfl | exact Or.inr rfl) ?_
        rw [Int.toNat_natCast]
        refine r_iinc K dX8_keeps_15 (by decide) rfl ?_
        refine r_goto K 2 dX8_keeps_18 (by decide) ?_
        refine ihe (p + 1) _ _ _ (by omega) (fun c c1 => by rw [mI_ne c1]; exact h1 c c1) (fun q hq => ?_)
        rw [mI_row]
        split
        · rfl
        · exact h2 q (by omega)
  refine r_iconst K dX8_keeps_0 ?_
  refine r_istore_n K dX8_keeps_1 (by decide) ?_
  exact loop1 120 0 _ _ I rfl (fun _ _ => rfl) (fun q hq => absurd hq (by omega))
/-- the model's traces -/
abbrev sM (I : Nat → Nat → Int) (a b : Nat) : Nat → Int := srcF (mBy I a) (mBy I b) (mN I a) (mN I b)
abbrev bM (I : Nat → Nat → Int) (a b : Nat) : Nat → Int := byF (mBy I a) (mBy I b) (mN I a) (mN I b)
abbrev kpM (I : Nat → Nat → Int) (a b : Nat) (w : Int) : Nat → Bool := kpt (sM I a b) (bM I a b) w (mN I b)
theorem kpR.scr {s b : Nat → Int} {w : Int} {n : Nat} {J : Nat → Nat → Int} (h : kpR s b w n I J) : mScr I J := ⟨fun c _ _ c3 _ => h.1 c c3, fun j _ _ => by rw [h.1 54 (by decide)], fun c hc => h.1 c (by omega)⟩
theorem sM_in {a b N : Nat} {A B : Nat → Int} {m n x : Nat} (hn : n ≤ 120) (hm : m ≤ 120) (h1 : pos A B m n N = n) (h2 : ∀ k, k < N → pos A B m n k < n) (hx : x < n) : -1 ≤ srcF A B m n x ∧ srcF A B m n x < m ∧ 0 ≤ byF A B m n x ∧ byF A B m n x < 256 ∧ (srcF A B m n x ≠ -1 → pluF A B m n x = byF A B m n x) := by
  obtain ⟨k, j, e1, e2, e3⟩ := pos_cover (h1 ▸ hx)
  have hs := sgm_seg (sgm_pos hn h2 k (by omega)) j e3
  have hok := ch_ok (A := A) (B := B) (m := m) hn (h2 k e1)
  rw [← e2] at hs
  unfold srcF byF pluF
  rw [hs]
  by_cases q : (ch A B m n (pos A B m n k)).2.1 = 2
  · rw [if_pos q, if_pos q]
    have := hok.2.2.2.2.1 q
    refine ⟨by omega, by omega, by omega, by omega, fun w => absurd rfl w⟩
  · rw [if_neg q, if_neg q]
    have := hok.2.2.2.2.2 q
    refine ⟨by omega, by omega, by omega, by omega, fun _ => rfl⟩
set_option maxHeartbeats 4000000 in
set_option maxRecDepth 100000 in
theorem k_X8_room {a b what : Int} (hW : Wd T L P) (hV : MV I) : iX8_room [.inr (some 54), .inl a, .inl b, .inl what] T L P I hn (fun r J => mScr I J ∧ r = some (.inl (if hasM I a ∧ hasM I b ∧ 0 ≤ what ∧ what ≤ 2 then (if what = 0 then cn (kpM I a.toNat b.toNat 0) 120 else if what = 1 then cn (kpM I a.toNat b.toNat 1) 120 else min (cn (kpM I a.toNat b.toNat 0) 120) (cn (kpM I a.toNat b.toNat 1) 120)) else -1))) := by
  refine CT.by (by decide) (Nat.le_of_ble_eq_true rfl) fun X Y Q hQ K hv => ?_
  have l57 : L 57 = 5 := hW.2.1 57 5 rfl (by decide)
  refine r_aload_n K dX8_room_0 rfl ?_
  refine r_iload_n K dX8_room_1 rfl ?_
  refine rcV1p K dX8_room_2 c_X8_117 v_X8_isVersion (by first | assumption | exact hW.1 _ _ rfl | exact hW.2.2.1 _ _ _ rfl) (k_isVersion hW) (by decide) (Nat.le_of_ble_eq_true rfl) ?_
  refine r_if_eq K 25 dX8_room_5 (by decide) (fun c5 => ?_) (fun c5 => ?_)
  · have h1 : ¬ (hasM I a) := fun q => by rw [if_pos q] at c5; exact absurd c5 (by decide)
    refine r_iconst K dX8_room_25 ?_
    exact q_iret K hQ rfl dX8_room_26 (Nat.le_refl _) (Nat.le_refl _) (⟨rfl, rfl, rfl, rfl, mScr.refl I, by rw [if_neg (fun q => by first | exact h1 q.1 | exact h2 q.2.1 | exact h3 q.2.2)]⟩)
  · have h1 : hasM I a := by
      by_cases q : hasM I a
      · exact q
      · rw [if_neg q] at c5; exact absurd rfl c5
    obtain ⟨a0, rfl⟩ : ∃ n : Nat, a = n := ⟨a.toNat, by have := h1.1; omega⟩
    have a05 : a0 < 5 := by have := h1.2.1; omega
    refine r_aload_n K dX8_room_8 rfl ?_
    refine r_iload_n K dX8_room_9 rfl ?_
    refine rcV1p K dX8_room_10 c_X8_117 v_X8_isVersion (by first | assumption | exact hW.1 _ _ rfl | exact hW.2.2.1 _ _ _ rfl) (k_isVersion hW) (by decide) (Nat.le_of_ble_eq_true rfl) ?_
    refine r_if_eq K 25 dX8_room_13 (by decide) (fun c13 => ?_) (fun c13 => ?_)
    · have h2 : ¬ (hasM I b) := fun q => by rw [if_pos q] at c13; exact absurd c13 (by decide)
      refine r_iconst K dX8_room_25 ?_
      exact q_iret K hQ rfl dX8_room_26 (Nat.le_refl _) (Nat.le_refl _) (⟨rfl, rfl, rfl, rfl, mScr.refl I, by rw [if_neg (fun q => by first | exact h1 q.1 | exact h2 q.2.1 | exact h3 q.2.2)]⟩)
    · have h2 : hasM I b := by
        by_cases q : hasM I b
        · exact q
        · rw [if_neg q] at c13; exact absurd rfl c13
      obtain ⟨b0, rfl⟩ : ∃ n : Nat, b = n := ⟨b.toNat, by have := h2.1; omega⟩
      have b05 : b0 < 5 := by have := h2.2.1; omega
      refine r_iload_n K dX8_room_16 rfl ?_
      refine r_iconst K dX8_room_17 ?_
      refine r_iconst K dX8_room_18 ?_
      refine rcS3p K dX8_room_19 c_X8_99 s_X8_isIn k_isIn (by decide) (Nat.le_of_ble_eq_true rfl) ?_
      refine r_if_ne K 27 dX8_room_22 (by decide) (fun c22 => ?_) (fun c22 => ?_)
      · have h3 : 0 ≤ what ∧ what ≤ 2 := by
          by_cases q : 0 ≤ what ∧ what ≤ 2
          · exact q
          · rw [if_neg q] at c22; exact absurd rfl c22
        refine r_aload_n K dX8_room_27 rfl ?_
        refine r_iload_n K dX8_room_28 rfl ?_
        refine r_iload_n K dX8_room_29 rfl ?_
        refine rcV2i K dX8_room_30 c_X8_153 v_X8_makes (by first | assumption | exact hW.1 _ _ rfl | exact hW.2.2.1 _ _ _ rfl) (k_makes (a := a0) (b := b0) (m := mN I a0) (n := mN I b0) hW hV a05 b05 (hV.n a05).1 (hV.n b05).1 (hV.n a05).2 (hV.n b05).2) (by decide) (Nat.le_of_ble_eq_true rfl) ?_
        rintro _ J1 ⟨rfl, N, n1, n2, hfr, n3, n4, n5⟩
        have hn120 : mN I b0 ≤ 120 := (hV.n b05).2
        have hN1 : N ≤ 120 := by have := pos_ge (A := mBy I a0) (B := mBy I b0) (m := mN I a0) hn120 n2 N (Nat.le_refl _); omega
        have hm120 : mN I a0 ≤ 120 := (hV.n a05).2
        have e57 : J1 57 b0 = (mN I b0 : Nat) := by rw [hfr.1 57 (by decide) (by decide)]; exact (hV.n b05).1
        rw [Nat.add_zero, n1] at n5
        have hkp : ∀ w, kpt (J1 64) (J1 65) w (mN I b0) = kpM I a0 b0 w := kpt_of (fun x hx => ⟨(n5 x hx).1, (n5 x hx).2⟩)
        refine r_aload_n K dX8_room_33 rfl ?_
        refine r_aload_n K dX8_room_34 rfl ?_
        refine r_getR K dX8_room_35 f_X8_16 rfl (by first | assumption | exact hW.1 _ _ rfl | exact hW.2.2.1 _ _ _ rfl) (by first | assumption | exact hW.1 _ _ rfl | exact hW.2.2.1 _ _ _ rfl) ?_
        refine r_iload_n K dX8_room_38 rfl ?_
        refine r_iald K dX8_room_39 (by first | assumption | exact hW.1 _ _ rfl | exact hW.2.2.1 _ _ _ rfl) (by omega) (by omega) ?_
        rw [Int.toNat_natCast, e57]
        refine r_iconst K dX8_room_40 ?_
        refine rcV2i K dX8_room_41 c_X8_159 v_X8_keeps (by first | assumption | exact hW.1 _ _ rfl | exact hW.2.2.1 _ _ _ rfl) (k_keeps (n := mN I b0) (w := 0) (I := J1) hW hn120 (by decide) (by exact fun x hx => by rw [(n5 x (by omega)).1]; have := sM_in (a := 0) (b := 0) hn120 hm120 n1 n2 hx; omega)) (by decide) (Nat.le_of_ble_eq_true rfl) ?_
        rintro _ J2 ⟨rfl, hk2⟩
        rw [hkp]
        refine r_istore K dX8_room_44 (by decide) ?_
        refine r_aload_n K dX8_room_46 rfl ?_
        refine r_aload_n K dX8_room_47 rfl ?_
        refine r_getR K dX8_room_48 f_X8_16 rfl (by first | assumption | exact hW.1 _ _ rfl | exact hW.2.2.1 _ _ _ rfl) (by first | assumption | exact hW.1 _ _ rfl | exact hW.2.2.1 _ _ _ rfl) ?_
        refine r_iload_n K dX8_room_51 rfl ?_
        refine r_iald K dX8_room_52 (by first | assumption | exact hW.1 _ _ rfl | exact hW.2.2.1 _ _ _ rfl) (by omega) (by omega) ?_
        rw [hk2.1 57 (by decide), Int.toNat_natCast, e57]
        refine r_iconst K dX8_room_53 ?_
        refine rcV2i K dX8_room_54 c_X8_159 v_X8_keeps (by first | assumption | exact hW.1 _ _ rfl | exact hW.2.2.1 _ _ _ rfl) (k_keeps (n := mN I b0) (w := 1) (I := J2) hW hn120 (by decide) (by rw [hk2.1 64 (by decide)]; exact fun x hx => by rw [(n5 x (by omega)).1]; have := sM_in (a := 0) (b := 0) hn120 hm120 n1 n2 hx; omega)) (by decide) (Nat.le_of_ble_eq_true rfl) ?_
        rintro _ J3 ⟨rfl, hk3⟩
        rw [hk2.1 64 (by decide), hk2.1 65 (by decide), hkp]
        refine r_istore K dX8_room_57 (by decide) ?_
        refine r_iload_n K dX8_room_59 rfl ?_
        refine r_if_ne K 68 dX8_room_60 (by decide) (fun c60 => ?_) (fun c60 => ?_)
        · refine r_iload_n K dX8_room_68 rfl ?_
          refine r_iconst K dX8_room_69 ?_
          refine r_icmp_ne K 78 dX8_room_70 (by decide) (fun c70 => ?_) (fun c70 => ?_)
          · refine r_iload K dX8_room_78 rfl ?_
            refine r_iload K dX8_room_80 rfl ?_
            refine r_min K dX8_room_82 m_X8_111 (Nat.le_of_ble_eq_true rfl) (Nat.le_of_ble_eq_true rfl) (Nat.le_of_ble_eq_true rfl) (Nat.le_of_ble_eq_true rfl) ?_
            exact q_iret K hQ rfl dX8_room_85 (Nat.le_refl _) (Nat.le_refl _) (⟨rfl, rfl, rfl, rfl, (hfr.scr.trans hk2.scr).trans hk3.scr, by
              have hq : hasM I (a0 : Int) ∧ hasM I (b0 : Int) ∧ 0 ≤ what ∧ what ≤ 2 := ⟨h1, h2, h3⟩
              rw [if_pos hq, Int.toNat_natCast, Int.toNat_natCast]
              first
              | rw [if_pos c60]
              | rw [if_neg c60, if_pos c70]
              | (rw [if_neg c60, if_neg c70, Int.min_def]
                 congr 2
                 split <;> split <;> omega)⟩)
          · refine r_iload K dX8_room_73 rfl ?_
            refine r_goto K 85 dX8_room_75 (by decide) ?_
            exact q_iret K hQ rfl dX8_room_85 (Nat.le_refl _) (Nat.le_refl _) (⟨rfl, rfl, rfl, rfl, (hfr.scr.trans hk2.scr).trans hk3.scr, by
              have hq : hasM I (a0 : Int) ∧ hasM I (b0 : Int) ∧ 0 ≤ what ∧ what ≤ 2 := ⟨h1, h2, h3⟩
              rw [if_pos hq, Int.toNat_natCast, Int.toNat_natCast]
              first
              | rw [if_pos c60]
              | rw [if_neg c60, if_pos c70]
              | (rw [if_neg c60, if_neg c70, Int.min_def]
                 congr 2
                 split <;> split <;> omega)⟩)
        · refine r_iload K dX8_room_63 rfl ?_
          refine r_goto K 85 dX8_room_65 (by decide) ?_
          exact q_iret K hQ rfl dX8_room_85 (Nat.le_refl _) (Nat.le_refl _) (⟨rfl, rfl, rfl, rfl, (hfr.scr.trans hk2.scr).trans hk3.scr, by
            have hq : hasM I (a0 : Int) ∧ hasM I (b0 : Int) ∧ 0 ≤ what ∧ what ≤ 2 := ⟨h1, h2, h3⟩
            rw [if_pos hq, Int.toNat_natCast, Int.toNat_natCast]
            first
            | rw [if_pos c60]
            | rw [if_neg c60, if_pos c70]
            | (rw [if_neg c60, if_neg c70, Int.min_def]
               congr 2
               split <;> split <;> omega)⟩)
      · have h3 : ¬ (0 ≤ what ∧ what ≤ 2) := fun q => by rw [if_pos q] at c22; exact absurd c22 (by decide)
        refine r_iconst K dX8_room_25 ?_
        exact q_iret K hQ rfl dX8_room_26 (Nat.le_refl _) (Nat.le_refl _) (⟨rfl, rfl, rfl, rfl, mScr.refl I, by rw [if_neg (fun q => by first | exact h1 q.1 | exact h2 q.2.1 | exact h3 q.2.2)]⟩)
end MO5
