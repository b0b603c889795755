section MOB
variable {T L : Nat → Nat} {P : Nat → Nat → Option Nat} {I : Nat → Nat → Int} {hn : Nat}
set_option maxHeartbeats 4000000 in
set_option maxRecDepth 100000 in
theorem k_X8_fleet {v m : Int} (hW : Wd T L P) : iX8_fleet [.inr (some 54), .inl v, .inl m] T L P I hn (fun r J => r = some (.inl (if hasM I v ∧ 0 ≤ m ∧ m ≤ 1000 then 1 else 0)) ∧ J = if hasM I v ∧ 0 ≤ m ∧ m ≤ 1000 then mI I 80 v.toNat m else I) := by
  refine CT.by (by decide) (Nat.le_of_ble_eq_true rfl) fun X Y Q hQ K hv => ?_
  have l80 : L 80 = 5 := hW.2.1 80 5 rfl (by decide)
  refine r_aload_n K dX8_fleet_0 rfl ?_
  refine r_iload_n K dX8_fleet_1 rfl ?_
  refine rcV1p K dX8_fleet_2 c_X8_117 v_X8_isVersion (by first | assumption | exact hW.1 _ _ rfl | exact hW.2.2.1 _ _ _ rfl) (k_isVersion hW) (by decide) (Nat.le_of_ble_eq_true rfl) ?_
  refine r_if_eq K 19 dX8_fleet_5 (by decide) (fun c5 => ?_) (fun c5 => ?_)
  · have h1 : ¬ (hasM I v) := fun q => by rw [if_pos q] at c5; exact absurd c5 (by decide)
    refine r_iconst K dX8_fleet_19 ?_
    exact q_zret K hQ rfl dX8_fleet_20 (by first | exact Or.inl rfl | exact Or.inr rfl) (Nat.le_refl _) (Nat.le_refl _) (⟨rfl, rfl, rfl, rfl, by rw [if_neg (fun q => by first | exact h1 q.1 | exact h2 q.2)], by rw [if_neg (fun q => by first | exact h1 q.1 | exact h2 q.2)]⟩)
  · have h1 : hasM I v := by
      by_cases q : hasM I v
      · exact q
      · rw [if_neg q] at c5; exact absurd rfl c5
    refine r_iload_n K dX8_fleet_8 rfl ?_
    refine r_iconst K dX8_fleet_9 ?_
    refine r_sipush K dX8_fleet_10 ?_
    refine rcS3p K dX8_fleet_13 c_X8_99 s_X8_isIn k_isIn (by decide) (Nat.le_of_ble_eq_true rfl) ?_
    refine r_if_ne K 21 dX8_fleet_16 (by decide) (fun c16 => ?_) (fun c16 => ?_)
    · have h2 : 0 ≤ m ∧ m ≤ 1000 := by
        by_cases q : 0 ≤ m ∧ m ≤ 1000
        · exact q
        · rw [if_neg q] at c16; exact absurd rfl c16
      refine r_aload_n K dX8_fleet_21 rfl ?_
      refine r_getR K dX8_fleet_22 f_X8_87 rfl (by first | assumption | exact hW.1 _ _ rfl | exact hW.2.2.1 _ _ _ rfl) (by first | assumption | exact hW.1 _ _ rfl | exact hW.2.2.1 _ _ _ rfl) ?_
      refine r_iload_n K dX8_fleet_25 rfl ?_
      refine r_iload_n K dX8_fleet_26 rfl ?_
      refine r_iast K dX8_fleet_27 (by first | assumption | exact hW.1 _ _ rfl | exact hW.2.2.1 _ _ _ rfl) (by omega) (by omega) ?_
      refine r_iconst K dX8_fleet_28 ?_
      exact q_zret K hQ rfl dX8_fleet_29 (by first | exact Or.inl rfl | exact Or.inr rfl) (Nat.le_refl _) (Nat.le_refl _) (⟨rfl, rfl, rfl, rfl, by rw [if_pos ⟨h1, h2⟩], by rw [if_pos ⟨h1, h2⟩]⟩)
    · have h2 : ¬ (0 ≤ m ∧ m ≤ 1000) := fun q => by rw [if_pos q] at c16; exact absurd c16 (by decide)
      refine r_iconst K dX8_fleet_19 ?_
      exact q_zret K hQ rfl dX8_fleet_20 (by first | exact Or.inl rfl | exact Or.inr rfl) (Nat.le_refl _) (Nat.le_refl _) (⟨rfl, rfl, rfl, rfl, by rw [if_neg (fun q => by first | exact h1 q.1 | exact h2 q.2)], by rw [if_neg (fun q => by first | exact h1 q.1 | exact h2 q.2)]⟩)
theorem pIx_in {a b : Nat} (h : a < b) (hb : b < 5) : pIx a b < 10 := (bOs_f ⟨a, by omega⟩ ⟨b, hb⟩ h).2
theorem pIx_ft : ∀ k : Fin 10, pIx (pF k.val) (pT k.val) = k.val := by decide
theorem pF_ix : ∀ a b : Fin 5, a.val < b.val → pF (pIx a.val b.val) = a.val ∧ pT (pIx a.val b.val) = b.val := by decide
set_option maxHeartbeats 4000000 in
set_option maxRecDepth 100000 in
theorem k_pair {a b : Nat} (h : a < b) (hb : b < 5) : pX8_pair [.inl (a : Int), .inl (b : Int)] T L P I hn (.inl ((pIx a b : Nat) : Int)) := by
  refine CT.by (by decide) (Nat.le_of_ble_eq_true rfl) fun X Y Q hQ K hv => ?_
  refine r_iload_n K dX8_pair_0 rfl ?_
  refine r_if_ne K 10 dX8_pair_1 (by decide) (fun c1 => ?_) (fun c1 => ?_)
  · refine r_iload_n K dX8_pair_10 rfl ?_
    refine r_iconst K dX8_pair_11 ?_
    refine r_icmp_ne K 21 dX8_pair_12 (by decide) (fun c12 => ?_) (fun c12 => ?_)
    · refine r_iload_n K dX8_pair_21 rfl ?_
      refine r_iconst K dX8_pair_22 ?_
      refine r_icmp_ne K 32 dX8_pair_23 (by decide) (fun c23 => ?_) (fun c23 => ?_)
      · refine r_bipush K dX8_pair_32 ?_
        exact q_iret K hQ rfl dX8_pair_34 (Nat.le_refl _) (Nat.le_refl _) (by
          have e : ∀ z : Int, z = ((pIx a b : Nat) : Int) → (some (Sum.inl z) : Option PV) = some (.inl ((pIx a b : Nat) : Int)) := fun z hz => by rw [hz]
          first
          | exact ⟨e _ (by rw [pIx, if_pos (by omega)]; omega), rfl, rfl, rfl, rfl, rfl⟩
          | exact ⟨e _ (by rw [pIx, if_neg (by omega), if_pos (by omega)]; omega), rfl, rfl, rfl, rfl, rfl⟩
          | exact ⟨e _ (by rw [pIx, if_neg (by omega), if_neg (by omega), if_pos (by omega)]; omega), rfl, rfl, rfl, rfl, rfl⟩
          | exact ⟨e _ (by rw [pIx, if_neg (by omega), if_neg (by omega), if_neg (by omega)]; rfl), rfl, rfl, rfl, rfl, rfl⟩)
      · refine r_iload_n K dX8_pair_26 rfl ?_
        refine r_iconst K dX8_pair_27 ?_
        refine r_iadd K dX8_pair_28 ?_
        refine r_goto K 34 dX8_pair_29 (by decide) ?_
        exact q_iret K hQ rfl dX8_pair_34 (Nat.le_refl _) (Nat.le_refl _) (by
          have e : ∀ z : Int, z = ((pIx a b : Nat) : Int) → (some (Sum.inl z) : Option PV) = some (.inl ((pIx a b : Nat) : Int)) := fun z hz => by rw [hz]
          first
          | exact ⟨e _ (by rw [pIx, if_pos (by omega)]; omega), rfl, rfl, rfl, rfl, rfl⟩
          | exact ⟨e _ (by rw [pIx, if_neg (by omega), if_pos (by omega)]; omega), rfl, rfl, rfl, rfl, rfl⟩
          | exact ⟨e _ (by rw [pIx, if_neg (by omega), if_neg (by omega), if_pos (by omega)]; omega), rfl, rfl, rfl, rfl, rfl⟩
          | exact ⟨e _ (by rw [pIx, if_neg (by omega), if_neg (by omega), if_neg (by omega)]; rfl), rfl, rfl, rfl, rfl, rfl⟩)
    · refine r_iload_n K dX8_pair_15 rfl ?_
      refine r_iconst K dX8_pair_16 ?_
      refine r_iadd K dX8_pair_17 ?_
      refine r_goto K 34 dX8_pair_18 (by decide) ?_
      exact q_iret K hQ rfl dX8_pair_34 (Nat.le_refl _) (Nat.le_refl _) (by
        have e : ∀ z : Int, z = ((pIx a b : Nat) : Int) → (some (Sum.inl z) : Option PV) = some (.inl ((pIx a b : Nat) : Int)) := fun z hz => by rw [hz]
        first
        | exact ⟨e _ (by rw [pIx, if_pos (by omega)]; omega), rfl, rfl, rfl, rfl, rfl⟩
        | exact ⟨e _ (by rw [pIx, if_neg (by omega), if_pos (by omega)]; omega), rfl, rfl, rfl, rfl, rfl⟩
        | exact ⟨e _ (by rw [pIx, if_neg (by omega), if_neg (by omega), if_pos (by omega)]; omega), rfl, rfl, rfl, rfl, rfl⟩
        | exact ⟨e _ (by rw [pIx, if_neg (by omega), if_neg (by omega), if_neg (by omega)]; rfl), rfl, rfl, rfl, rfl, rfl⟩)
  · refine r_iload_n K dX8_pair_4 rfl ?_
    refine r_iconst K dX8_pair_5 ?_
    refine r_isub K dX8_pair_6 ?_
    refine r_goto K 34 dX8_pair_7 (by decide) ?_
    exact q_iret K hQ rfl dX8_pair_34 (Nat.le_refl _) (Nat.le_refl _) (by
      have e : ∀ z : Int, z = ((pIx a b : Nat) : Int) → (some (Sum.inl z) : Option PV) = some (.inl ((pIx a b : Nat) : Int)) := fun z hz => by rw [hz]
      first
      | exact ⟨e _ (by rw [pIx, if_pos (by omega)]; omega), rfl, rfl, rfl, rfl, rfl⟩
      | exact ⟨e _ (by rw [pIx, if_neg (by omega), if_pos (by omega)]; omega), rfl, rfl, rfl, rfl, rfl⟩
      | exact ⟨e _ (by rw [pIx, if_neg (by omega), if_neg (by omega), if_pos (by omega)]; omega), rfl, rfl, rfl, rfl, rfl⟩
      | exact ⟨e _ (by rw [pIx, if_neg (by omega), if_neg (by omega), if_neg (by omega)]; rfl), rfl, rfl, rfl, rfl, rfl⟩)
set_option maxHeartbeats 4000000 in
set_option maxRecDepth 100000 in
theorem k_X8_hold {a b is : Int} (hW : Wd T L P) (h01 : is = 0 ∨ is = 1) : iX8_hold [.inr (some 54), .inl a, .inl b, .inl is] T L P I hn (fun r J => (¬ (hasM I a ∧ hasM I b ∧ a < b ∧ I 81 (pIx a.toNat b.toNat) ≠ is) ∧ r = some (.inl 0) ∧ J = I) ∨ ((hasM I a ∧ hasM I b ∧ a < b ∧ I 81 (pIx a.toNat b.toNat) ≠ is) ∧ r = some (.inl 1) ∧ J = mI I 81 (pIx a.toNat b.toNat) is)) := by
  refine CT.by (by decide) (Nat.le_of_ble_eq_true rfl) fun X Y Q hQ K hv => ?_
  have l81 : L 81 = 10 := hW.2.1 81 10 rfl (by decide)
  refine r_aload_n K dX8_hold_0 rfl ?_
  refine r_iload_n K dX8_hold_1 rfl ?_
  refine rcV1p K dX8_hold_2 c_X8_117 v_X8_isVersion (by first | assumption | exact hW.1 _ _ rfl | exact hW.2.2.1 _ _ _ rfl) (k_isVersion hW) (by decide) (Nat.le_of_ble_eq_true rfl) ?_
  refine r_if_eq K 35 dX8_hold_5 (by decide) (fun c5 => ?_) (fun c5 => ?_)
  · have h1 : ¬ (hasM I a) := fun q => by rw [if_pos q] at c5; exact absurd c5 (by decide)
    refine r_iconst K dX8_hold_35 ?_
    exact q_zret K hQ rfl dX8_hold_36 (by first | exact Or.inl rfl | exact Or.inr rfl) (Nat.le_refl _) (Nat.le_refl _) (⟨rfl, rfl, rfl, rfl, Or.inl ⟨fun q => by first | exact h1 q.1 | exact h2 q.2.1 | exact absurd q.2.2.1 (by omega) | exact q.2.2.2 (by rw [Int.toNat_natCast, Int.toNat_natCast]; exact c32), rfl, rfl⟩⟩)
  · have h1 : hasM I a := by
      by_cases q : hasM I a
      · exact q
      · rw [if_neg q] at c5; exact absurd rfl c5
    obtain ⟨a0, rfl⟩ : ∃ n : Nat, a = n := ⟨a.toNat, by have := h1.1; omega⟩
    have a05 : a0 < 5 := by have := h1.2.1; omega
    refine r_aload_n K dX8_hold_8 rfl ?_
    refine r_iload_n K dX8_hold_9 rfl ?_
    refine rcV1p K dX8_hold_10 c_X8_117 v_X8_isVersion (by first | assumption | exact hW.1 _ _ rfl | exact hW.2.2.1 _ _ _ rfl) (k_isVersion hW) (by decide) (Nat.le_of_ble_eq_true rfl) ?_
    refine r_if_eq K 35 dX8_hold_13 (by decide) (fun c13 => ?_) (fun c13 => ?_)
    · have h2 : ¬ (hasM I b) := fun q => by rw [if_pos q] at c13; exact absurd c13 (by decide)
      refine r_iconst K dX8_hold_35 ?_
      exact q_zret K hQ rfl dX8_hold_36 (by first | exact Or.inl rfl | exact Or.inr rfl) (Nat.le_refl _) (Nat.le_refl _) (⟨rfl, rfl, rfl, rfl, Or.inl ⟨fun q => by first | exact h1 q.1 | exact h2 q.2.1 | exact absurd q.2.2.1 (by omega) | exact q.2.2.2 (by rw [Int.toNat_natCast, Int.toNat_natCast]; exact c32), rfl, rfl⟩⟩)
    · have h2 : hasM I b := by
        by_cases q : hasM I b
        · exact q
        · rw [if_neg q] at c13; exact absurd rfl c13
      obtain ⟨b0, rfl⟩ : ∃ n : Nat, b = n := ⟨b.toNat, by have := h2.1; omega⟩
      have b05 : b0 < 5 := by have := h2.2.1; omega
      refine r_iload_n K dX8_hold_16 rfl ?_
      refine r_iload_n K dX8_hold_17 rfl ?_
      refine r_icmp_ge K 35 dX8_hold_18 (by decide) (fun c18 => ?_) (fun c18 => ?_)
      · refine r_iconst K dX8_hold_35 ?_
        exact q_zret K hQ rfl dX8_hold_36 (by first | exact Or.inl rfl | exact Or.inr rfl) (Nat.le_refl _) (Nat.le_refl _) (⟨rfl, rfl, rfl, rfl, Or.inl ⟨fun q => by first | exact h1 q.1 | exact h2 q.2.1 | exact absurd q.2.2.1 (by omega) | exact q.2.2.2 (by rw [Int.toNat_natCast, Int.toNat_natCast]; exact c32), rfl, rfl⟩⟩)
      · have hpi := pIx_in (a := a0) (b := b0) (by omega) b05
        refine r_aload_n K dX8_hold_21 rfl ?_
        refine r_getR K dX8_hold_22 f_X8_90 rfl (by first | assumption | exact hW.1 _ _ rfl | exact hW.2.2.1 _ _ _ rfl) (by first | assumption | exact hW.1 _ _ rfl | exact hW.2.2.1 _ _ _ rfl) ?_
        refine r_iload_n K dX8_hold_25 rfl ?_
        refine r_iload_n K dX8_hold_26 rfl ?_
        refine rcS2p K dX8_hold_27 c_X8_202 s_X8_pair (k_pair (a := a0) (b := b0) (by omega) b05) (by decide) (Nat.le_of_ble_eq_true rfl) ?_
        refine r_zald K dX8_hold_30 (by first | assumption | exact hW.1 _ _ rfl | exact hW.2.2.1 _ _ _ rfl) (by omega) (by omega) ?_
        rw [Int.toNat_natCast]
        refine r_iload_n K dX8_hold_31 rfl ?_
        refine r_icmp_ne K 37 dX8_hold_32 (by decide) (fun c32 => ?_) (fun c32 => ?_)
        · refine r_aload_n K dX8_hold_37 rfl ?_
          refine r_getR K dX8_hold_38 f_X8_90 rfl (by first | assumption | exact hW.1 _ _ rfl | exact hW.2.2.1 _ _ _ rfl) (by first | assumption | exact hW.1 _ _ rfl | exact hW.2.2.1 _ _ _ rfl) ?_
          refine r_iload_n K dX8_hold_41 rfl ?_
          refine r_iload_n K dX8_hold_42 rfl ?_
          refine rcS2p K dX8_hold_43 c_X8_202 s_X8_pair (k_pair (a := a0) (b := b0) (by omega) b05) (by decide) (Nat.le_of_ble_eq_true rfl) ?_
          refine r_iload_n K dX8_hold_46 rfl ?_
          refine r_zast K dX8_hold_47 (by first | assumption | exact hW.1 _ _ rfl | exact hW.2.2.1 _ _ _ rfl) (by omega) (by omega) h01 ?_
          rw [Int.toNat_natCast]
          refine r_iconst K dX8_hold_48 ?_
          exact q_zret K hQ rfl dX8_hold_49 (by first | exact Or.inl rfl | exact Or.inr rfl) (Nat.le_refl _) (Nat.le_refl _) (⟨rfl, rfl, rfl, rfl, Or.inr ⟨⟨h1, h2, by omega, by rw [Int.toNat_natCast, Int.toNat_natCast]; exact c32⟩, rfl, by rw [Int.toNat_natCast, Int.toNat_natCast]⟩⟩)
        · refine r_iconst K dX8_hold_35 ?_
          exact q_zret K hQ rfl dX8_hold_36 (by first | exact Or.inl rfl | exact Or.inr rfl) (Nat.le_refl _) (Nat.le_refl _) (⟨rfl, rfl, rfl, rfl, Or.inl ⟨fun q => by first | exact h1 q.1 | exact h2 q.2.1 | exact absurd q.2.2.1 (by omega) | exact q.2.2.2 (by rw [Int.toNat_natCast, Int.toNat_natCast]; exact c32), rfl, rfl⟩⟩)
abbrev grM (I : Nat → Nat → Int) : Int := gre (I 57) 5
set_option maxHeartbeats 4000000 in
set_option maxRecDepth 100000 in
theorem k_X8_greatest (hW : Wd T L P) : pX8_greatest [.inr (some 54)] T L P I hn (.inl (grM I)) := by
  refine CT.by (by decide) (Nat.le_of_ble_eq_true rfl) fun X Y Q hQ K hv => ?_
  have l57 : L 57 = 5 := hW.2.1 57 5 rfl (by decide)
  have loop : ∀ (d v : Nat) (z : Int), v + d = 5 → z = gre (I 57) v → RR X Y Q 0 0 4 [some (.inr (some 54)), some (.inl z), some (.inl (v : Int))] [] T L P I hn := by
    intro d
    induction d with
    | zero =>
      intro v z hd hz
      have hv5 : v = 5 := by omega
      subst hv5
      refine r_iload_n K dX8_greatest_4 rfl ?_
      refine r_iconst K dX8_greatest_5 ?_
      refine r_icmp_ge K 26 dX8_greatest_6 (by decide) (fun c6 => ?_) (fun c6 => ?_)
      · refine r_iload_n K dX8_greatest_26 rfl ?_
        exact q_iret K hQ rfl dX8_greatest_27 (Nat.le_refl _) (Nat.le_refl _) (⟨by rw [hz], rfl, rfl, rfl, rfl, rfl⟩)
      · exact absurd c6 (by omega)
    | succ d ih =>
      intro v z hd hz
      refine r_iload_n K dX8_greatest_4 rfl ?_
      refine r_iconst K dX8_greatest_5 ?_
      refine r_icmp_ge K 26 dX8_greatest_6 (by decide) (fun c6 => ?_) (fun c6 => ?_)
      · exact absurd c6 (by omega)
      · refine r_aload_n K dX8_greatest_9 rfl ?_
        refine r_getR K dX8_greatest_10 f_X8_16 rfl (by first | assumption | exact hW.1 _ _ rfl | exact hW.2.2.1 _ _ _ rfl) (by first | assumption | exact hW.1 _ _ rfl | exact hW.2.2.1 _ _ _ rfl) ?_
        refine r_iload_n K dX8_greatest_13 rfl ?_
        refine r_iald K dX8_greatest_14 (by first | assumption | exact hW.1 _ _ rfl | exact hW.2.2.1 _ _ _ rfl) (by omega) (by omega) ?_
        rw [Int.toNat_natCast]
        refine r_if_le K 20 dX8_greatest_15 (by decide) (fun c15 => ?_) (fun c15 => ?_)
        · refine r_iinc K dX8_greatest_20 (by decide) rfl ?_
          refine r_goto K 4 dX8_greatest_23 (by decide) ?_
          first | exact ih (v + 1) _ (by omega) (by rw [gre, if_pos (by omega)]) | exact ih (v + 1) _ (by omega) (by rw [gre, if_neg (by omega)]; exact hz)
        · refine r_iload_n K dX8_greatest_18 rfl ?_
          refine r_istore_n K dX8_greatest_19 (by decide) ?_
          refine r_iinc K dX8_greatest_20 (by decide) rfl ?_
          refine r_goto K 4 dX8_greatest_23 (by decide) ?_
          first | exact ih (v + 1) _ (by omega) (by rw [gre, if_pos (by omega)]) | exact ih (v + 1) _ (by omega) (by rw [gre, if_neg (by omega)]; exact hz)
  refine r_iconst K dX8_greatest_0 ?_
  refine r_istore_n K dX8_greatest_1 (by decide) ?_
  refine r_iconst K dX8_greatest_2 ?_
  refine r_istore_n K dX8_greatest_3 (by decide) ?_
  exact loop 5 0 (-1) rfl rfl
set_option maxHeartbeats 4000000 in
set_option maxRecDepth 100000 in
theorem k_cost2 {a b : Int} (hW : Wd T L P) (hV : MV I) : iX8_cost [.inr (some 54), .inl a, .inl b] T L P I hn (fun r J => r = some (.inl (prcM I a b)) ∧ mScr I J ∧ J 82 = I 82) := by
  refine CT.by (by decide) (Nat.le_of_ble_eq_true rfl) fun X Y Q hQ K hv => ?_
  refine r_aload_n K dX8_cost_0 rfl ?_
  refine r_iload_n K dX8_cost_1 rfl ?_
  refine rcV1p K dX8_cost_2 c_X8_117 v_X8_isVersion (by first | assumption | exact hW.1 _ _ rfl | exact hW.2.2.1 _ _ _ rfl) (k_isVersion hW) (by decide) (Nat.le_of_ble_eq_true rfl) ?_
  refine r_if_eq K 16 dX8_cost_5 (by decide) (fun c5 => ?_) (fun c5 => ?_)
  · have h1 : ¬ (hasM I a) := fun q => by rw [if_pos q] at c5; exact absurd c5 (by decide)
    refine r_iconst K dX8_cost_16 ?_
    exact q_iret K hQ rfl dX8_cost_17 (Nat.le_refl _) (Nat.le_refl _) (⟨rfl, rfl, rfl, rfl, by rw [prcM, if_neg (fun q => by first | exact h1 q.1 | exact h2 q.2)], mScr.refl I, rfl⟩)
  · have h1 : hasM I a := by
      by_cases q : hasM I a
      · exact q
      · rw [if_neg q] at c5; exact absurd rfl c5
    obtain ⟨a0, rfl⟩ : ∃ n : Nat, a = n := ⟨a.toNat, by have := h1.1; omega⟩
    have a05 : a0 < 5 := by have := h1.2.1; omega
    refine r_aload_n K dX8_cost_8 rfl ?_
    refine r_iload_n K dX8_cost_9 rfl ?_
    refine rcV1p K dX8_cost_10 c_X8_117 v_X8_isVersion (by first | assumption | exact hW.1 _ _ rfl | exact hW.2.2.1 _ _ _ rfl) (k_isVersion hW) (by decide) (Nat.le_of_ble_eq_true rfl) ?_
    refine r_if_ne K 18 dX8_cost_13 (by decide) (fun c13 => ?_) (fun c13 => ?_)
    · have h2 : hasM I b := by
        by_cases q : hasM I b
        · exact q
        · rw [if_neg q] at c13; exact absurd rfl c13
      obtain ⟨b0, rfl⟩ : ∃ n : Nat, b = n := ⟨b.toNat, by have := h2.1; omega⟩
      have b05 : b0 < 5 := by have := h2.2.1; omega
      refine r_aload_n K dX8_cost_18 rfl ?_
      refine r_iload_n K dX8_cost_19 rfl ?_
      refine r_iload_n K dX8_cost_20 rfl ?_
      refine rcV2i K dX8_cost_21 c_X8_153 v_X8_makes (by first | assumption | exact hW.1 _ _ rfl | exact hW.2.2.1 _ _ _ rfl) (k_makes (a := a0) (b := b0) (m := mN I a0) (n := mN I b0) hW hV a05 b05 (hV.n a05).1 (hV.n b05).1 (hV.n a05).2 (hV.n b05).2) (by decide) (Nat.le_of_ble_eq_true rfl) ?_
      rintro _ J1 ⟨rfl, N, n1, n2, hfr, n3, n4, n5⟩
      have hn120 : mN I b0 ≤ 120 := (hV.n b05).2
      have hN1 : N ≤ 120 := by have := pos_ge (A := mBy I a0) (B := mBy I b0) (m := mN I a0) hn120 n2 N (Nat.le_refl _); omega
      refine r_aload_n K dX8_cost_24 rfl ?_
      refine r_getI K dX8_cost_25 f_X8_139 rfl (by first | assumption | exact hW.1 _ _ rfl | exact hW.2.2.1 _ _ _ rfl) ?_
      exact q_iret K hQ rfl dX8_cost_28 (Nat.le_refl _) (Nat.le_refl _) (⟨rfl, rfl, rfl, rfl, by rw [prcM, if_pos ⟨h1, h2⟩, hfr.2.2.1, Int.toNat_natCast, Int.toNat_natCast], hfr.scr, hfr.1 82 (by decide) (by decide)⟩)
    · have h2 : ¬ (hasM I b) := fun q => by rw [if_pos q] at c13; exact absurd c13 (by decide)
      refine r_iconst K dX8_cost_16 ?_
      exact q_iret K hQ rfl dX8_cost_17 (Nat.le_refl _) (Nat.le_refl _) (⟨rfl, rfl, rfl, rfl, by rw [prcM, if_neg (fun q => by first | exact h1 q.1 | exact h2 q.2)], mScr.refl I, rfl⟩)
theorem prcM_cong {J : Nat → Nat → Int} (h : mScr I J) (a b : Int) : prcM J a b = prcM I a b := by
  have e6 : J 56 = I 56 := h.1 56 (by decide) (by decide) (by decide) (by decide)
  have e7 : J 57 = I 57 := h.1 57 (by decide) (by decide) (by decide) (by decide)
  unfold prcM hasM mBy mN
  rw [e6, e7]
theorem prcM_in (hV : MV I) (a b : Int) : prcM I a b = -1 ∨ (3 ≤ prcM I a b ∧ prcM I a b ≤ 243) := by
  unfold prcM
  split
  · rename_i h
    right
    have h1 := (hV.n (v := b.toNat) (by have := h.2.1; have := h.2.2.1; omega)).2
    have := ls_in (mBy I a.toNat) (mBy I b.toNat) (mN I a.toNat) (mN I b.toNat) h1 (mN I b.toNat) 0 (by omega)
    omega
  · exact Or.inl rfl
theorem mScr.set {J : Nat → Nat → Int} {k j : Nat} {z : Int} (h : mScr I J) (hk : k = 82 ∨ k = 83) : mScr I (mI J k j z) := ⟨fun c c1 c2 c3 c4 => by rw [mI_ne (by omega)]; exact h.1 c c1 c2 c3 c4, fun j' j1 j2 => by rw [mI_ne (by omega)]; exact h.2.1 j' j1 j2, fun c hc => by rw [mI_ne (by omega)]; exact h.2.2 c hc⟩
def pcP (I : Nat → Nat → Int) (J : Nat → Nat → Int) : Prop := mScr I J ∧ ∀ k, k < 10 → J 82 k = prcM I (pF k : Nat) (pT k : Nat)
theorem pIx_inj : ∀ a b c d : Fin 5, a.val < b.val → c.val < d.val → pIx a.val b.val = pIx c.val d.val → a.val = c.val ∧ b.val = d.val := by decide
set_option maxHeartbeats 4000000 in
set_option maxRecDepth 100000 in
theorem k_pairCosts (hW : Wd T L P) (hV : MV I) : iX8_pairCosts [.inr (some 54)] T L P I hn (fun r J => r = none ∧ pcP I J) := by
  refine CT.by (by decide) (Nat.le_of_ble_eq_true rfl) fun X Y Q hQ K hv => ?_
  have l82 : L 82 = 10 := hW.2.1 82 10 rfl (by decide)
  have loop : ∀ (d a : Nat) (g2 : Option PV) (J : Nat → Nat → Int), a + d = 5 → mScr I J → (∀ a' b' : Nat, a' < b' → b' < 5 → a' < a → J 82 (pIx a' b') = prcM I a' b') → RR X Y Q 0 0 2 [some (.inr (some 54)), some (.inl (a : Int)), g2] [] T L P J hn := by
    intro d
    induction d with
    | zero =>
      intro a g2 J hd h1 h2
      refine r_iload_n K dX8_pairCosts_2 rfl ?_
      refine r_iconst K dX8_pairCosts_3 ?_
      refine r_icmp_ge K 64 dX8_pairCosts_4 (by decide) (fun c4 => ?_) (fun c4 => ?_)
      · exact q_vret K hQ rfl dX8_pairCosts_64 (Nat.le_refl _) (Nat.le_refl _) (⟨rfl, rfl, rfl, rfl, rfl, h1, fun k hk => by
          have q := pFT ⟨k, hk⟩
          have q2 := pIx_ft ⟨k, hk⟩
          have q3 := h2 (pF k) (pT k) q.1 q.2 (by have := q.1; have := q.2; show pF k < a; simp only at *; omega)
          rw [q2] at q3
          exact q3⟩)
      · exact absurd c4 (by omega)
    | succ d ih =>
      intro a g2 J hd h1 h2
      have inner : ∀ (e b : Nat) (J : Nat → Nat → Int), b + e = 5 → a < b → mScr I J → (∀ a' b' : Nat, a' < b' → b' < 5 → a' < a ∨ (a' = a ∧ b' < b) → J 82 (pIx a' b') = prcM I a' b') → RR X Y Q 0 0 11 [some (.inr (some 54)), some (.inl (a : Int)), some (.inl (b : Int))] [] T L P J hn := by
        intro e
        induction e with
        | zero =>
          intro b J he hab h1 h2
          refine r_iload_n K dX8_pairCosts_11 rfl ?_
          refine r_iconst K dX8_pairCosts_12 ?_
          refine r_icmp_ge K 58 dX8_pairCosts_13 (by decide) (fun c13 => ?_) (fun c13 => ?_)
          · refine r_iinc K dX8_pairCosts_58 (by decide) rfl ?_
            refine r_goto K 2 dX8_pairCosts_61 (by decide) ?_
            exact ih (a + 1) _ J (by omega) h1 (fun a' b' q1 q2 q3 => h2 a' b' q1 q2 (by omega))
          · exact absurd c13 (by omega)
        | succ e ihe =>
          intro b J he hab h1 h2
          have hpi := pIx_in (a := a) (b := b) hab (by omega)
          have hVJ := h1.mv hV
          have j51 : ∀ (z : Int) (J : Nat → Nat → Int), z = prcM I (a : Int) (b : Int) → mScr I J → (∀ a' b' : Nat, a' < b' → b' < 5 → a' < a ∨ (a' = a ∧ b' < b) → J 82 (pIx a' b') = prcM I a' b') → RR X Y Q 0 0 51 [some (.inr (some 54)), some (.inl (a : Int)), some (.inl (b : Int))] [.inl z, .inl ((pIx a b : Nat) : Int), .inr (some 82)] T L P J hn := by
            intro z J hz h1 h2
            refine r_iast K dX8_pairCosts_51 (by first | assumption | exact hW.1 _ _ rfl | exact hW.2.2.1 _ _ _ rfl) (by omega) (by omega) ?_
            rw [Int.toNat_natCast]
            refine r_iinc K dX8_pairCosts_52 (by decide) rfl ?_
            refine r_goto K 11 dX8_pairCosts_55 (by decide) ?_
            refine ihe (b + 1) _ (by omega) (by omega) (h1.set (Or.inl rfl)) (fun a' b' q1 q2 q3 => ?_)
            rw [mI_row]
            by_cases w : a' = a ∧ b' = b
            · rw [w.1, w.2, if_pos rfl, hz]
            · rw [if_neg (fun q => w (pIx_inj ⟨a', by omega⟩ ⟨b', q2⟩ ⟨a, by omega⟩ ⟨b, by omega⟩ q1 hab q))]
              exact h2 a' b' q1 q2 (by omega)
          refine r_iload_n K dX8_pairCosts_11 rfl ?_
          refine r_iconst K dX8_pairCosts_12 ?_
          refine r_icmp_ge K 58 dX8_pairCosts_13 (by decide) (fun c13 => ?_) (fun c13 => ?_)
          · exact absurd c13 (by omega)
          · refine r_aload_n K dX8_pairCosts_16 rfl ?_
            refine r_getR K dX8_pairCosts_17 f_X8_93 rfl (by first | assumption | exact hW.1 _ _ rfl | exact hW.2.2.1 _ _ _ rfl) (by first | assumption | exact hW.1 _ _ rfl | exact hW.2.2.1 _ _ _ rfl) ?_
            refine r_iload_n K dX8_pairCosts_20 rfl ?_
            refine r_iload_n K dX8_pairCosts_21 rfl ?_
            refine rcS2p K dX8_pairCosts_22 c_X8_202 s_X8_pair (k_pair (a := a) (b := b) hab (by omega)) (by decide) (Nat.le_of_ble_eq_true rfl) ?_
            refine r_aload_n K dX8_pairCosts_25 rfl ?_
            refine r_iload_n K dX8_pairCosts_26 rfl ?_
            refine rcV1p K dX8_pairCosts_27 c_X8_117 v_X8_isVersion (by first | assumption | exact hW.1 _ _ rfl | exact hW.2.2.1 _ _ _ rfl) (k_isVersion hW) (by decide) (Nat.le_of_ble_eq_true rfl) ?_
            refine r_if_eq K 50 dX8_pairCosts_30 (by decide) (fun c30 => ?_) (fun c30 => ?_)
            · have h3 : ¬ (hasM J (a : Int)) := fun q => by rw [if_pos q] at c30; exact absurd c30 (by decide)
              refine r_iconst K dX8_pairCosts_50 ?_
              first
              | exact j51 _ J1 rfl (h1.trans g1) (by rw [g2]; exact h2)
              | exact j51 _ J (by rw [← prcM_cong h1, prcM, if_neg (fun q => by first | exact h3 q.1 | exact h4 q.2)]) h1 h2
            · have h3 : hasM J (a : Int) := by
                by_cases q : hasM J (a : Int)
                · exact q
                · rw [if_neg q] at c30; exact absurd rfl c30
              refine r_aload_n K dX8_pairCosts_33 rfl ?_
              refine r_iload_n K dX8_pairCosts_34 rfl ?_
              refine rcV1p K dX8_pairCosts_35 c_X8_117 v_X8_isVersion (by first | assumption | exact hW.1 _ _ rfl | exact hW.2.2.1 _ _ _ rfl) (k_isVersion hW) (by decide) (Nat.le_of_ble_eq_true rfl) ?_
              refine r_if_eq K 50 dX8_pairCosts_38 (by decide) (fun c38 => ?_) (fun c38 => ?_)
              · have h4 : ¬ (hasM J (b : Int)) := fun q => by rw [if_pos q] at c38; exact absurd c38 (by decide)
                refine r_iconst K dX8_pairCosts_50 ?_
                first
                | exact j51 _ J1 rfl (h1.trans g1) (by rw [g2]; exact h2)
                | exact j51 _ J (by rw [← prcM_cong h1, prcM, if_neg (fun q => by first | exact h3 q.1 | exact h4 q.2)]) h1 h2
              · have h4 : hasM J (b : Int) := by
                  by_cases q : hasM J (b : Int)
                  · exact q
                  · rw [if_neg q] at c38; exact absurd rfl c38
                refine r_aload_n K dX8_pairCosts_41 rfl ?_
                refine r_iload_n K dX8_pairCosts_42 rfl ?_
                refine r_iload_n K dX8_pairCosts_43 rfl ?_
                refine rcV2i K dX8_pairCosts_44 c_X8_205 v_X8_cost (by first | assumption | exact hW.1 _ _ rfl | exact hW.2.2.1 _ _ _ rfl) (k_cost2 hW hVJ) (by decide) (Nat.le_of_ble_eq_true rfl) ?_
                rintro _ J1 ⟨rfl, g1, g2⟩
                rw [prcM_cong h1]
                refine r_goto K 51 dX8_pairCosts_47 (by decide) ?_
                first
                | exact j51 _ J1 rfl (h1.trans g1) (by rw [g2]; exact h2)
                | exact j51 _ J (by rw [← prcM_cong h1, prcM, if_neg (fun q => by first | exact h3 q.1 | exact h4 q.2)]) h1 h2
      refine r_iload_n K dX8_pairCosts_2 rfl ?_
      refine r_iconst K dX8_pairCosts_3 ?_
      refine r_icmp_ge K 64 dX8_pairCosts_4 (by decide) (fun c4 => ?_) (fun c4 => ?_)
      · exact absurd c4 (by omega)
      · refine r_iload_n K dX8_pairCosts_7 rfl ?_
        refine r_iconst K dX8_pairCosts_8 ?_
        refine r_iadd K dX8_pairCosts_9 ?_
        refine r_istore_n K dX8_pairCosts_10 (by decide) ?_
        exact inner (4 - a) (a + 1) J (by omega) (by omega) h1 (fun a' b' q1 q2 q3 => h2 a' b' q1 q2 (by omega))
  refine r_iconst K dX8_pairCosts_0 ?_
  refine r_istore_n K dX8_pairCosts_1 (by decide) ?_
  exact loop 5 0 _ I rfl (mScr.refl I) (fun a' b' q1 q2 q3 => absurd q3 (by omega))
/-- a pair is taken into a way -/
def eW (S : Nat) (pr : Nat → Int) (k : Nat) (x y : Int) : Int := if S.testBit k = true ∧ pr k ≠ -1 then (if pr k + y < x then pr k + y else x) else x
theorem eW_comm (S : Nat) (pr : Nat → Int) (k l : Nat) (x y z : Int) : eW S pr k (eW S pr l x y) z = eW S pr l (eW S pr k x z) y := by
  unfold eW
  by_cases h1 : S.testBit k = true ∧ pr k ≠ -1
  · by_cases h2 : S.testBit l = true ∧ pr l ≠ -1
    · rw [if_pos h1, if_pos h1, if_pos h2, if_pos h2]
      (repeat' split) <;> omega
    · rw [if_pos h1, if_pos h1, if_neg h2, if_neg h2]
  · rw [if_neg h1, if_neg h1]
theorem wy_s (S : Nat) (pr b : Nat → Int) (d v : Nat) : wyF S pr b (d + 1) v = if v = pF (9 - d) then eW S pr (9 - d) (wyF S pr b d v) (wyF S pr b d (pT (9 - d))) else wyF S pr b d v := by
  rw [wyF, opW]
  by_cases h1 : S.testBit (9 - d) = true ∧ pr (9 - d) ≠ -1
  · rw [if_pos h1]
    show (if v = pF (9 - d) then _ else _) = _
    by_cases h2 : v = pF (9 - d)
    · rw [if_pos h2, if_pos h2, eW, if_pos h1, h2]
    · rw [if_neg h2, if_neg h2]
  · rw [if_neg h1, eW, if_neg h1, ite_self]
theorem wy_k (S : Nat) (pr b : Nat → Int) {d v : Nat} : ∀ e, (∀ i, i < e → pF (9 - (d + i)) ≠ v) → wyF S pr b (d + e) v = wyF S pr b d v
  | 0, _ => rfl
  | e + 1, h => by
    rw [show d + (e + 1) = (d + e) + 1 by omega, wy_s, if_neg (fun q => h e (by omega) q.symm)]
    exact wy_k S pr b e (fun i hi => h i (by omega))
/-- the pairs of v, one behind the other -/
def aF (S : Nat) (pr b W : Nat → Int) (v : Nat) : Nat → Int
  | 0 => b v
  | j + 1 => eW S pr (pIx v (v + 1 + j)) (aF S pr b W v j) (W (v + 1 + j))
theorem wy_all (S : Nat) (pr b : Nat → Int) : ∀ v, v < 5 → wyF S pr b 10 v = aF S pr b (wyF S pr b 10) v (4 - v) := by
  have w4 : ∀ d, d ≤ 10 → wyF S pr b d 4 = b 4 := fun d hd => by
    have := wy_k S pr b (d := 0) (v := 4) d (fun i hi => (by
      have : ∀ j : Fin 10, pF (9 - j.val) ≠ 4 := by decide
      rw [Nat.zero_add]
      exact this ⟨i, by omega⟩))
    rw [Nat.zero_add] at this
    exact this
  have w3 : ∀ e, e ≤ 9 → wyF S pr b (1 + e) 3 = wyF S pr b 1 3 := fun e he => wy_k S pr b e (fun i hi => by
      have : ∀ j : Fin 9, pF (9 - (1 + j.val)) ≠ 3 := by decide
      exact this ⟨i, by omega⟩)
  have w2 : ∀ e, e ≤ 7 → wyF S pr b (3 + e) 2 = wyF S pr b 3 2 := fun e he => wy_k S pr b e (fun i hi => by
      have : ∀ j : Fin 7, pF (9 - (3 + j.val)) ≠ 2 := by decide
      exact this ⟨i, by omega⟩)
  have w1 : ∀ e, e ≤ 4 → wyF S pr b (6 + e) 1 = wyF S pr b 6 1 := fun e he => wy_k S pr b e (fun i hi => by
      have : ∀ j : Fin 4, pF (9 - (6 + j.val)) ≠ 1 := by decide
      exact this ⟨i, by omega⟩)
  have w0 : wyF S pr b 6 0 = b 0 := wy_k S pr b (d := 0) (v := 0) 6 (fun i hi => by
      have : ∀ j : Fin 6, pF (9 - (0 + j.val)) ≠ 0 := by decide
      exact this ⟨i, hi⟩)
  have w10 : wyF S pr b 3 1 = b 1 := wy_k S pr b (d := 0) (v := 1) 3 (fun i hi => by
      have : ∀ j : Fin 3, pF (9 - (0 + j.val)) ≠ 1 := by decide
      exact this ⟨i, hi⟩)
  have w20 : wyF S pr b 1 2 = b 2 := wy_k S pr b (d := 0) (v := 2) 1 (fun i hi => by
      have : ∀ j : Fin 1, pF (9 - (0 + j.val)) ≠ 2 := by decide
      exact this ⟨i, hi⟩)
  have f4 : wyF S pr b 10 4 = b 4 := w4 10 (by decide)
  have f3 : wyF S pr b 10 3 = eW S pr 9 (b 3) (b 4) := by
    rw [w3 9 (by decide), wy_s, if_pos (by decide)]; rfl
  have f2 : wyF S pr b 10 2 = eW S pr 7 (eW S pr 8 (b 2) (b 4)) (wyF S pr b 10 3) := by
    rw [w2 7 (by decide), wy_s, if_pos (by decide), wy_s, if_pos (by decide), w20]
    show eW S pr 7 (eW S pr 8 (b 2) (wyF S pr b 1 4)) (wyF S pr b 2 3) = _
    rw [w4 1 (by decide), w3 1 (by decide), ← w3 9 (by decide)]
  have f1 : wyF S pr b 10 1 = eW S pr 4 (eW S pr 5 (eW S pr 6 (b 1) (b 4)) (wyF S pr b 10 3)) (wyF S pr b 10 2) := by
    rw [w1 4 (by decide), wy_s, if_pos (by decide), wy_s, if_pos (by decide), wy_s, if_pos (by decide), w10]
    show eW S pr 4 (eW S pr 5 (eW S pr 6 (b 1) (wyF S pr b 3 4)) (wyF S pr b 4 3)) (wyF S pr b 5 2) = _
    rw [w4 3 (by decide), w3 3 (by decide), ← w3 9 (by decide), w2 2 (by decide), ← w2 7 (by decide)]
  have f0 : wyF S pr b 10 0 = eW S pr 0 (eW S pr 1 (eW S pr 2 (eW S pr 3 (b 0) (b 4)) (wyF S pr b 10 3)) (wyF S pr b 10 2)) (wyF S pr b 10 1) := by
    rw [wy_s, if_pos (by decide), wy_s, if_pos (by decide), wy_s, if_pos (by decide), wy_s, if_pos (by decide), w0]
    show eW S pr 0 (eW S pr 1 (eW S pr 2 (eW S pr 3 (b 0) (wyF S pr b 6 4)) (wyF S pr b 7 3)) (wyF S pr b 8 2)) (wyF S pr b 9 1) = _
    rw [w4 6 (by decide), w3 6 (by decide), ← w3 9 (by decide), w2 5 (by decide), ← w2 7 (by decide), w1 3 (by decide), ← w1 4 (by decide)]
  intro v hv
  match v, hv with
  | 4, _ => exact f4
  | 3, _ =>
    show _ = eW S pr 9 (b 3) (wyF S pr b 10 4)
    rw [f4]; exact f3
  | 2, _ =>
    show _ = eW S pr 8 (eW S pr 7 (b 2) (wyF S pr b 10 3)) (wyF S pr b 10 4)
    rw [f4, eW_comm]; exact f2
  | 1, _ =>
    show _ = eW S pr 6 (eW S pr 5 (eW S pr 4 (b 1) (wyF S pr b 10 2)) (wyF S pr b 10 3)) (wyF S pr b 10 4)
    rw [f4, eW_comm S pr 6 5, eW_comm S pr 6 4, eW_comm S pr 5 4]; exact f1
  | 0, _ =>
    show _ = eW S pr 3 (eW S pr 2 (eW S pr 1 (eW S pr 0 (b 0) (wyF S pr b 10 1)) (wyF S pr b 10 2)) (wyF S pr b 10 3)) (wyF S pr b 10 4)
    rw [f4, eW_comm S pr 3 2, eW_comm S pr 3 1, eW_comm S pr 3 0, eW_comm S pr 2 1, eW_comm S pr 2 0, eW_comm S pr 1 0]; exact f0
theorem aF_cut (S : Nat) (pr b W : Nat → Int) {v g : Nat} (hg : g < 5) (hvg : v ≤ g) (hp : ∀ k, k < 10 → g < pT k → pr k = -1) : ∀ e, g + e ≤ 4 → aF S pr b W v (g - v + e) = aF S pr b W v (g - v)
  | 0, _ => rfl
  | e + 1, he => by
    rw [show g - v + (e + 1) = (g - v + e) + 1 by omega, aF, eW, if_neg]
    · exact aF_cut S pr b W hg hvg hp e (by omega)
    · intro q
      have h1 := pF_ix ⟨v, by omega⟩ ⟨v + 1 + (g - v + e), by omega⟩ (by show v < v + 1 + (g - v + e); omega)
      exact q.2 (hp _ (pIx_in (by omega) (by omega)) (by rw [h1.2]; show g < v + 1 + (g - v + e); omega))
theorem aF_in {S : Nat} {pr b W : Nat → Int} (hp : ∀ k, k < 10 → pr k = -1 ∨ (0 ≤ pr k ∧ pr k ≤ 1000)) (hb : ∀ v, v < 5 → 0 ≤ b v ∧ b v ≤ 200) (hw : ∀ v, v < 5 → 0 ≤ W v ∧ W v ≤ 200) {v : Nat} : ∀ j, v + j < 5 → 0 ≤ aF S pr b W v j ∧ aF S pr b W v j ≤ 200
  | 0, h => hb v (by omega)
  | j + 1, h => by
    have ih := aF_in (S := S) hp hb hw j (by omega : v + j < 5)
    have h1 := hp _ (pIx_in (a := v) (b := v + 1 + j) (by omega) (by omega))
    have h2 := hw (v + 1 + j) (by omega)
    rw [aF, eW]
    split
    · rename_i q
      split <;> omega
    · exact ih
theorem shr_f : ∀ k : Fin 10, ((Int32.ofInt ((k.val : Nat) : Int) &&& 31).toBitVec.smod 32).toNat = k.val := by decide
theorem zsbit {S k : Nat} (hS : S < 1024) (hk : k < 10) : zAnd (zShr (S : Int) (k : Int)) 1 = if S.testBit k = true then 1 else 0 := by
  rw [zShr_d (j := k) ⟨by omega, by omega⟩ (shr_f ⟨k, hk⟩)]
  have e : (S : Int) / 2 ^ k = ((S / 2 ^ k : Nat) : Int) := by norm_cast
  have h1 : S / 2 ^ k < 1024 := Nat.lt_of_le_of_lt (Nat.div_le_self _ _) hS
  have e1 := zAnd_nat (a := S / 2 ^ k) (b := 1) h1
  have e2 : zAnd ((S / 2 ^ k : Nat) : Int) 1 = zAnd ((S / 2 ^ k : Nat) : Int) ((1 : Nat) : Int) := rfl
  rw [e, e2, e1, Nat.and_one_is_mod, Nat.testBit_eq_decide_div_mod_eq]
  by_cases q : S / 2 ^ k % 2 = 1
  · rw [q, if_pos (by decide)]; rfl
  · rw [show S / 2 ^ k % 2 = 0 by omega, if_neg (by decide)]; rfl
/-- what the model's sums need -/
def FM (I : Nat → Nat → Int) : Prop := (∀ v, v < 5 → (0 ≤ I 80 v ∧ I 80 v ≤ 1000) ∧ (I 57 v = 0 → I 80 v = 0)) ∧ (∀ k, k < 10 → I 82 k = -1 ∨ (0 ≤ I 82 k ∧ I 82 k ≤ 1000)) ∧ (∀ k, k < 10 → grM I < pT k → I 82 k = -1) ∧ grM I ≠ -1
abbrev whM (I : Nat → Nat → Int) : Int := 3 + I 57 (grM I).toNat
abbrev FsM (I : Nat → Nat → Int) : Nat → Int := sntF (I 80) (I 82) (grM I) (whM I)
theorem smF_tail {dv w : Nat → Int} {g : Nat} : ∀ e, (∀ v, g < v → v < g + 1 + e → dv v = 0) → smF dv w (g + 1 + e) = smF dv w (g + 1)
  | 0, _ => rfl
  | e + 1, h => by
    rw [show g + 1 + (e + 1) = (g + 1 + e) + 1 by omega, smF, h (g + 1 + e) (by omega) (by omega), Int.zero_mul, Int.add_zero]
    exact smF_tail e (fun v h1 h2 => h v h1 (by omega))
theorem FM.cong {J : Nat → Nat → Int} (h : FM I) (e : ∀ c, c ≠ 83 → J c = I c) : FM J := by
  unfold FM grM
  rw [e 57 (by decide), e 80 (by decide), e 82 (by decide)]
  exact h
set_option maxHeartbeats 4000000 in
set_option maxRecDepth 100000 in
theorem k_sentBy {S : Nat} (hW : Wd T L P) (hV : MV I) (hS : S < 1024) (hF : FM I) : iX8_sentBy [.inr (some 54), .inl (S : Int)] T L P I hn (fun r J => r = some (.inl (FsM I S)) ∧ ∀ c, c ≠ 83 → J c = I c) := by
  refine CT.by (by decide) (Nat.le_of_ble_eq_true rfl) fun X Y Q hQ K hv => ?_
  have l57 : L 57 = 5 := hW.2.1 57 5 rfl (by decide)
  have l80 : L 80 = 5 := hW.2.1 80 5 rfl (by decide)
  have l82 : L 82 = 10 := hW.2.1 82 10 rfl (by decide)
  have l83 : L 83 = 5 := hW.2.1 83 5 rfl (by decide)
  obtain ⟨f1, f2, f3, f4⟩ := hF
  have hgi := gre_in (I 57) 5
  obtain ⟨g, hg⟩ : ∃ g : Nat, grM I = g := ⟨(grM I).toNat, by have := hgi.1; unfold grM at f4 ⊢; omega⟩
  have hg5 : g < 5 := by have := hgi.2.1; unfold grM at hg; omega
  have hwh : 0 ≤ whM I ∧ whM I ≤ 200 := by
    have := hV.1 g hg5
    unfold whM
    rw [hg, Int.toNat_natCast]; omega
  have ewh : whM I = 3 + I 57 g := by unfold whM; rw [hg, Int.toNat_natCast]
  have hbs : ∀ v, v < 5 → 0 ≤ (fun (v : Nat) => if (v : Int) = grM I then 0 else whM I) v ∧ (fun (v : Nat) => if (v : Int) = grM I then 0 else whM I) v ≤ 200 := fun v _ => by
    show 0 ≤ (if (v : Int) = grM I then 0 else whM I) ∧ (if (v : Int) = grM I then 0 else whM I) ≤ 200
    split <;> omega
  obtain ⟨b, hb⟩ : ∃ b, b = (fun (v : Nat) => if (v : Int) = grM I then 0 else whM I) := ⟨_, rfl⟩
  have hb0 : ∀ v : Nat, b v = if (v : Int) = grM I then 0 else whM I := fun v => by rw [hb]
  rw [← hb] at hbs
  obtain ⟨W, hWW⟩ : ∃ W, W = wyF S (I 82) b 10 := ⟨_, rfl⟩
  have hWi : ∀ v, v < 5 → 0 ≤ W v ∧ W v ≤ 200 := fun v hv => by rw [hWW]; exact wyF_in f2 hbs 10 (by decide) v hv
  have hsm := smF_in (dv := I 80) (w := W) (fun v hv => (f1 v hv).1) hWi
  have hres : FsM I S = smF (I 80) W 5 := by unfold FsM sntF; rw [hWW, hb]
  have hcut : ∀ v, v ≤ g → aF S (I 82) b W v (g - v) = W v := fun v hv => by
    have h1 := wy_all S (I 82) b v (by omega)
    rw [← hWW] at h1
    have h2 := aF_cut S (I 82) b W hg5 hv (fun k hk hgk => f3 k hk (by rw [hg]; omega)) (4 - g) (by omega)
    rw [show g - v + (4 - g) = 4 - v by omega] at h2
    rw [h1, h2]
  have htl : smF (I 80) W 5 = smF (I 80) W (g + 1) := by
    have h0 : ∀ v, g < v → v < g + 1 + (4 - g) → I 80 v = 0 := fun v h1 h2 => (f1 v (by omega)).2 (by
      have q := hgi.2.2.2 v (by omega) (by unfold grM at hg; rw [hg]; omega)
      have := (hV.1 v (by omega)).1
      omega)
    have h1 := smF_tail (dv := I 80) (w := W) (g := g) (4 - g) h0
    rw [show g + 1 + (4 - g) = 5 by omega] at h1
    exact h1
  have outer : ∀ (u : Nat) (z : Int) (g5 : Option PV) (J : Nat → Nat → Int), u ≤ g + 1 → z = (u : Int) - 1 → (∀ c, c ≠ 83 → J c = I c) → (∀ v, u ≤ v → v ≤ g → J 83 v = W v) → RR X Y Q 0 0 10 [some (.inr (some 54)), some (.inl (S : Int)), some (.inl (g : Int)), some (.inl (smF (I 80) W (g + 1) - smF (I 80) W u)), some (.inl z), g5] [] T L P J hn := by
    intro u
    induction u with
    | zero =>
      intro z g5 J hu hz h1 h2
      refine r_iload K dX8_sentBy_10 rfl ?_
      refine r_if_lt K 160 dX8_sentBy_12 (by decide) (fun c12 => ?_) (fun c12 => ?_)
      · refine r_iload_n K dX8_sentBy_160 rfl ?_
        exact q_iret K hQ rfl dX8_sentBy_161 (Nat.le_refl _) (Nat.le_refl _) (⟨rfl, rfl, rfl, rfl, by rw [hres, htl, smF, Int.sub_zero], h1⟩)
      · exact absurd c12 (by omega)
    | succ v ih =>
      intro z g5 J hu hz h1 h2
      have hz : z = (v : Int) := by omega
      subst hz
      have hvv := f1 v (by omega)
      have hsz := hV.1 v (by omega)
      have s1 := hsm v (by omega)
      have s2 := hsm (v + 1) (by omega)
      have s3 := hsm (g + 1) (by omega)
      have hs : smF (I 80) W (v + 1) = smF (I 80) W v + I 80 v * W v := rfl
      have hWv := hWi v (by omega)
      have inner : ∀ (e c : Nat) (J : Nat → Nat → Int), c + e = g + 1 → v < c → (∀ c, c ≠ 83 → J c = I c) → (∀ x, v + 1 ≤ x → x ≤ g → J 83 x = W x) → J 83 v = aF S (I 82) b W v (c - v - 1) → RR X Y Q 0 0 46 [some (.inr (some 54)), some (.inl (S : Int)), some (.inl (g : Int)), some (.inl (smF (I 80) W (g + 1) - smF (I 80) W (v + 1))), some (.inl (v : Int)), some (.inl (c : Int))] [] T L P J hn := by
        intro e
        induction e with
        | zero =>
          intro c J he hc h1 h2 h3
          have e83 : J 83 v = W v := by rw [h3, show c - v - 1 = g - v by omega]; exact hcut v (by omega)
          have hmul : 0 ≤ I 80 v * W v ∧ I 80 v * W v ≤ 200000 := by
            refine ⟨Int.mul_nonneg hvv.1.1 hWv.1, ?_⟩
            have := Int.mul_le_mul hvv.1.2 hWv.2 hWv.1 (by decide)
            omega
          have j154 : ∀ (z : Int), z = smF (I 80) W (g + 1) - smF (I 80) W v → RR X Y Q 0 0 154 [some (.inr (some 54)), some (.inl (S : Int)), some (.inl (g : Int)), some (.inl z), some (.inl (v : Int)), some (.inl (c : Int))] [] T L P J hn := by
            intro z hz
            subst hz
            refine r_iinc K dX8_sentBy_154 (by decide) rfl ?_
            refine r_goto K 10 dX8_sentBy_157 (by decide) ?_
            exact ih _ _ J (by omega) (by omega) h1 (fun x x1 x2 => by
              by_cases w : x = v
              · rw [w]; exact e83
              · exact h2 x (by omega) x2)
          refine r_iload K dX8_sentBy_46 rfl ?_
          refine r_iload_n K dX8_sentBy_48 rfl ?_
          refine r_icmp_gt K 126 dX8_sentBy_49 (by decide) (fun c49 => ?_) (fun c49 => ?_)
          · refine r_aload_n K dX8_sentBy_126 rfl ?_
            refine r_getR K dX8_sentBy_127 f_X8_16 rfl (by first | assumption | exact hW.1 _ _ rfl | exact hW.2.2.1 _ _ _ rfl) (by first | assumption | exact hW.1 _ _ rfl | exact hW.2.2.1 _ _ _ rfl) ?_
            refine r_iload K dX8_sentBy_130 rfl ?_
            refine r_iald K dX8_sentBy_132 (by first | assumption | exact hW.1 _ _ rfl | exact hW.2.2.1 _ _ _ rfl) (by omega) (by omega) ?_
            rw [h1 57 (by decide), Int.toNat_natCast]
            refine r_if_le K 154 dX8_sentBy_133 (by decide) (fun c133 => ?_) (fun c133 => ?_)
            · have h80 := hvv.2 (by omega)
              first
              | exact j154 _ (by rw [hs, h80, Int.zero_mul]; omega)
              | exact j154 _ (by omega)
            · refine r_iload_n K dX8_sentBy_136 rfl ?_
              refine r_aload_n K dX8_sentBy_137 rfl ?_
              refine r_getR K dX8_sentBy_138 f_X8_87 rfl (by first | assumption | exact hW.1 _ _ rfl | exact hW.2.2.1 _ _ _ rfl) (by first | assumption | exact hW.1 _ _ rfl | exact hW.2.2.1 _ _ _ rfl) ?_
              refine r_iload K dX8_sentBy_141 rfl ?_
              refine r_iald K dX8_sentBy_143 (by first | assumption | exact hW.1 _ _ rfl | exact hW.2.2.1 _ _ _ rfl) (by omega) (by omega) ?_
              rw [h1 80 (by decide), Int.toNat_natCast]
              refine r_aload_n K dX8_sentBy_144 rfl ?_
              refine r_getR K dX8_sentBy_145 f_X8_96 rfl (by first | assumption | exact hW.1 _ _ rfl | exact hW.2.2.1 _ _ _ rfl) (by first | assumption | exact hW.1 _ _ rfl | exact hW.2.2.1 _ _ _ rfl) ?_
              refine r_iload K dX8_sentBy_148 rfl ?_
              refine r_iald K dX8_sentBy_150 (by first | assumption | exact hW.1 _ _ rfl | exact hW.2.2.1 _ _ _ rfl) (by omega) (by omega) ?_
              rw [Int.toNat_natCast, e83]
              refine r_imul K dX8_sentBy_151 ?_
              refine r_iadd K dX8_sentBy_152 ?_
              refine r_istore_n K dX8_sentBy_153 (by decide) ?_
              first
              | exact j154 _ (by rw [hs, h80, Int.zero_mul]; omega)
              | exact j154 _ (by omega)
          · exact absurd c49 (by omega)
        | succ e ihe =>
          intro c J he hc h1 h2 h3
          have hpi := pIx_in (a := v) (b := c) hc (by omega)
          have hbit := zsbit (S := S) (k := pIx v c) hS hpi
          have hpc := f2 (pIx v c) hpi
          have haf := aF_in (S := S) f2 hbs hWi (v := v) (c - v - 1) (by omega)
          have hWc := hWi c (by omega)
          have haf2 : aF S (I 82) b W v (c + 1 - v - 1) = eW S (I 82) (pIx v c) (aF S (I 82) b W v (c - v - 1)) (W c) := by
            rw [show c + 1 - v - 1 = (c - v - 1) + 1 by omega, aF, show v + 1 + (c - v - 1) = c by omega]
          have j120 : ∀ (J : Nat → Nat → Int), (∀ c, c ≠ 83 → J c = I c) → (∀ x, v + 1 ≤ x → x ≤ g → J 83 x = W x) → J 83 v = aF S (I 82) b W v (c + 1 - v - 1) → RR X Y Q 0 0 120 [some (.inr (some 54)), some (.inl (S : Int)), some (.inl (g : Int)), some (.inl (smF (I 80) W (g + 1) - smF (I 80) W (v + 1))), some (.inl (v : Int)), some (.inl (c : Int))] [] T L P J hn := by
            intro J h1 h2 h3
            refine r_iinc K dX8_sentBy_120 (by decide) rfl ?_
            refine r_goto K 46 dX8_sentBy_123 (by decide) ?_
            exact ihe (c + 1) J (by omega) (by omega) h1 h2 h3
          refine r_iload K dX8_sentBy_46 rfl ?_
          refine r_iload_n K dX8_sentBy_48 rfl ?_
          refine r_icmp_gt K 126 dX8_sentBy_49 (by decide) (fun c49 => ?_) (fun c49 => ?_)
          · exact absurd c49 (by omega)
          · refine r_iload_n K dX8_sentBy_52 rfl ?_
            refine r_iload K dX8_sentBy_53 rfl ?_
            refine r_iload K dX8_sentBy_55 rfl ?_
            refine rcS2p K dX8_sentBy_57 c_X8_202 s_X8_pair (k_pair (a := v) (b := c) hc (by omega)) (by decide) (Nat.le_of_ble_eq_true rfl) ?_
            refine r_ishr K dX8_sentBy_60 ?_
            refine r_iconst K dX8_sentBy_61 ?_
            refine r_iand K dX8_sentBy_62 ?_
            rw [hbit]
            refine r_iconst K dX8_sentBy_63 ?_
            refine r_icmp_ne K 120 dX8_sentBy_64 (by decide) (fun c64 => ?_) (fun c64 => ?_)
            · have hnb : ¬ S.testBit (pIx v c) = true := fun q => by rw [if_pos q] at c64; exact absurd rfl c64
              first
              | (refine j120 _ (fun x hx => by rw [mI_ne hx]; exact h1 x hx) (fun x x1 x2 => by rw [mI_nj (by omega)]; exact h2 x x1 x2) ?_
                 rw [mI_eq, haf2, eW]
                 exact (if_pos ⟨hyb, c80⟩).symm)
              | exact j120 J h1 h2 (by rw [haf2, eW, if_neg (fun q => by first | exact hnb q.1 | exact q.2 c80)]; exact h3)
            · have hyb : S.testBit (pIx v c) = true := by
                by_cases q : S.testBit (pIx v c) = true
                · exact q
                · rw [if_neg q] at c64; exact absurd c64 (by decide)
              refine r_aload_n K dX8_sentBy_67 rfl ?_
              refine r_getR K dX8_sentBy_68 f_X8_93 rfl (by first | assumption | exact hW.1 _ _ rfl | exact hW.2.2.1 _ _ _ rfl) (by first | assumption | exact hW.1 _ _ rfl | exact hW.2.2.1 _ _ _ rfl) ?_
              refine r_iload K dX8_sentBy_71 rfl ?_
              refine r_iload K dX8_sentBy_73 rfl ?_
              refine rcS2p K dX8_sentBy_75 c_X8_202 s_X8_pair (k_pair (a := v) (b := c) hc (by omega)) (by decide) (Nat.le_of_ble_eq_true rfl) ?_
              refine r_iald K dX8_sentBy_78 (by first | assumption | exact hW.1 _ _ rfl | exact hW.2.2.1 _ _ _ rfl) (by omega) (by omega) ?_
              rw [h1 82 (by decide), Int.toNat_natCast]
              refine r_iconst K dX8_sentBy_79 ?_
              refine r_icmp_eq K 120 dX8_sentBy_80 (by decide) (fun c80 => ?_) (fun c80 => ?_)
              · first
                | (refine j120 _ (fun x hx => by rw [mI_ne hx]; exact h1 x hx) (fun x x1 x2 => by rw [mI_nj (by omega)]; exact h2 x x1 x2) ?_
                   rw [mI_eq, haf2, eW]
                   exact (if_pos ⟨hyb, c80⟩).symm)
                | exact j120 J h1 h2 (by rw [haf2, eW, if_neg (fun q => by first | exact hnb q.1 | exact q.2 c80)]; exact h3)
              · refine r_aload_n K dX8_sentBy_83 rfl ?_
                refine r_getR K dX8_sentBy_84 f_X8_96 rfl (by first | assumption | exact hW.1 _ _ rfl | exact hW.2.2.1 _ _ _ rfl) (by first | assumption | exact hW.1 _ _ rfl | exact hW.2.2.1 _ _ _ rfl) ?_
                refine r_iload K dX8_sentBy_87 rfl ?_
                refine r_aload_n K dX8_sentBy_89 rfl ?_
                refine r_getR K dX8_sentBy_90 f_X8_96 rfl (by first | assumption | exact hW.1 _ _ rfl | exact hW.2.2.1 _ _ _ rfl) (by first | assumption | exact hW.1 _ _ rfl | exact hW.2.2.1 _ _ _ rfl) ?_
                refine r_iload K dX8_sentBy_93 rfl ?_
                refine r_iald K dX8_sentBy_95 (by first | assumption | exact hW.1 _ _ rfl | exact hW.2.2.1 _ _ _ rfl) (by omega) (by omega) ?_
                rw [Int.toNat_natCast, h3]
                refine r_aload_n K dX8_sentBy_96 rfl ?_
                refine r_getR K dX8_sentBy_97 f_X8_93 rfl (by first | assumption | exact hW.1 _ _ rfl | exact hW.2.2.1 _ _ _ rfl) (by first | assumption | exact hW.1 _ _ rfl | exact hW.2.2.1 _ _ _ rfl) ?_
                refine r_iload K dX8_sentBy_100 rfl ?_
                refine r_iload K dX8_sentBy_102 rfl ?_
                refine rcS2p K dX8_sentBy_104 c_X8_202 s_X8_pair (k_pair (a := v) (b := c) hc (by omega)) (by decide) (Nat.le_of_ble_eq_true rfl) ?_
                refine r_iald K dX8_sentBy_107 (by first | assumption | exact hW.1 _ _ rfl | exact hW.2.2.1 _ _ _ rfl) (by omega) (by omega) ?_
                rw [h1 82 (by decide), Int.toNat_natCast]
                refine r_aload_n K dX8_sentBy_108 rfl ?_
                refine r_getR K dX8_sentBy_109 f_X8_96 rfl (by first | assumption | exact hW.1 _ _ rfl | exact hW.2.2.1 _ _ _ rfl) (by first | assumption | exact hW.1 _ _ rfl | exact hW.2.2.1 _ _ _ rfl) ?_
                refine r_iload K dX8_sentBy_112 rfl ?_
                refine r_iald K dX8_sentBy_114 (by first | assumption | exact hW.1 _ _ rfl | exact hW.2.2.1 _ _ _ rfl) (by omega) (by omega) ?_
                rw [Int.toNat_natCast, h2 c (by omega) (by omega)]
                refine r_iadd K dX8_sentBy_115 ?_
                refine r_min K dX8_sentBy_116 m_X8_111 (Nat.le_of_ble_eq_true rfl) (Nat.le_of_ble_eq_true rfl) (Nat.le_of_ble_eq_true rfl) (Nat.le_of_ble_eq_true rfl) ?_
                refine r_iast K dX8_sentBy_119 (by first | assumption | exact hW.1 _ _ rfl | exact hW.2.2.1 _ _ _ rfl) (by omega) (by omega) ?_
                rw [Int.toNat_natCast]
                first
                | (refine j120 _ (fun x hx => by rw [mI_ne hx]; exact h1 x hx) (fun x x1 x2 => by rw [mI_nj (by omega)]; exact h2 x x1 x2) ?_
                   rw [mI_eq, haf2, eW]
                   exact (if_pos ⟨hyb, c80⟩).symm)
                | exact j120 J h1 h2 (by rw [haf2, eW, if_neg (fun q => by first | exact hnb q.1 | exact q.2 c80)]; exact h3)
      have j39 : ∀ (z : Int), z = b v → RR X Y Q 0 0 39 [some (.inr (some 54)), some (.inl (S : Int)), some (.inl (g : Int)), some (.inl (smF (I 80) W (g + 1) - smF (I 80) W (v + 1))), some (.inl (v : Int)), g5] [.inl z, .inl (v : Int), .inr (some 83)] T L P J hn := by
        intro z hz
        refine r_iast K dX8_sentBy_39 (by first | assumption | exact hW.1 _ _ rfl | exact hW.2.2.1 _ _ _ rfl) (by omega) (by omega) ?_
        rw [Int.toNat_natCast]
        refine r_iload K dX8_sentBy_40 rfl ?_
        refine r_iconst K dX8_sentBy_42 ?_
        refine r_iadd K dX8_sentBy_43 ?_
        refine r_istore K dX8_sentBy_44 (by decide) ?_
        exact inner (g - v) (v + 1) _ (by omega) (by omega) (fun x hx => by rw [mI_ne hx]; exact h1 x hx) (fun x x1 x2 => by rw [mI_nj (by omega)]; exact h2 x x1 x2) (by rw [mI_eq, hz, show v + 1 - v - 1 = 0 by omega]; rfl)
      refine r_iload K dX8_sentBy_10 rfl ?_
      refine r_if_lt K 160 dX8_sentBy_12 (by decide) (fun c12 => ?_) (fun c12 => ?_)
      · exact absurd c12 (by omega)
      · refine r_aload_n K dX8_sentBy_15 rfl ?_
        refine r_getR K dX8_sentBy_16 f_X8_96 rfl (by first | assumption | exact hW.1 _ _ rfl | exact hW.2.2.1 _ _ _ rfl) (by first | assumption | exact hW.1 _ _ rfl | exact hW.2.2.1 _ _ _ rfl) ?_
        refine r_iload K dX8_sentBy_19 rfl ?_
        refine r_iload K dX8_sentBy_21 rfl ?_
        refine r_iload_n K dX8_sentBy_23 rfl ?_
        refine r_icmp_ne K 31 dX8_sentBy_24 (by decide) (fun c24 => ?_) (fun c24 => ?_)
        · refine r_iconst K dX8_sentBy_31 ?_
          refine r_aload_n K dX8_sentBy_32 rfl ?_
          refine r_getR K dX8_sentBy_33 f_X8_16 rfl (by first | assumption | exact hW.1 _ _ rfl | exact hW.2.2.1 _ _ _ rfl) (by first | assumption | exact hW.1 _ _ rfl | exact hW.2.2.1 _ _ _ rfl) ?_
          refine r_iload_n K dX8_sentBy_36 rfl ?_
          refine r_iald K dX8_sentBy_37 (by first | assumption | exact hW.1 _ _ rfl | exact hW.2.2.1 _ _ _ rfl) (by omega) (by omega) ?_
          rw [h1 57 (by decide), Int.toNat_natCast]
          refine r_iadd K dX8_sentBy_38 ?_
          rw [← ewh]
          first | exact j39 _ (by rw [hb0, if_pos (by omega)]) | exact j39 _ (by rw [hb0, if_neg (by omega)])
        · refine r_iconst K dX8_sentBy_27 ?_
          refine r_goto K 39 dX8_sentBy_28 (by decide) ?_
          first | exact j39 _ (by rw [hb0, if_pos (by omega)]) | exact j39 _ (by rw [hb0, if_neg (by omega)])
  refine r_aload_n K dX8_sentBy_0 rfl ?_
  refine rcV0p K dX8_sentBy_1 c_X8_208 v_X8_greatest (by first | assumption | exact hW.1 _ _ rfl | exact hW.2.2.1 _ _ _ rfl) (k_X8_greatest hW) (by decide) (Nat.le_of_ble_eq_true rfl) ?_
  rw [hg]
  refine r_istore_n K dX8_sentBy_4 (by decide) ?_
  refine r_iconst K dX8_sentBy_5 ?_
  refine r_istore_n K dX8_sentBy_6 (by decide) ?_
  refine r_iload_n K dX8_sentBy_7 rfl ?_
  refine r_istore K dX8_sentBy_8 (by decide) ?_
  have h0 := outer (g + 1) (g : Int) none I (Nat.le_refl _) (by omega) (fun _ _ => rfl) (fun v h1 h2 => absurd h1 (by omega))
  rw [Int.sub_self] at h0
  exact h0
end MOB
