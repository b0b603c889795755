section CHO
variable {T L : Nat → Nat} {P : Nat → Nat → Option Nat} {I : Nat → Nat → Int} {hn : Nat}

set_option maxHeartbeats 4000000 in
set_option maxRecDepth 100000 in
theorem k_chooseStep {i n : Nat} (hW : Wd T L P) (hi : i < n) (hn1 : n ≤ 120) (hl : ∀ j, i < j → j ≤ n → 0 ≤ I 13 j ∧ I 13 j ≤ 1000) (hc : I 10 7 ≤ (n - i : Nat)) (hs : I 10 9 ≤ (n - i : Nat)) (hg : 0 < I 10 9 → 0 ≤ I 10 10 ∧ I 10 10 < 120) :
    iX4_chooseStep [.inr (some 10), .inl (i : Int), .inl (n : Int)] T L P I hn (fun r J => r = none ∧ tPost I i (c2 (I 13) i (adC (I 13) i (1000000, 0, 0, 0, 0) (min 30 (n - i))) (I 10 7) (I 10 8) (I 10 9) (I 10 10) (I 12 (I 10 10).toNat)) J) := by
  refine CT.by (by decide) (Nat.le_of_ble_eq_true rfl) fun X Y Q hQ K hv => ?_
  have l13 : L 13 = 121 := hW.2.1 13 121 rfl (by decide)
  have l12 : L 12 = 120 := hW.2.1 12 120 rfl (by decide)
  obtain ⟨kn, hkn⟩ : ∃ kn, kn = min 30 (n - i) := ⟨_, rfl⟩
  have hst : adC (I 13) i (1000000, I 14 i, I 15 i, I 16 i, I 17 i) kn = adC (I 13) i (1000000, 0, 0, 0, 0) kn := by
    obtain ⟨k, rfl⟩ : ∃ k, kn = k + 1 := ⟨kn - 1, by omega⟩
    exact adC_stale rfl rfl (by have := hl (i + 1) (by omega) (by omega); omega) k
  rw [← hkn, ← hst] at hQ
  have keep : ∀ {J : Nat → Nat → Int} {c : Ch}, tPost I i c J → J 10 = I 10 ∧ J 12 = I 12 ∧ ∀ j, j ≠ i → J 13 j = I 13 j := fun h => ⟨h.1 10 (by omega), h.1 12 (by omega), fun j hj => h.2.1 13 j (by omega) (by omega) hj⟩
  have next : ∀ {J J1 : Nat → Nat → Int} {c c' : Ch}, tPost I i c J → tPost J i c' J1 → tPost I i c' J1 := fun h h' => ⟨fun b hb => (h'.1 b hb).trans (h.1 b hb), fun b j h1 h2 h3 => (h'.2.1 b j h1 h2 h3).trans (h.2.1 b j h1 h2 h3), h'.2.2⟩
  have tr : ∀ {J : Nat → Nat → Int} {c : Ch} {kd z p d : Int}, tPost I i c J → (kd = 0 ∨ kd = 1 ∨ kd = 2) → 1 ≤ z → z ≤ (n - i : Nat) → iX4_tryStep [.inr (some 10), .inl (i : Int), .inl kd, .inl z, .inl p, .inl d] T L P J hn (fun r J1 => r = none ∧ tPost J i (try1 c kd z p d (spr kd z + I 13 (i + z.toNat))) J1) := by
    intro J c kd z p d h hk h1 h2
    obtain ⟨-, -, k3⟩ := keep h
    have e := k3 (i + z.toNat) (by omega)
    have b := hl (i + z.toNat) (by omega) (by omega)
    have := k_tryStep (T := T) (L := L) (P := P) (I := J) (hn := hn) (i := i) (kd := kd) (n := z) (p := p) (d := d) hW hk h1 (by omega) (by omega) (by omega)
    rw [e, h.2.2] at this
    exact this
  have j94 : ∀ (J : Nat → Nat → Int) (g3 g4 : Option PV), tPost I i (c2 (I 13) i (adC (I 13) i (1000000, I 14 i, I 15 i, I 16 i, I 17 i) kn) (I 10 7) (I 10 8) (I 10 9) (I 10 10) (I 12 (I 10 10).toNat)) J → RR X Y Q 0 0 94 [some (.inr (some 10)), some (.inl (i : Int)), some (.inl (n : Int)), g3, g4] [] T L P J hn := by
    intro J g3 g4 h
    exact q_vret K hQ rfl dX4_chooseStep_94 (Nat.le_refl _) (Nat.le_refl _) (⟨rfl, rfl, rfl, rfl, rfl, h⟩)
  have j72 : ∀ (J : Nat → Nat → Int) (g3 g4 : Option PV), tPost I i (if 0 < I 10 9 then try1 (adC (I 13) i (1000000, I 14 i, I 15 i, I 16 i, I 17 i) kn) 1 (I 10 9) (I 10 10) (I 12 (I 10 10).toNat) (5 + I 13 (i + (I 10 9).toNat)) else (adC (I 13) i (1000000, I 14 i, I 15 i, I 16 i, I 17 i) kn)) J → RR X Y Q 0 0 72 [some (.inr (some 10)), some (.inl (i : Int)), some (.inl (n : Int)), g3, g4] [] T L P J hn := by
    intro J g3 g4 h
    obtain ⟨k1, k2, k3⟩ := keep h
    refine r_aload_n K dX4_chooseStep_72 rfl ?_
    refine r_getI K dX4_chooseStep_73 f_X4_59 rfl (by first | assumption | exact hW.1 _ _ rfl | exact hW.2.2.1 _ _ _ rfl) ?_
    try rw [k1]
    refine r_if_le K 94 dX4_chooseStep_76 (by decide) (fun c76 => ?_) (fun c76 => ?_)
    · first
        | exact j94 _ _ _ (by rw [c2]; (try simp only []); rw [if_neg (by omega)]; exact h)
        | exact j94 _ _ _ (by rw [c2]; (try simp only []); rw [if_pos c76]; exact next h hJ1)
    · refine r_aload_n K dX4_chooseStep_79 rfl ?_
      refine r_iload_n K dX4_chooseStep_80 rfl ?_
      refine r_iconst K dX4_chooseStep_81 ?_
      refine r_aload_n K dX4_chooseStep_82 rfl ?_
      refine r_getI K dX4_chooseStep_83 f_X4_59 rfl (by first | assumption | exact hW.1 _ _ rfl | exact hW.2.2.1 _ _ _ rfl) ?_
      try rw [k1]
      refine r_aload_n K dX4_chooseStep_86 rfl ?_
      refine r_getI K dX4_chooseStep_87 f_X4_65 rfl (by first | assumption | exact hW.1 _ _ rfl | exact hW.2.2.1 _ _ _ rfl) ?_
      try rw [k1]
      refine r_iconst K dX4_chooseStep_90 ?_
      refine rcV5i K dX4_chooseStep_91 c_X4_78 v_X4_tryStep (by first | assumption | exact hW.1 _ _ rfl | exact hW.2.2.1 _ _ _ rfl) (tr h (Or.inl rfl) (by omega) (by omega)) (by decide) (Nat.le_of_ble_eq_true rfl) ?_
      rintro _ J1 ⟨rfl, hJ1⟩
      first
        | exact j94 _ _ _ (by rw [c2]; (try simp only []); rw [if_neg (by omega)]; exact h)
        | exact j94 _ _ _ (by rw [c2]; (try simp only []); rw [if_pos c76]; exact next h hJ1)
  have j42 : ∀ (J : Nat → Nat → Int) (g3 g4 : Option PV), tPost I i (adC (I 13) i (1000000, I 14 i, I 15 i, I 16 i, I 17 i) kn) J → RR X Y Q 0 0 42 [some (.inr (some 10)), some (.inl (i : Int)), some (.inl (n : Int)), g3, g4] [] T L P J hn := by
    intro J g3 g4 h
    obtain ⟨k1, k2, k3⟩ := keep h
    refine r_aload_n K dX4_chooseStep_42 rfl ?_
    refine r_getI K dX4_chooseStep_43 f_X4_62 rfl (by first | assumption | exact hW.1 _ _ rfl | exact hW.2.2.1 _ _ _ rfl) ?_
    try rw [k1]
    refine r_if_le K 72 dX4_chooseStep_46 (by decide) (fun c46 => ?_) (fun c46 => ?_)
    · first
        | exact j72 _ _ _ (by rw [if_neg (by omega)]; exact h)
        | exact j72 _ _ _ (by rw [if_pos c46]; exact next h hJ1)
    · have hgg := hg c46
      refine r_aload_n K dX4_chooseStep_49 rfl ?_
      refine r_iload_n K dX4_chooseStep_50 rfl ?_
      refine r_iconst K dX4_chooseStep_51 ?_
      refine r_aload_n K dX4_chooseStep_52 rfl ?_
      refine r_getI K dX4_chooseStep_53 f_X4_62 rfl (by first | assumption | exact hW.1 _ _ rfl | exact hW.2.2.1 _ _ _ rfl) ?_
      try rw [k1]
      refine r_aload_n K dX4_chooseStep_56 rfl ?_
      refine r_getI K dX4_chooseStep_57 f_X4_68 rfl (by first | assumption | exact hW.1 _ _ rfl | exact hW.2.2.1 _ _ _ rfl) ?_
      try rw [k1]
      refine r_aload_n K dX4_chooseStep_60 rfl ?_
      refine r_getR K dX4_chooseStep_61 f_X4_15 rfl (by first | assumption | exact hW.1 _ _ rfl | exact hW.2.2.1 _ _ _ rfl) (by first | assumption | exact hW.1 _ _ rfl | exact hW.2.2.1 _ _ _ rfl) ?_
      try rw [k1]
      refine r_aload_n K dX4_chooseStep_64 rfl ?_
      refine r_getI K dX4_chooseStep_65 f_X4_68 rfl (by first | assumption | exact hW.1 _ _ rfl | exact hW.2.2.1 _ _ _ rfl) ?_
      try rw [k1]
      refine r_iald K dX4_chooseStep_68 (by first | assumption | exact hW.1 _ _ rfl | exact hW.2.2.1 _ _ _ rfl) (by omega) (by omega) ?_
      try rw [k1]
      rw [k2]
      refine rcV5i K dX4_chooseStep_69 c_X4_78 v_X4_tryStep (by first | assumption | exact hW.1 _ _ rfl | exact hW.2.2.1 _ _ _ rfl) (tr h (Or.inr (Or.inl rfl)) (by omega) (by omega)) (by decide) (Nat.le_of_ble_eq_true rfl) ?_
      rintro _ J1 ⟨rfl, hJ1⟩
      first
        | exact j72 _ _ _ (by rw [if_neg (by omega)]; exact h)
        | exact j72 _ _ _ (by rw [if_pos c46]; exact next h hJ1)
  have loop : ∀ (d k : Nat) (z : Int) (J : Nat → Nat → Int), z = k + 1 → kn - k = d → k ≤ kn → tPost I i (adC (I 13) i (1000000, I 14 i, I 15 i, I 16 i, I 17 i) k) J → RR X Y Q 0 0 20 [some (.inr (some 10)), some (.inl (i : Int)), some (.inl (n : Int)), some (.inl (kn : Int)), some (.inl z)] [] T L P J hn := by
    intro d
    induction d using Nat.strongRecOn with
    | ind d ih =>
      intro k z J hz hd hk h
      refine r_iload K dX4_chooseStep_20 rfl ?_
      refine r_iload_n K dX4_chooseStep_22 rfl ?_
      refine r_icmp_gt K 42 dX4_chooseStep_23 (by decide) (fun c23 => ?_) (fun c23 => ?_)
      · have : k = kn := by omega
        subst this
        exact j42 _ _ _ h
      · refine r_aload_n K dX4_chooseStep_26 rfl ?_
        refine r_iload_n K dX4_chooseStep_27 rfl ?_
        refine r_iconst K dX4_chooseStep_28 ?_
        refine r_iload K dX4_chooseStep_29 rfl ?_
        refine r_iload_n K dX4_chooseStep_31 rfl ?_
        refine r_iconst K dX4_chooseStep_32 ?_
        refine rcV5i K dX4_chooseStep_33 c_X4_78 v_X4_tryStep (by first | assumption | exact hW.1 _ _ rfl | exact hW.2.2.1 _ _ _ rfl) (tr h (Or.inr (Or.inr rfl)) (by omega) (by omega)) (by decide) (Nat.le_of_ble_eq_true rfl) ?_
        rintro _ J1 ⟨rfl, hJ1⟩
        refine r_iinc K dX4_chooseStep_36 (by decide) rfl ?_
        refine r_goto K 20 dX4_chooseStep_39 (by decide) ?_
        refine ih _ (by omega) (k + 1) _ J1 (by omega) rfl (by omega) (next h ?_)
        rw [adC]
        rw [hz, show i + ((k : Int) + 1).toNat = i + k + 1 by omega] at hJ1
        exact hJ1
  refine r_aload_n K dX4_chooseStep_0 rfl ?_
  refine r_getR K dX4_chooseStep_1 f_X4_18 rfl (by first | assumption | exact hW.1 _ _ rfl | exact hW.2.2.1 _ _ _ rfl) (by first | assumption | exact hW.1 _ _ rfl | exact hW.2.2.1 _ _ _ rfl) ?_
  refine r_iload_n K dX4_chooseStep_4 rfl ?_
  refine r_ldc (n := 1000000) K dX4_chooseStep_5 k_X4_71 rfl ?_
  refine r_iast K dX4_chooseStep_7 (by first | assumption | exact hW.1 _ _ rfl | exact hW.2.2.1 _ _ _ rfl) (by omega) (by omega) ?_
  refine r_bipush K dX4_chooseStep_8 ?_
  refine r_iload_n K dX4_chooseStep_10 rfl ?_
  refine r_iload_n K dX4_chooseStep_11 rfl ?_
  refine r_isub K dX4_chooseStep_12 ?_
  refine r_min K dX4_chooseStep_13 m_X4_72 (Nat.le_of_ble_eq_true rfl) (Nat.le_of_ble_eq_true rfl) (Nat.le_of_ble_eq_true rfl) (Nat.le_of_ble_eq_true rfl) ?_
  rw [show (if (n : Int) - (i : Int) < 30 then (n : Int) - (i : Int) else 30) = (kn : Int) by split <;> omega]
  refine r_istore_n K dX4_chooseStep_16 (by decide) ?_
  refine r_iconst K dX4_chooseStep_17 ?_
  refine r_istore K dX4_chooseStep_18 (by decide) ?_
  refine loop _ 0 1 _ (by omega) rfl (by omega) ⟨fun b hb => mI_ne (by omega), fun b j h1 h2 h3 => ?_, ?_⟩
  · simp only [Int.toNat_natCast]
    exact mI_off h3
  · simp only [mem5, adC, mI_row, mI_ne, ne_eq, not_false_eq_true, Nat.reduceEqDiff, Int.toNat_natCast, if_true]
end CHO
