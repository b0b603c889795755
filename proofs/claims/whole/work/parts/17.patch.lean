def spr (k n : Int) : Int := if k = 0 then 4 else if k = 1 then 5 else 1 + n
section PAT
variable {T L : Nat → Nat} {P : Nat → Nat → Option Nat} {I : Nat → Nat → Int} {hn a k0 k1 k2 k3 : Nat}

set_option maxHeartbeats 4000000 in
set_option maxRecDepth 100000 in
theorem k_stepPrice {kd n : Int} (hk : kd = 0 ∨ kd = 1 ∨ kd = 2) (h1 : 0 ≤ n) (h2 : n ≤ 1000) : pX7_stepPrice [.inl kd, .inl n] T L P I hn (.inl (spr kd n)) := by
  refine CT.by (by decide) (Nat.le_of_ble_eq_true rfl) fun X Y Q hQ K hv => ?_
  refine r_iload_n K dX7_stepPrice_0 rfl ?_
  rcases hk with rfl | rfl | rfl
  · refine r_lookup K 28 dX7_stepPrice_1 rfl rfl (by decide) ?_
    refine r_iconst K dX7_stepPrice_28 ?_
    exact q_iret K hQ rfl dX7_stepPrice_29 (Nat.le_refl _) (Nat.le_refl _) (⟨rfl, rfl, rfl, rfl, rfl, rfl⟩)
  · refine r_lookup K 30 dX7_stepPrice_1 rfl rfl (by decide) ?_
    refine r_iconst K dX7_stepPrice_30 ?_
    exact q_iret K hQ rfl dX7_stepPrice_31 (Nat.le_refl _) (Nat.le_refl _) (⟨rfl, rfl, rfl, rfl, rfl, rfl⟩)
  · refine r_lookup K 32 dX7_stepPrice_1 rfl rfl (by decide) ?_
    refine r_iconst K dX7_stepPrice_32 ?_
    refine r_iload_n K dX7_stepPrice_33 rfl ?_
    refine r_iadd K dX7_stepPrice_34 ?_
    exact q_iret K hQ rfl dX7_stepPrice_35 (Nat.le_refl _) (Nat.le_refl _) (⟨rfl, rfl, rfl, rfl, rfl, rfl⟩)
set_option maxHeartbeats 4000000 in
set_option maxRecDepth 100000 in
theorem k_X3_clear (h1 : T a = 3) : iX3_clear [.inr (some a)] T L P I hn (fun r J => r = none ∧ J = mI (mI I a 4 0) a 5 3) := by
  refine CT.by (by decide) (Nat.le_of_ble_eq_true rfl) fun X Y Q hQ K hv => ?_
  refine r_aload_n K dX3_clear_0 rfl ?_
  refine r_iconst K dX3_clear_1 ?_
  refine r_putI K dX3_clear_2 f_X3_24 rfl rfl (Or.inl rfl) (by assumption) ?_
  refine r_aload_n K dX3_clear_5 rfl ?_
  refine r_iconst K dX3_clear_6 ?_
  refine r_putI K dX3_clear_7 f_X3_28 rfl rfl (Or.inl rfl) (by assumption) ?_
  exact q_vret K hQ rfl dX3_clear_10 (Nat.le_refl _) (Nat.le_refl _) (⟨rfl, rfl, rfl, rfl, rfl, rfl⟩)
set_option maxHeartbeats 4000000 in
set_option maxRecDepth 100000 in
theorem k_X3_append {kd n p d : Int} (h1 : T a = 3) (p0 : P a 0 = some k0) (p1 : P a 1 = some k1) (p2 : P a 2 = some k2) (p3 : P a 3 = some k3) (t0 : T k0 = 10) (t1 : T k1 = 10) (t2 : T k2 = 10) (t3 : T k3 = 10) (l0 : L k0 = 120) (l1 : L k1 = 120) (l2 : L k2 = 120) (l3 : L k3 = 120) (hk : kd = 0 ∨ kd = 1 ∨ kd = 2) (hs0 : 0 ≤ I a 4) (hs1 : I a 4 < 120) (hp0 : 0 ≤ I a 5) (hp1 : I a 5 ≤ 100000) (hn0 : 0 ≤ n) (hn1 : n ≤ 120) : iX3_append [.inr (some a), .inl kd, .inl n, .inl p, .inl d] T L P I hn (fun r J => r = none ∧ J = mI (mI (mI (mI (mI (mI I k0 (I a 4).toNat kd) k1 (I a 4).toNat n) k2 (I a 4).toNat p) k3 (I a 4).toNat d) a 4 (I a 4 + 1)) a 5 (I a 5 + spr kd n)) := by
  refine CT.by (by decide) (Nat.le_of_ble_eq_true rfl) fun X Y Q hQ K hv => ?_
  have e0 : a ≠ k0 := fun e => by rw [e] at h1; omega
  have e1 : a ≠ k1 := fun e => by rw [e] at h1; omega
  have e2 : a ≠ k2 := fun e => by rw [e] at h1; omega
  have e3 : a ≠ k3 := fun e => by rw [e] at h1; omega
  have hsp : 0 ≤ spr kd n ∧ spr kd n ≤ 121 := by
    unfold spr
    rcases hk with rfl | rfl | rfl <;> simp <;> omega
  refine r_aload_n K dX3_append_0 rfl ?_
  refine r_getI K dX3_append_1 f_X3_24 rfl (by assumption) ?_
  refine r_bipush K dX3_append_4 ?_
  refine r_icmp_lt K 10 dX3_append_6 (by decide) (fun c6 => ?_) (fun c6 => ?_)
  · refine r_aload_n K dX3_append_10 rfl ?_
    refine r_getR K dX3_append_11 f_X3_9 rfl (by assumption) (by assumption) ?_
    refine r_aload_n K dX3_append_14 rfl ?_
    refine r_getI K dX3_append_15 f_X3_24 rfl (by assumption) ?_
    refine r_iload_n K dX3_append_18 rfl ?_
    refine r_iast K dX3_append_19 (by assumption) (by omega) (by omega) ?_
    refine r_aload_n K dX3_append_20 rfl ?_
    refine r_getR K dX3_append_21 f_X3_15 rfl (by assumption) (by assumption) ?_
    try simp only [mI_row, mI_ne, mR_eq, mR_ne, ne_eq, not_false_eq_true, e0, e1, e2, e3]
    refine r_aload_n K dX3_append_24 rfl ?_
    refine r_getI K dX3_append_25 f_X3_24 rfl (by assumption) ?_
    try simp only [mI_row, mI_ne, mR_eq, mR_ne, ne_eq, not_false_eq_true, e0, e1, e2, e3]
    refine r_iload_n K dX3_append_28 rfl ?_
    refine r_iast K dX3_append_29 (by assumption) (by omega) (by omega) ?_
    refine r_aload_n K dX3_append_30 rfl ?_
    refine r_getR K dX3_append_31 f_X3_18 rfl (by assumption) (by assumption) ?_
    try simp only [mI_row, mI_ne, mR_eq, mR_ne, ne_eq, not_false_eq_true, e0, e1, e2, e3]
    refine r_aload_n K dX3_append_34 rfl ?_
    refine r_getI K dX3_append_35 f_X3_24 rfl (by assumption) ?_
    try simp only [mI_row, mI_ne, mR_eq, mR_ne, ne_eq, not_false_eq_true, e0, e1, e2, e3]
    refine r_iload_n K dX3_append_38 rfl ?_
    refine r_iast K dX3_append_39 (by assumption) (by omega) (by omega) ?_
    refine r_aload_n K dX3_append_40 rfl ?_
    refine r_getR K dX3_append_41 f_X3_21 rfl (by assumption) (by assumption) ?_
    try simp only [mI_row, mI_ne, mR_eq, mR_ne, ne_eq, not_false_eq_true, e0, e1, e2, e3]
    refine r_aload_n K dX3_append_44 rfl ?_
    refine r_getI K dX3_append_45 f_X3_24 rfl (by assumption) ?_
    try simp only [mI_row, mI_ne, mR_eq, mR_ne, ne_eq, not_false_eq_true, e0, e1, e2, e3]
    refine r_iload K dX3_append_48 rfl ?_
    refine r_iast K dX3_append_50 (by assumption) (by omega) (by omega) ?_
    refine r_aload_n K dX3_append_51 rfl ?_
    refine r_dup K dX3_append_52 ?_
    refine r_getI K dX3_append_53 f_X3_24 rfl (by assumption) ?_
    try simp only [mI_row, mI_ne, mR_eq, mR_ne, ne_eq, not_false_eq_true, e0, e1, e2, e3]
    refine r_iconst K dX3_append_56 ?_
    refine r_iadd K dX3_append_57 ?_
    refine r_putI K dX3_append_58 f_X3_24 rfl rfl (Or.inl rfl) (by assumption) ?_
    refine r_aload_n K dX3_append_61 rfl ?_
    refine r_dup K dX3_append_62 ?_
    refine r_getI K dX3_append_63 f_X3_28 rfl (by assumption) ?_
    try simp only [mI_row, mI_ne, mR_eq, mR_ne, ne_eq, not_false_eq_true, e0, e1, e2, e3]
    refine r_iload_n K dX3_append_66 rfl ?_
    refine r_iload_n K dX3_append_67 rfl ?_
    refine rcS2p K dX3_append_68 c_X3_31 s_X7_stepPrice (k_stepPrice hk hn0 (by omega)) (by decide) (Nat.le_of_ble_eq_true rfl) ?_
    refine r_iadd K dX3_append_71 ?_
    refine r_putI K dX3_append_72 f_X3_28 rfl rfl (Or.inl rfl) (by assumption) ?_
    exact q_vret K hQ rfl dX3_append_75 (Nat.le_refl _) (Nat.le_refl _) (⟨rfl, rfl, rfl, rfl, rfl, rfl⟩)
  · exact absurd c6 (by omega)
/-- what a patch's tell answers: its steps, and what step k is -/
def ptell (st : Int) (f0 f1 f2 f3 : Nat → Int) (k what : Int) : Int :=
  if k = -1 then st else if k < 0 ∨ st ≤ k then -1 else if what = 0 then f0 k.toNat else if what = 1 then f1 k.toNat else if what = 2 then f2 k.toNat else if what = 3 then f3 k.toNat else -1
set_option maxHeartbeats 4000000 in
set_option maxRecDepth 100000 in
theorem k_X3_tell {k what : Int} (h1 : T a = 3) (p0 : P a 0 = some k0) (p1 : P a 1 = some k1) (p2 : P a 2 = some k2) (p3 : P a 3 = some k3) (t0 : T k0 = 10) (t1 : T k1 = 10) (t2 : T k2 = 10) (t3 : T k3 = 10) (l0 : L k0 = 120) (l1 : L k1 = 120) (l2 : L k2 = 120) (l3 : L k3 = 120) (hs1 : I a 4 ≤ 120) : pX3_tell [.inr (some a), .inl k, .inl what] T L P I hn (.inl (ptell (I a 4) (I k0) (I k1) (I k2) (I k3) k what)) := by
  refine CT.by (by decide) (Nat.le_of_ble_eq_true rfl) fun X Y Q hQ K hv => ?_
  refine r_iload_n K dX3_tell_0 rfl ?_
  refine r_iconst K dX3_tell_1 ?_
  refine r_icmp_ne K 10 dX3_tell_2 (by decide) (fun c2 => ?_) (fun c2 => ?_)
  · refine r_iload_n K dX3_tell_10 rfl ?_
    refine r_if_lt K 22 dX3_tell_11 (by decide) (fun c11 => ?_) (fun c11 => ?_)
    · refine r_iconst K dX3_tell_22 ?_
      exact q_iret K hQ rfl dX3_tell_23 (Nat.le_refl _) (Nat.le_refl _) (⟨by simp only [ptell]; rw [if_neg (by omega), if_pos (by omega)], rfl, rfl, rfl, rfl, rfl⟩)
    · refine r_iload_n K dX3_tell_14 rfl ?_
      refine r_aload_n K dX3_tell_15 rfl ?_
      refine r_getI K dX3_tell_16 f_X3_24 rfl (by assumption) ?_
      refine r_icmp_lt K 24 dX3_tell_19 (by decide) (fun c19 => ?_) (fun c19 => ?_)
      · refine r_iload_n K dX3_tell_24 rfl ?_
        rcases (by omega : what = 0 ∨ what = 1 ∨ what = 2 ∨ what = 3 ∨ (what < 0 ∨ 3 < what)) with hw | hw | hw | hw | hw
        · refine r_tableIn K 56 dX3_tell_25 (by omega) (by omega) (by rw [show what = 0 by omega]; rfl) (by decide) ?_
          refine r_aload_n K dX3_tell_56 rfl ?_
          refine r_getR K dX3_tell_57 f_X3_9 rfl (by assumption) (by assumption) ?_
          refine r_iload_n K dX3_tell_60 rfl ?_
          refine r_iald K dX3_tell_61 (by assumption) (by omega) (by omega) ?_
          exact q_iret K hQ rfl dX3_tell_62 (Nat.le_refl _) (Nat.le_refl _) (⟨by simp only [ptell]; rw [if_neg (by omega), if_neg (by omega), if_pos (by omega)], rfl, rfl, rfl, rfl, rfl⟩)
        · refine r_tableIn K 63 dX3_tell_25 (by omega) (by omega) (by rw [show what = 1 by omega]; rfl) (by decide) ?_
          refine r_aload_n K dX3_tell_63 rfl ?_
          refine r_getR K dX3_tell_64 f_X3_15 rfl (by assumption) (by assumption) ?_
          refine r_iload_n K dX3_tell_67 rfl ?_
          refine r_iald K dX3_tell_68 (by assumption) (by omega) (by omega) ?_
          exact q_iret K hQ rfl dX3_tell_69 (Nat.le_refl _) (Nat.le_refl _) (⟨by simp only [ptell]; rw [if_neg (by omega), if_neg (by omega), if_neg (by omega), if_pos (by omega)], rfl, rfl, rfl, rfl, rfl⟩)
        · refine r_tableIn K 70 dX3_tell_25 (by omega) (by omega) (by rw [show what = 2 by omega]; rfl) (by decide) ?_
          refine r_aload_n K dX3_tell_70 rfl ?_
          refine r_getR K dX3_tell_71 f_X3_18 rfl (by assumption) (by assumption) ?_
          refine r_iload_n K dX3_tell_74 rfl ?_
          refine r_iald K dX3_tell_75 (by assumption) (by omega) (by omega) ?_
          exact q_iret K hQ rfl dX3_tell_76 (Nat.le_refl _) (Nat.le_refl _) (⟨by simp only [ptell]; rw [if_neg (by omega), if_neg (by omega), if_neg (by omega), if_neg (by omega), if_pos (by omega)], rfl, rfl, rfl, rfl, rfl⟩)
        · refine r_tableIn K 77 dX3_tell_25 (by omega) (by omega) (by rw [show what = 3 by omega]; rfl) (by decide) ?_
          refine r_aload_n K dX3_tell_77 rfl ?_
          refine r_getR K dX3_tell_78 f_X3_21 rfl (by assumption) (by assumption) ?_
          refine r_iload_n K dX3_tell_81 rfl ?_
          refine r_iald K dX3_tell_82 (by assumption) (by omega) (by omega) ?_
          exact q_iret K hQ rfl dX3_tell_83 (Nat.le_refl _) (Nat.le_refl _) (⟨by simp only [ptell]; rw [if_neg (by omega), if_neg (by omega), if_neg (by omega), if_neg (by omega), if_neg (by omega), if_pos (by omega)], rfl, rfl, rfl, rfl, rfl⟩)
        · refine r_tableOut K 84 dX3_tell_25 hw (by decide) ?_
          refine r_iconst K dX3_tell_84 ?_
          exact q_iret K hQ rfl dX3_tell_85 (Nat.le_refl _) (Nat.le_refl _) (⟨by simp only [ptell]; rw [if_neg (by omega), if_neg (by omega), if_neg (by omega), if_neg (by omega), if_neg (by omega), if_neg (by omega)], rfl, rfl, rfl, rfl, rfl⟩)
      · refine r_iconst K dX3_tell_22 ?_
        exact q_iret K hQ rfl dX3_tell_23 (Nat.le_refl _) (Nat.le_refl _) (⟨by simp only [ptell]; rw [if_neg (by omega), if_pos (by omega)], rfl, rfl, rfl, rfl, rfl⟩)
  · refine r_aload_n K dX3_tell_5 rfl ?_
    refine r_getI K dX3_tell_6 f_X3_24 rfl (by assumption) ?_
    exact q_iret K hQ rfl dX3_tell_9 (Nat.le_refl _) (Nat.le_refl _) (⟨by simp only [ptell]; rw [if_pos (by omega)], rfl, rfl, rfl, rfl, rfl⟩)
end PAT
