section DE2
variable {T L : Nat → Nat} {P : Nat → Nat → Option Nat} {I : Nat → Nat → Int} {hn : Nat}
theorem cn_kth {f : Nat → Bool} {k : Int} (h0 : 0 ≤ k) : ∀ {n : Nat}, k < cn f n → ∃ p, p < n ∧ f p = true ∧ cn f p = k
  | 0, h => by rw [cn] at h; omega
  | n + 1, h => by
    rcases Int.lt_or_le k (cn f n) with e | e
    · obtain ⟨p, a, b, c⟩ := cn_kth h0 e
      exact ⟨p, by omega, b, c⟩
    · rw [cn] at h
      cases hf : f n with
      | true => exact ⟨n, by omega, hf, by rw [hf] at h; simp at h; omega⟩
      | false => rw [hf] at h; simp at h; omega
theorem cn_mono (f : Nat → Bool) {a b : Nat} (h : a ≤ b) : cn f a ≤ cn f b := by
  induction b with
  | zero => have : a = 0 := by omega
            subst this; exact Int.le_refl _
  | succ b ih =>
    by_cases e : a = b + 1
    · subst e; exact Int.le_refl _
    · have := ih (by omega)
      rw [cn]
      split <;> omega
theorem cn_lt {f : Nat → Bool} {a b : Nat} (h : a < b) (hf : f a = true) : cn f a < cn f b := by
  have := cn_mono f (a := a + 1) (b := b) h
  rw [cn, hf] at this
  simp at this
  omega

set_option maxHeartbeats 4000000 in
set_option maxRecDepth 100000 in
theorem k_load {v : Nat} (hW : Wd T L P) (hV : VS I) (hv : v < 5) : iX1_load [.inr (some 41), .inr (some (18 + 2 * v))] T L P I hn (fun r J => r = none ∧ J = mI (mI (mI (mR I 43 (fun j => if j < (I (18 + 2 * v) 1).toNat then I (19 + 2 * v) j else if j < 120 then 0 else I 43 j)) 42 1 (I (18 + 2 * v) 1)) 41 9 0) 41 10 0) := by
  refine CT.by (by decide) (Nat.le_of_ble_eq_true rfl) fun X Y Q hQ K hvv => ?_
  have l43 : L 43 = 120 := hW.2.1 43 120 rfl (by decide)
  have l45 : L 45 = 120 := hW.2.1 45 120 rfl (by decide)
  have l46 : L 46 = 120 := hW.2.1 46 120 rfl (by decide)
  have l47 : L 47 = 120 := hW.2.1 47 120 rfl (by decide)
  have l48 : L 48 = 120 := hW.2.1 48 120 rfl (by decide)
  have l49 : L 49 = 120 := hW.2.1 49 120 rfl (by decide)
  obtain ⟨w1, w2, w3, w4, w5⟩ := hW.ver hv
  have hvs := hV v hv
  have htf := k_takeFirst (T := T) (L := L) (P := P) (I := I) (hn := hn) (a := 42) (v := 43) (b := 18 + 2 * v) (w := 19 + 2 * v) (n := I (18 + 2 * v) 1) (hW.1 _ _ rfl) (hW.2.2.1 _ _ _ rfl) (hW.1 _ _ rfl) (by omega) w2 w3 w4 (by omega) (by omega) (by omega) (by omega)
  rw [l43] at htf
  refine r_aload_n K dX1_load_0 rfl ?_
  refine r_getR K dX1_load_1 f_X1_14 rfl (by first | assumption | exact hW.1 _ _ rfl | exact hW.2.2.1 _ _ _ rfl) (by first | assumption | exact hW.1 _ _ rfl | exact hW.2.2.1 _ _ _ rfl) ?_
  refine r_aload_n K dX1_load_4 rfl ?_
  refine r_aload_n K dX1_load_5 rfl ?_
  refine r_getI K dX1_load_6 f_X1_34 rfl (by first | assumption | exact hW.1 _ _ rfl | exact hW.2.2.1 _ _ _ rfl) ?_
  refine rcV2i K dX1_load_9 c_X1_38 v_X0_takeFirst (by first | assumption | exact hW.1 _ _ rfl | exact hW.2.2.1 _ _ _ rfl) htf (by decide) (Nat.le_of_ble_eq_true rfl) ?_
  rintro _ J1 ⟨rfl, hJ1⟩
  refine r_aload_n K dX1_load_12 rfl ?_
  refine rcV0i K dX1_load_13 c_X1_42 v_X1_endUpdate (by first | assumption | exact hW.1 _ _ rfl | exact hW.2.2.1 _ _ _ rfl) (k_endUpdate hW) (by decide) (Nat.le_of_ble_eq_true rfl) ?_
  rintro _ J2 ⟨rfl, hJ2⟩
  exact q_vret K hQ rfl dX1_load_16 (Nat.le_refl _) (Nat.le_refl _) (⟨rfl, rfl, rfl, rfl, rfl, by rw [hJ2, hJ1]⟩)
set_option maxHeartbeats 4000000 in
set_option maxRecDepth 100000 in
theorem k_fits {v : Nat} (hW : Wd T L P) (hV : VS I) (hv : v < 5) (ha : 0 ≤ I 42 1 ∧ I 42 1 ≤ 120) (hb : ∀ j, j < 120 → 0 ≤ I 43 j ∧ I 43 j < 256) : pX1_fits [.inr (some 41), .inr (some (18 + 2 * v))] T L P I hn (.inl (if I 42 1 = I (18 + 2 * v) 1 ∧ ck (I 43) (I 42 1).toNat = ck (I (19 + 2 * v)) (I (18 + 2 * v) 1).toNat then 1 else 0)) := by
  refine CT.by (by decide) (Nat.le_of_ble_eq_true rfl) fun X Y Q hQ K hvv => ?_
  have l43 : L 43 = 120 := hW.2.1 43 120 rfl (by decide)
  have l45 : L 45 = 120 := hW.2.1 45 120 rfl (by decide)
  have l46 : L 46 = 120 := hW.2.1 46 120 rfl (by decide)
  have l47 : L 47 = 120 := hW.2.1 47 120 rfl (by decide)
  have l48 : L 48 = 120 := hW.2.1 48 120 rfl (by decide)
  have l49 : L 49 = 120 := hW.2.1 49 120 rfl (by decide)
  obtain ⟨w1, w2, w3, w4, w5⟩ := hW.ver hv
  have hvs := hV v hv
  have c1 := k_checksum (T := T) (L := L) (P := P) (I := I) (hn := hn) (a := 42) (v := 43) (hW.1 _ _ rfl) (hW.2.2.1 _ _ _ rfl) (hW.1 _ _ rfl) (by omega) (by omega) (by omega) (by rw [l43]; exact hb)
  have c2 := k_checksum (T := T) (L := L) (P := P) (I := I) (hn := hn) (a := 18 + 2 * v) (v := 19 + 2 * v) w2 w3 w4 (by omega) (by omega) (by omega) (by rw [w5]; exact hvs.2.2)
  refine r_aload_n K dX1_fits_0 rfl ?_
  refine r_getR K dX1_fits_1 f_X1_14 rfl (by first | assumption | exact hW.1 _ _ rfl | exact hW.2.2.1 _ _ _ rfl) (by first | assumption | exact hW.1 _ _ rfl | exact hW.2.2.1 _ _ _ rfl) ?_
  refine r_getI K dX1_fits_4 f_X1_34 rfl (by first | assumption | exact hW.1 _ _ rfl | exact hW.2.2.1 _ _ _ rfl) ?_
  refine r_aload_n K dX1_fits_7 rfl ?_
  refine r_getI K dX1_fits_8 f_X1_34 rfl (by first | assumption | exact hW.1 _ _ rfl | exact hW.2.2.1 _ _ _ rfl) ?_
  refine r_icmp_ne K 32 dX1_fits_11 (by decide) (fun c11 => ?_) (fun c11 => ?_)
  · refine r_iconst K dX1_fits_32 ?_
    exact q_zret K hQ rfl dX1_fits_33 (by first | exact Or.inl rfl | exact Or.inr rfl) (Nat.le_refl _) (Nat.le_refl _) (⟨by first | rw [if_pos (by omega)] | rw [if_neg (by omega)], rfl, rfl, rfl, rfl, rfl⟩)
  · refine r_aload_n K dX1_fits_14 rfl ?_
    refine r_getR K dX1_fits_15 f_X1_14 rfl (by first | assumption | exact hW.1 _ _ rfl | exact hW.2.2.1 _ _ _ rfl) (by first | assumption | exact hW.1 _ _ rfl | exact hW.2.2.1 _ _ _ rfl) ?_
    refine rcV0p K dX1_fits_18 c_X1_45 v_X0_checksum (by first | assumption | exact hW.1 _ _ rfl | exact hW.2.2.1 _ _ _ rfl) c1 (by decide) (Nat.le_of_ble_eq_true rfl) ?_
    refine r_aload_n K dX1_fits_21 rfl ?_
    refine rcV0p K dX1_fits_22 c_X1_45 v_X0_checksum (by first | assumption | exact hW.1 _ _ rfl | exact hW.2.2.1 _ _ _ rfl) c2 (by decide) (Nat.le_of_ble_eq_true rfl) ?_
    refine r_icmp_ne K 32 dX1_fits_25 (by decide) (fun c25 => ?_) (fun c25 => ?_)
    · refine r_iconst K dX1_fits_32 ?_
      exact q_zret K hQ rfl dX1_fits_33 (by first | exact Or.inl rfl | exact Or.inr rfl) (Nat.le_refl _) (Nat.le_refl _) (⟨by first | rw [if_pos (by omega)] | rw [if_neg (by omega)], rfl, rfl, rfl, rfl, rfl⟩)
    · refine r_iconst K dX1_fits_28 ?_
      refine r_goto K 33 dX1_fits_29 (by decide) ?_
      exact q_zret K hQ rfl dX1_fits_33 (by first | exact Or.inl rfl | exact Or.inr rfl) (Nat.le_refl _) (Nat.le_refl _) (⟨by first | rw [if_pos (by omega)] | rw [if_neg (by omega)], rfl, rfl, rfl, rfl, rfl⟩)
/-- what the device tells -/
def dTell (I : Nat → Nat → Int) (what : Int) : Int :=
  if what = 0 then I 42 1 else if what = 1 then ck (I 43) (I 42 1).toNat else if what = 2 then (if I 41 9 = 0 then 0 else if I 41 10 = 0 then 1 else 2) else if what = 3 then I 41 8 else if what = 4 then (if I 41 9 = 0 then 0 else if I 41 4 < I 41 6 then I 41 4 else I 41 6) else if what = 5 then (if I 41 9 = 0 then -1 else I 41 7) else if what = 6 then (if I 41 9 = 0 then -1 else I 41 5) else -1
set_option maxHeartbeats 4000000 in
set_option maxRecDepth 100000 in
theorem k_X1_tell {what : Int} (hW : Wd T L P) (ha : 0 ≤ I 42 1 ∧ I 42 1 ≤ 120) (hb : ∀ j, j < 120 → 0 ≤ I 43 j ∧ I 43 j < 256) : pX1_tell [.inr (some 41), .inl what] T L P I hn (.inl (dTell I what)) := by
  refine CT.by (by decide) (Nat.le_of_ble_eq_true rfl) fun X Y Q hQ K hv => ?_
  have l43 : L 43 = 120 := hW.2.1 43 120 rfl (by decide)
  have l45 : L 45 = 120 := hW.2.1 45 120 rfl (by decide)
  have l46 : L 46 = 120 := hW.2.1 46 120 rfl (by decide)
  have l47 : L 47 = 120 := hW.2.1 47 120 rfl (by decide)
  have l48 : L 48 = 120 := hW.2.1 48 120 rfl (by decide)
  have l49 : L 49 = 120 := hW.2.1 49 120 rfl (by decide)
  have c1 := k_checksum (T := T) (L := L) (P := P) (I := I) (hn := hn) (a := 42) (v := 43) (hW.1 _ _ rfl) (hW.2.2.1 _ _ _ rfl) (hW.1 _ _ rfl) (by omega) (by omega) (by omega) (by rw [l43]; exact hb)
  refine r_iload_n K dX1_tell_0 rfl ?_
  rcases (by omega : what = 0 ∨ what = 1 ∨ what = 2 ∨ what = 3 ∨ what = 4 ∨ what = 5 ∨ what = 6 ∨ (what < 0 ∨ 6 < what)) with hw | hw | hw | hw | hw | hw | hw | hw
  · refine r_tableIn K 44 dX1_tell_1 (by omega) (by omega) (by rw [hw]; rfl) (by decide) ?_
    refine r_aload_n K dX1_tell_44 rfl ?_
    refine r_getR K dX1_tell_45 f_X1_14 rfl (by first | assumption | exact hW.1 _ _ rfl | exact hW.2.2.1 _ _ _ rfl) (by first | assumption | exact hW.1 _ _ rfl | exact hW.2.2.1 _ _ _ rfl) ?_
    refine r_getI K dX1_tell_48 f_X1_34 rfl (by first | assumption | exact hW.1 _ _ rfl | exact hW.2.2.1 _ _ _ rfl) ?_
    exact q_iret K hQ rfl dX1_tell_51 (Nat.le_refl _) (Nat.le_refl _) (⟨by subst hw; rfl, rfl, rfl, rfl, rfl, rfl⟩)
  · refine r_tableIn K 52 dX1_tell_1 (by omega) (by omega) (by rw [hw]; rfl) (by decide) ?_
    refine r_aload_n K dX1_tell_52 rfl ?_
    refine r_getR K dX1_tell_53 f_X1_14 rfl (by first | assumption | exact hW.1 _ _ rfl | exact hW.2.2.1 _ _ _ rfl) (by first | assumption | exact hW.1 _ _ rfl | exact hW.2.2.1 _ _ _ rfl) ?_
    refine rcV0p K dX1_tell_56 c_X1_45 v_X0_checksum (by first | assumption | exact hW.1 _ _ rfl | exact hW.2.2.1 _ _ _ rfl) c1 (by decide) (Nat.le_of_ble_eq_true rfl) ?_
    exact q_iret K hQ rfl dX1_tell_59 (Nat.le_refl _) (Nat.le_refl _) (⟨by subst hw; rfl, rfl, rfl, rfl, rfl, rfl⟩)
  · refine r_tableIn K 60 dX1_tell_1 (by omega) (by omega) (by rw [hw]; rfl) (by decide) ?_
    refine r_aload_n K dX1_tell_60 rfl ?_
    refine r_getI K dX1_tell_61 f_X1_73 rfl (by first | assumption | exact hW.1 _ _ rfl | exact hW.2.2.1 _ _ _ rfl) ?_
    refine r_if_ne K 71 dX1_tell_64 (by decide) (fun c64 => ?_) (fun c64 => ?_)
    · refine r_aload_n K dX1_tell_71 rfl ?_
      refine r_getI K dX1_tell_72 f_X1_77 rfl (by first | assumption | exact hW.1 _ _ rfl | exact hW.2.2.1 _ _ _ rfl) ?_
      refine r_if_eq K 82 dX1_tell_75 (by decide) (fun c75 => ?_) (fun c75 => ?_)
      · refine r_iconst K dX1_tell_82 ?_
        exact q_iret K hQ rfl dX1_tell_83 (Nat.le_refl _) (Nat.le_refl _) (⟨by subst hw; rw [dTell]; simp only [Int.reduceEq, if_true, if_false]; first | rw [if_pos c64] | (rw [if_neg c64]; first | rw [if_pos c75] | rw [if_neg c75]), rfl, rfl, rfl, rfl, rfl⟩)
      · refine r_iconst K dX1_tell_78 ?_
        refine r_goto K 83 dX1_tell_79 (by decide) ?_
        exact q_iret K hQ rfl dX1_tell_83 (Nat.le_refl _) (Nat.le_refl _) (⟨by subst hw; rw [dTell]; simp only [Int.reduceEq, if_true, if_false]; first | rw [if_pos c64] | (rw [if_neg c64]; first | rw [if_pos c75] | rw [if_neg c75]), rfl, rfl, rfl, rfl, rfl⟩)
    · refine r_iconst K dX1_tell_67 ?_
      refine r_goto K 83 dX1_tell_68 (by decide) ?_
      exact q_iret K hQ rfl dX1_tell_83 (Nat.le_refl _) (Nat.le_refl _) (⟨by subst hw; rw [dTell]; simp only [Int.reduceEq, if_true, if_false]; first | rw [if_pos c64] | (rw [if_neg c64]; first | rw [if_pos c75] | rw [if_neg c75]), rfl, rfl, rfl, rfl, rfl⟩)
  · refine r_tableIn K 84 dX1_tell_1 (by omega) (by omega) (by rw [hw]; rfl) (by decide) ?_
    refine r_aload_n K dX1_tell_84 rfl ?_
    refine r_getI K dX1_tell_85 f_X1_87 rfl (by first | assumption | exact hW.1 _ _ rfl | exact hW.2.2.1 _ _ _ rfl) ?_
    exact q_iret K hQ rfl dX1_tell_88 (Nat.le_refl _) (Nat.le_refl _) (⟨by subst hw; rfl, rfl, rfl, rfl, rfl, rfl⟩)
  · refine r_tableIn K 89 dX1_tell_1 (by omega) (by omega) (by rw [hw]; rfl) (by decide) ?_
    refine r_aload_n K dX1_tell_89 rfl ?_
    refine r_getI K dX1_tell_90 f_X1_73 rfl (by first | assumption | exact hW.1 _ _ rfl | exact hW.2.2.1 _ _ _ rfl) ?_
    refine r_if_eq K 110 dX1_tell_93 (by decide) (fun c93 => ?_) (fun c93 => ?_)
    · refine r_iconst K dX1_tell_110 ?_
      exact q_iret K hQ rfl dX1_tell_111 (Nat.le_refl _) (Nat.le_refl _) (⟨by subst hw; rw [dTell]; simp only [Int.reduceEq, if_true, if_false]; first | rw [if_pos c93] | rw [if_neg c93], rfl, rfl, rfl, rfl, rfl⟩)
    · refine r_aload_n K dX1_tell_96 rfl ?_
      refine r_getI K dX1_tell_97 f_X1_67 rfl (by first | assumption | exact hW.1 _ _ rfl | exact hW.2.2.1 _ _ _ rfl) ?_
      refine r_aload_n K dX1_tell_100 rfl ?_
      refine r_getI K dX1_tell_101 f_X1_60 rfl (by first | assumption | exact hW.1 _ _ rfl | exact hW.2.2.1 _ _ _ rfl) ?_
      refine r_min K dX1_tell_104 m_X1_105 (Nat.le_of_ble_eq_true rfl) (Nat.le_of_ble_eq_true rfl) (Nat.le_of_ble_eq_true rfl) (Nat.le_of_ble_eq_true rfl) ?_
      refine r_goto K 111 dX1_tell_107 (by decide) ?_
      exact q_iret K hQ rfl dX1_tell_111 (Nat.le_refl _) (Nat.le_refl _) (⟨by subst hw; rw [dTell]; simp only [Int.reduceEq, if_true, if_false]; first | rw [if_pos c93] | rw [if_neg c93], rfl, rfl, rfl, rfl, rfl⟩)
  · refine r_tableIn K 112 dX1_tell_1 (by omega) (by omega) (by rw [hw]; rfl) (by decide) ?_
    refine r_aload_n K dX1_tell_112 rfl ?_
    refine r_getI K dX1_tell_113 f_X1_73 rfl (by first | assumption | exact hW.1 _ _ rfl | exact hW.2.2.1 _ _ _ rfl) ?_
    refine r_if_eq K 126 dX1_tell_116 (by decide) (fun c116 => ?_) (fun c116 => ?_)
    · refine r_iconst K dX1_tell_126 ?_
      exact q_iret K hQ rfl dX1_tell_127 (Nat.le_refl _) (Nat.le_refl _) (⟨by subst hw; rw [dTell]; simp only [Int.reduceEq, if_true, if_false]; first | rw [if_pos c116] | rw [if_neg c116], rfl, rfl, rfl, rfl, rfl⟩)
    · refine r_aload_n K dX1_tell_119 rfl ?_
      refine r_getI K dX1_tell_120 f_X1_70 rfl (by first | assumption | exact hW.1 _ _ rfl | exact hW.2.2.1 _ _ _ rfl) ?_
      refine r_goto K 127 dX1_tell_123 (by decide) ?_
      exact q_iret K hQ rfl dX1_tell_127 (Nat.le_refl _) (Nat.le_refl _) (⟨by subst hw; rw [dTell]; simp only [Int.reduceEq, if_true, if_false]; first | rw [if_pos c116] | rw [if_neg c116], rfl, rfl, rfl, rfl, rfl⟩)
  · refine r_tableIn K 128 dX1_tell_1 (by omega) (by omega) (by rw [hw]; rfl) (by decide) ?_
    refine r_aload_n K dX1_tell_128 rfl ?_
    refine r_getI K dX1_tell_129 f_X1_73 rfl (by first | assumption | exact hW.1 _ _ rfl | exact hW.2.2.1 _ _ _ rfl) ?_
    refine r_if_eq K 142 dX1_tell_132 (by decide) (fun c132 => ?_) (fun c132 => ?_)
    · refine r_iconst K dX1_tell_142 ?_
      exact q_iret K hQ rfl dX1_tell_143 (Nat.le_refl _) (Nat.le_refl _) (⟨by subst hw; rw [dTell]; simp only [Int.reduceEq, if_true, if_false]; first | rw [if_pos c132] | rw [if_neg c132], rfl, rfl, rfl, rfl, rfl⟩)
    · refine r_aload_n K dX1_tell_135 rfl ?_
      refine r_getI K dX1_tell_136 f_X1_57 rfl (by first | assumption | exact hW.1 _ _ rfl | exact hW.2.2.1 _ _ _ rfl) ?_
      refine r_goto K 143 dX1_tell_139 (by decide) ?_
      exact q_iret K hQ rfl dX1_tell_143 (Nat.le_refl _) (Nat.le_refl _) (⟨by subst hw; rw [dTell]; simp only [Int.reduceEq, if_true, if_false]; first | rw [if_pos c132] | rw [if_neg c132], rfl, rfl, rfl, rfl, rfl⟩)
  · refine r_tableOut K 144 dX1_tell_1 hw (by decide) ?_
    refine r_iconst K dX1_tell_144 ?_
    exact q_iret K hQ rfl dX1_tell_145 (Nat.le_refl _) (Nat.le_refl _) (⟨by rw [dTell, if_neg (by omega), if_neg (by omega), if_neg (by omega), if_neg (by omega), if_neg (by omega), if_neg (by omega), if_neg (by omega)], rfl, rfl, rfl, rfl, rfl⟩)
/-- the better way: 1 is down -/
def wayB (s b : Nat → Int) (n : Nat) : Int := if cn (kpt s b 1 n) 120 < cn (kpt s b 0 n) 120 then 1 else 0
/-- an update is begun: its plan is the trace of cells tp, tb -/
def bPost (I : Nat → Nat → Int) (tp tb n : Nat) (J : Nat → Nat → Int) : Prop :=
  (∀ c, c ≠ 41 → c ≠ 44 → c ≠ 45 → c ≠ 46 → c ≠ 47 → c ≠ 48 → J c = I c) ∧ J 44 3 = n ∧ (∀ j, j < 120 → J 45 j = I tp j ∧ J 46 j = I tb j) ∧ J 41 5 = wayB (I tp) (I tb) n ∧ (∀ p, p < 120 → J 47 p = if kpt (I tp) (I tb) (wayB (I tp) (I tb) n) n p = true then 1 else 0) ∧ J 41 4 = cn (kpt (I tp) (I tb) (wayB (I tp) (I tb) n) n) 120 ∧ (∀ p, p < 120 → kpt (I tp) (I tb) (wayB (I tp) (I tb) n) n p = true → J 48 (cn (kpt (I tp) (I tb) (wayB (I tp) (I tb) n) n) p).toNat = p) ∧ J 41 6 = 0 ∧ J 41 7 = -1 ∧ J 41 8 = I 41 8 ∧ J 41 9 = 1 ∧ J 41 10 = I 41 10
set_option maxHeartbeats 4000000 in
set_option maxRecDepth 100000 in
theorem k_begin {t tp tb n : Nat} (hW : Wd T L P) (ht : T t = 6) (q0 : P t 0 = some tp) (q1 : P t 1 = some tb) (s0 : T tp = 10) (s1 : T tb = 10) (m0 : L tp = 120) (m1 : L tb = 120) (hc : I t 3 = n) (hn1 : n ≤ 120) (lt : t < 41) (lp : tp < 41) (lb : tb < 41) : iX1_begin [.inr (some 41), .inr (some t)] T L P I hn (fun r J => r = none ∧ bPost I tp tb n J) := by
  refine CT.by (by decide) (Nat.le_of_ble_eq_true rfl) fun X Y Q hQ K hv => ?_
  have l43 : L 43 = 120 := hW.2.1 43 120 rfl (by decide)
  have l45 : L 45 = 120 := hW.2.1 45 120 rfl (by decide)
  have l46 : L 46 = 120 := hW.2.1 46 120 rfl (by decide)
  have l47 : L 47 = 120 := hW.2.1 47 120 rfl (by decide)
  have l48 : L 48 = 120 := hW.2.1 48 120 rfl (by decide)
  have l49 : L 49 = 120 := hW.2.1 49 120 rfl (by decide)
  have htk := k_take (T := T) (L := L) (P := P) (I := I) (hn := hn) (t := 44) (tp := 45) (tb := 46) (e := t) (ep := tp) (eb := tb) (hW.1 _ _ rfl) (hW.2.2.1 _ _ _ rfl) (hW.2.2.1 _ _ _ rfl) (hW.1 _ _ rfl) (hW.1 _ _ rfl) l45 l46 ht q0 q1 s0 s1 m0 m1 (by omega) (by omega) (by omega) (by omega) (by decide)
  obtain ⟨w, hw⟩ : ∃ w, w = wayB (I tp) (I tb) n := ⟨_, rfl⟩
  obtain ⟨kp, hkp⟩ : ∃ kp, kp = kpt (I tp) (I tb) w n := ⟨_, rfl⟩
  have hw01 : w = 0 ∨ w = 1 := by rw [hw, wayB]; split <;> simp
  unfold bPost at hQ
  rw [← hw, ← hkp] at hQ
  have kc : ∀ {J : Nat → Nat → Int} (z : Int), J 44 3 = n → (∀ j, j < 120 → J 45 j = I tp j ∧ J 46 j = I tb j) → ∀ p, kpt (J 45) (J 46) z n p = kpt (I tp) (I tb) z n p := fun z h1 h2 p => kpt_cong (fun q hq => ⟨(h2 q (by omega)).1, fun _ => (h2 q (by omega)).2⟩)
  have loop : ∀ (J0 : Nat → Nat → Int) (d p : Nat) (z : Int) (J : Nat → Nat → Int), (∀ c, c ≠ 41 → c ≠ 44 → c ≠ 45 → c ≠ 46 → c ≠ 47 → J0 c = I c) → J0 44 3 = n → (∀ j, j < 120 → J0 45 j = I tp j ∧ J0 46 j = I tb j) → J0 41 5 = w → (∀ p, p < 120 → J0 47 p = if kp p = true then 1 else 0) → (∀ j, j ≠ 5 → j ≠ 4 → J0 41 j = I 41 j) → z = p → 120 - p = d → p ≤ 120 → (∀ c, c ≠ 41 → c ≠ 48 → J c = J0 c) → (∀ j, j ≠ 4 → J 41 j = J0 41 j) → J 41 4 = cn kp p → (∀ q, q < p → kp q = true → J 48 (cn kp q).toNat = q) → RR X Y Q 0 0 55 [some (.inr (some 41)), some (.inr (some t)), some (.inl z)] [] T L P J hn := by
    intro J0 d
    induction d using Nat.strongRecOn with
    | ind d ih =>
      intro p z J i1 i2 i3 i4 i5 i6 hz hd hp h1 h2 h3 h4
      subst hz
      have hcn := cn_in kp p
      have hik := k_isKept (T := T) (L := L) (P := P) (I := J) (hn := hn) (t := 44) (tp := 45) (tb := 46) (tk := 47) (p := (p : Int)) (hW.1 _ _ rfl) (hW.2.2.1 _ _ _ rfl) (hW.2.2.1 _ _ _ rfl) (hW.2.2.1 _ _ _ rfl) (hW.1 _ _ rfl) (hW.1 _ _ rfl) (hW.1 _ _ rfl) l45 l46 l47
      rw [Int.toNat_natCast, h1 47 (by decide) (by decide)] at hik
      refine r_iload_n K dX1_begin_55 rfl ?_
      refine r_bipush K dX1_begin_56 ?_
      refine r_icmp_ge K 98 dX1_begin_58 (by decide) (fun c58 => ?_) (fun c58 => ?_)
      · have hp120 : p = 120 := by omega
        subst hp120
        refine r_aload_n K dX1_begin_98 rfl ?_
        refine r_iconst K dX1_begin_99 ?_
        refine r_putI K dX1_begin_100 f_X1_67 rfl rfl (Or.inl rfl) (by first | assumption | exact hW.1 _ _ rfl | exact hW.2.2.1 _ _ _ rfl) ?_
        refine r_aload_n K dX1_begin_103 rfl ?_
        refine r_iconst K dX1_begin_104 ?_
        refine r_putI K dX1_begin_105 f_X1_70 rfl rfl (Or.inl rfl) (by first | assumption | exact hW.1 _ _ rfl | exact hW.2.2.1 _ _ _ rfl) ?_
        refine r_aload_n K dX1_begin_108 rfl ?_
        refine r_iconst K dX1_begin_109 ?_
        refine r_putI K dX1_begin_110 f_X1_73 rfl rfl (Or.inr ⟨rfl, by first | exact Or.inl rfl | exact Or.inr rfl⟩) (by first | assumption | exact hW.1 _ _ rfl | exact hW.2.2.1 _ _ _ rfl) ?_
        exact q_vret K hQ rfl dX1_begin_113 (Nat.le_refl _) (Nat.le_refl _) (⟨rfl, rfl, rfl, rfl, rfl, fun c c1 c2 c3 c4 c5 c6 => by rw [mI_ne c1, mI_ne c1, mI_ne c1, h1 c c1 c6]; exact i1 c c1 c2 c3 c4 c5, by rw [mI_ne (by decide), mI_ne (by decide), mI_ne (by decide), h1 44 (by decide) (by decide)]; exact i2, by
          rw [mI_ne (by decide), mI_ne (by decide), mI_ne (by decide), mI_ne (by decide), mI_ne (by decide), mI_ne (by decide), h1 45 (by decide) (by decide), h1 46 (by decide) (by decide)]; exact i3, by
          rw [mI_nj (by decide), mI_nj (by decide), mI_nj (by decide), h2 5 (by decide)]; exact i4, by
          rw [mI_ne (by decide), mI_ne (by decide), mI_ne (by decide), h1 47 (by decide) (by decide)]; exact i5, by
          rw [mI_nj (by decide), mI_nj (by decide), mI_nj (by decide)]; exact h3, by
          rw [mI_ne (by decide), mI_ne (by decide), mI_ne (by decide)]; exact h4, by
          rw [mI_nj (by decide), mI_nj (by decide), mI_eq], by rw [mI_nj (by decide), mI_eq], by
          rw [mI_nj (by decide), mI_nj (by decide), mI_nj (by decide), h2 8 (by decide)]; exact i6 8 (by decide) (by decide), mI_eq, by
          rw [mI_nj (by decide), mI_nj (by decide), mI_nj (by decide), h2 10 (by decide)]; exact i6 10 (by decide) (by decide)⟩)
      · have hpl : p < 120 := by omega
        have h47 := i5 p hpl
        refine r_aload_n K dX1_begin_61 rfl ?_
        refine r_getR K dX1_begin_62 f_X1_23 rfl (by first | assumption | exact hW.1 _ _ rfl | exact hW.2.2.1 _ _ _ rfl) (by first | assumption | exact hW.1 _ _ rfl | exact hW.2.2.1 _ _ _ rfl) ?_
        refine r_iload_n K dX1_begin_65 rfl ?_
        refine rcV1p K dX1_begin_66 c_X1_63 v_X6_isKept (by first | assumption | exact hW.1 _ _ rfl | exact hW.2.2.1 _ _ _ rfl) hik (by decide) (Nat.le_of_ble_eq_true rfl) ?_
        refine r_if_eq K 92 dX1_begin_69 (by decide) (fun c69 => ?_) (fun c69 => ?_)
        · have hkf : kp p = false := by
            cases hk : kp p with
            | false => rfl
            | true => rw [hk] at h47; rw [if_pos ⟨by omega, by omega, by rw [h47]; decide⟩] at c69; exact absurd c69 (by decide)
          refine r_iinc K dX1_begin_92 (by decide) rfl ?_
          refine r_goto K 55 dX1_begin_95 (by decide) ?_
          first
            | exact ih _ (by omega) (p + 1) _ J i1 i2 i3 i4 i5 i6 (by omega) rfl (by omega) h1 h2 (by rw [cn, hkf]; simpa using h3) (fun q hq hk => by
                by_cases e : q = p
                · subst e; rw [hkf] at hk; cases hk
                · exact h4 q (by omega) hk)
            | (refine ih _ (by omega) (p + 1) _ _ i1 i2 i3 i4 i5 i6 (by omega) rfl (by omega) (fun c c1 c2 => by rw [mI_ne c1, mI_ne c2]; exact h1 c c1 c2) (fun j hj => by rw [mI_nj hj, mI_ne (by decide)]; exact h2 j hj) (by rw [mI_eq, cn, hkt]; rfl) (fun q hq hk => ?_)
               rw [mI_ne (by decide), mI_row]
               by_cases e : q = p
               · subst e; rw [if_pos rfl]
               · have hlt := cn_lt (f := kp) (a := q) (b := p) (by omega) hk
                 have hq0 := cn_in kp q
                 rw [if_neg (by omega)]; exact h4 q (by omega) hk)
        · have hkt : kp p = true := by
            cases hk : kp p with
            | true => rfl
            | false => rw [hk] at h47; rw [if_neg (fun h => h.2.2 (by rw [h47]; rfl))] at c69; exact absurd rfl c69
          refine r_aload_n K dX1_begin_72 rfl ?_
          refine r_getR K dX1_begin_73 f_X1_27 rfl (by first | assumption | exact hW.1 _ _ rfl | exact hW.2.2.1 _ _ _ rfl) (by first | assumption | exact hW.1 _ _ rfl | exact hW.2.2.1 _ _ _ rfl) ?_
          refine r_aload_n K dX1_begin_76 rfl ?_
          refine r_getI K dX1_begin_77 f_X1_60 rfl (by first | assumption | exact hW.1 _ _ rfl | exact hW.2.2.1 _ _ _ rfl) ?_
          rw [h3]
          refine r_iload_n K dX1_begin_80 rfl ?_
          refine r_iast K dX1_begin_81 (by first | assumption | exact hW.1 _ _ rfl | exact hW.2.2.1 _ _ _ rfl) (by omega) (by omega) ?_
          refine r_aload_n K dX1_begin_82 rfl ?_
          refine r_dup K dX1_begin_83 ?_
          refine r_getI K dX1_begin_84 f_X1_60 rfl (by first | assumption | exact hW.1 _ _ rfl | exact hW.2.2.1 _ _ _ rfl) ?_
          rw [mI_ne (by decide), h3]
          refine r_iconst K dX1_begin_87 ?_
          refine r_iadd K dX1_begin_88 ?_
          refine r_putI K dX1_begin_89 f_X1_60 rfl rfl (Or.inl rfl) (by first | assumption | exact hW.1 _ _ rfl | exact hW.2.2.1 _ _ _ rfl) ?_
          refine r_iinc K dX1_begin_92 (by decide) rfl ?_
          refine r_goto K 55 dX1_begin_95 (by decide) ?_
          first
            | exact ih _ (by omega) (p + 1) _ J i1 i2 i3 i4 i5 i6 (by omega) rfl (by omega) h1 h2 (by rw [cn, hkf]; simpa using h3) (fun q hq hk => by
                by_cases e : q = p
                · subst e; rw [hkf] at hk; cases hk
                · exact h4 q (by omega) hk)
            | (refine ih _ (by omega) (p + 1) _ _ i1 i2 i3 i4 i5 i6 (by omega) rfl (by omega) (fun c c1 c2 => by rw [mI_ne c1, mI_ne c2]; exact h1 c c1 c2) (fun j hj => by rw [mI_nj hj, mI_ne (by decide)]; exact h2 j hj) (by rw [mI_eq, cn, hkt]; rfl) (fun q hq hk => ?_)
               rw [mI_ne (by decide), mI_row]
               by_cases e : q = p
               · subst e; rw [if_pos rfl]
               · have hlt := cn_lt (f := kp) (a := q) (b := p) (by omega) hk
                 have hq0 := cn_in kp q
                 rw [if_neg (by omega)]; exact h4 q (by omega) hk)
  refine r_aload_n K dX1_begin_0 rfl ?_
  refine r_getR K dX1_begin_1 f_X1_23 rfl (by first | assumption | exact hW.1 _ _ rfl | exact hW.2.2.1 _ _ _ rfl) (by first | assumption | exact hW.1 _ _ rfl | exact hW.2.2.1 _ _ _ rfl) ?_
  refine r_aload_n K dX1_begin_4 rfl ?_
  refine rcV1i K dX1_begin_5 c_X1_49 v_X6_take (by first | assumption | exact hW.1 _ _ rfl | exact hW.2.2.1 _ _ _ rfl) htk (by decide) (Nat.le_of_ble_eq_true rfl) ?_
  rintro _ J1 ⟨rfl, a1, a2, a3, a4⟩
  have b1 := kc (J := J1) 1 (by rw [a2]; exact hc) a4
  refine r_aload_n K dX1_begin_8 rfl ?_
  refine r_aload_n K dX1_begin_9 rfl ?_
  refine r_getR K dX1_begin_10 f_X1_23 rfl (by first | assumption | exact hW.1 _ _ rfl | exact hW.2.2.1 _ _ _ rfl) (by first | assumption | exact hW.1 _ _ rfl | exact hW.2.2.1 _ _ _ rfl) ?_
  refine r_iconst K dX1_begin_13 ?_
  refine rcV1i K dX1_begin_14 c_X1_53 v_X6_countKept (by first | assumption | exact hW.1 _ _ rfl | exact hW.2.2.1 _ _ _ rfl) (k_countKept (T := T) (L := L) (P := P) (I := J1) (hn := hn) (t := 44) (tp := 45) (tb := 46) (tk := 47) (n := n) (w := 1) (hW.1 _ _ rfl) (hW.2.2.1 _ _ _ rfl) (hW.2.2.1 _ _ _ rfl) (hW.2.2.1 _ _ _ rfl) (hW.1 _ _ rfl) (hW.1 _ _ rfl) (hW.1 _ _ rfl) l45 l46 l47 (by rw [a2]; exact hc) hn1 (Or.inr rfl) (by decide) (by decide)) (by decide) (Nat.le_of_ble_eq_true rfl) ?_
  rintro _ J2 ⟨rfl, d1, d2⟩
  have f45 : J2 45 = J1 45 := d1 45 (by decide)
  have f46 : J2 46 = J1 46 := d1 46 (by decide)
  have f44 : J2 44 = J1 44 := d1 44 (by decide)
  refine r_aload_n K dX1_begin_17 rfl ?_
  refine r_getR K dX1_begin_18 f_X1_23 rfl (by first | assumption | exact hW.1 _ _ rfl | exact hW.2.2.1 _ _ _ rfl) (by first | assumption | exact hW.1 _ _ rfl | exact hW.2.2.1 _ _ _ rfl) ?_
  refine r_iconst K dX1_begin_21 ?_
  refine rcV1i K dX1_begin_22 c_X1_53 v_X6_countKept (by first | assumption | exact hW.1 _ _ rfl | exact hW.2.2.1 _ _ _ rfl) (k_countKept (T := T) (L := L) (P := P) (I := J2) (hn := hn) (t := 44) (tp := 45) (tb := 46) (tk := 47) (n := n) (w := 0) (hW.1 _ _ rfl) (hW.2.2.1 _ _ _ rfl) (hW.2.2.1 _ _ _ rfl) (hW.2.2.1 _ _ _ rfl) (hW.1 _ _ rfl) (hW.1 _ _ rfl) (hW.1 _ _ rfl) l45 l46 l47 (by rw [f44, a2]; exact hc) hn1 (Or.inl rfl) (by decide) (by decide)) (by decide) (Nat.le_of_ble_eq_true rfl) ?_
  rintro _ J3 ⟨rfl, e1, e2⟩
  have g45 : J3 45 = J1 45 := (e1 45 (by decide)).trans f45
  have g46 : J3 46 = J1 46 := (e1 46 (by decide)).trans f46
  have g44 : J3 44 = J1 44 := (e1 44 (by decide)).trans f44
  have g41 : J3 41 = I 41 := (e1 41 (by decide)).trans ((d1 41 (by decide)).trans (a1 41 (by decide) (by decide) (by decide)))
  rw [f45, f46]
  have k1 : cn (kpt (J1 45) (J1 46) 1 n) 120 = cn (kpt (I tp) (I tb) 1 n) 120 := cn_cong (fun k _ => kc (J := J1) 1 (by rw [a2]; exact hc) a4 k)
  have k0 : cn (kpt (J1 45) (J1 46) 0 n) 120 = cn (kpt (I tp) (I tb) 0 n) 120 := cn_cong (fun k _ => kc (J := J1) 0 (by rw [a2]; exact hc) a4 k)
  rw [k1, k0]
  have j33 : RR X Y Q 0 0 33 [some (.inr (some 41)), some (.inr (some t)), none] [.inl w, .inr (some 41)] T L P J3 hn := by
    refine r_putI K dX1_begin_33 f_X1_57 rfl rfl (Or.inl rfl) (by first | assumption | exact hW.1 _ _ rfl | exact hW.2.2.1 _ _ _ rfl) ?_
    refine r_aload_n K dX1_begin_36 rfl ?_
    refine r_getR K dX1_begin_37 f_X1_23 rfl (by first | assumption | exact hW.1 _ _ rfl | exact hW.2.2.1 _ _ _ rfl) (by first | assumption | exact hW.1 _ _ rfl | exact hW.2.2.1 _ _ _ rfl) ?_
    refine r_aload_n K dX1_begin_40 rfl ?_
    refine r_getI K dX1_begin_41 f_X1_57 rfl (by first | assumption | exact hW.1 _ _ rfl | exact hW.2.2.1 _ _ _ rfl) ?_
    rw [mI_eq]
    refine rcV1i K dX1_begin_44 c_X1_53 v_X6_countKept (by first | assumption | exact hW.1 _ _ rfl | exact hW.2.2.1 _ _ _ rfl) (k_countKept (T := T) (L := L) (P := P) (I := mI J3 41 5 w) (hn := hn) (t := 44) (tp := 45) (tb := 46) (tk := 47) (n := n) (w := w) (hW.1 _ _ rfl) (hW.2.2.1 _ _ _ rfl) (hW.2.2.1 _ _ _ rfl) (hW.2.2.1 _ _ _ rfl) (hW.1 _ _ rfl) (hW.1 _ _ rfl) (hW.1 _ _ rfl) l45 l46 l47 (by rw [mI_ne (by decide), g44, a2]; exact hc) hn1 hw01 (by decide) (by decide)) (by decide) (Nat.le_of_ble_eq_true rfl) ?_
    rintro _ J4 ⟨rfl, h1, h2⟩
    rw [mI_ne (by decide), mI_ne (by decide), g45, g46] at h2
    refine r_pop K dX1_begin_47 ?_
    refine r_aload_n K dX1_begin_48 rfl ?_
    refine r_iconst K dX1_begin_49 ?_
    refine r_putI K dX1_begin_50 f_X1_60 rfl rfl (Or.inl rfl) (by first | assumption | exact hW.1 _ _ rfl | exact hW.2.2.1 _ _ _ rfl) ?_
    refine r_iconst K dX1_begin_53 ?_
    refine r_istore_n K dX1_begin_54 (by decide) ?_
    refine loop (mI J4 41 4 0) _ 0 0 _ (fun c c1 c2 c3 c4 c5 => ?_) ?_ (fun j hj => ?_) ?_ (fun p hp => ?_) (fun j h5 h4 => ?_) rfl rfl (by omega) (fun _ _ _ => rfl) (fun _ _ => rfl) (by rw [mI_eq]; rfl) (fun q hq => absurd hq (by omega))
    · rw [mI_ne c1, h1 c c5, mI_ne c1, e1 c c5, d1 c c5]; exact a1 c c2 c3 c4
    · rw [mI_ne (by decide), h1 44 (by decide), mI_ne (by decide), g44, a2]; exact hc
    · rw [mI_ne (by decide), mI_ne (by decide), h1 45 (by decide), h1 46 (by decide), mI_ne (by decide), mI_ne (by decide), g45, g46]; exact a4 j hj
    · rw [mI_nj (by decide), h1 41 (by decide), mI_eq]
    · rw [mI_ne (by decide), h2 p hp, hkp, kc (J := J1) w (by rw [a2]; exact hc) a4 p]
    · rw [mI_nj h4, h1 41 (by decide), mI_nj h5, g41]
  refine r_icmp_ge K 32 dX1_begin_25 (by decide) (fun c25 => ?_) (fun c25 => ?_)
  · refine r_iconst K dX1_begin_32 ?_
    first
      | (rw [show w = 1 by rw [hw, wayB, if_pos c25]] at j33; exact j33)
      | (rw [show w = 0 by rw [hw, wayB, if_neg (by omega)]] at j33; exact j33)
  · refine r_iconst K dX1_begin_28 ?_
    refine r_goto K 33 dX1_begin_29 (by decide) ?_
    first
      | (rw [show w = 1 by rw [hw, wayB, if_pos c25]] at j33; exact j33)
      | (rw [show w = 0 by rw [hw, wayB, if_neg (by omega)]] at j33; exact j33)
end DE2
