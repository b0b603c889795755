section MO8
variable {T L : Nat → Nat} {P : Nat → Nat → Option Nat} {I : Nat → Nat → Int} {hn : Nat}
/-- an update that is begun, of the class's device in C and of the model's in M -/
def UD (C M : Nat → Nat → Int) : Prop := DB C ∧ M 54 26 = C 41 6 ∧ M 54 27 = C 41 4 ∧ M 54 28 = C 44 3 ∧ M 54 31 = C 41 5 ∧ C 41 7 = (if C 41 4 < C 41 6 then (C 41 6 - C 41 4 - 1) / 2 else -1) ∧ (∀ x : Nat, (x : Int) < C 44 3 → M 75 x = C 45 x ∧ (C 45 x = -1 → M 77 x = C 46 x) ∧ (C 45 x ≠ -1 → M 76 x = C 46 x)) ∧ (∀ k : Nat, (k : Int) < C 41 4 → M 78 k = C 48 k ∧ M 79 (C 48 k).toNat = k ∧ ((k : Int) < C 41 6 → M 74 k % 256 = C 49 (C 48 k).toNat)) ∧ ∀ p : Nat, p < 120 → (C 47 p = 0 → M 79 p = -1) ∧ (C 47 p ≠ 0 → ∃ k : Nat, (k : Int) < C 41 4 ∧ M 79 p = k ∧ C 48 k = p)
/-- the class's device in C is the model's in M -/
def DV (C M : Nat → Nat → Int) : Prop := (M 54 24 = C 42 1 ∧ 0 ≤ C 42 1 ∧ C 42 1 ≤ 120) ∧ (∀ j, j < 120 → (M 73 j % 256 = C 43 j ∧ -128 ≤ M 73 j ∧ M 73 j < 128) ∧ (-128 ≤ M 74 j ∧ M 74 j < 128) ∧ 0 ≤ C 49 j ∧ C 49 j < 256) ∧ (M 54 29 = C 41 9 ∧ (C 41 9 = 0 ∨ C 41 9 = 1)) ∧ (M 54 30 = C 41 10 ∧ (C 41 10 = 0 ∨ C 41 10 = 1)) ∧ (C 41 9 = 0 → C 41 10 = 0) ∧ (C 41 9 ≠ 0 → UD C M) ∧ (0 ≤ C 41 4 ∧ C 41 4 ≤ 120) ∧ (-1 ≤ C 41 7 ∧ C 41 7 ≤ 1000) ∧ (0 ≤ C 44 3 ∧ C 44 3 ≤ 120)
theorem DV.cong {C M C' M' : Nat → Nat → Int} (h : DV C M) (e1 : ∀ k, 41 ≤ k → k ≤ 49 → C' k = C k) (e2 : ∀ k, 73 ≤ k → k ≤ 79 → M' k = M k) (e3 : ∀ j, 24 ≤ j → j ≠ 25 → j ≤ 31 → M' 54 j = M 54 j) : DV C' M' := by
  have q : dAll C' = dAll C := by rw [dAll, dAll, e1 41 (by decide) (by decide), e1 44 (by decide) (by decide)]
  unfold DV UD DB at h ⊢
  rw [q, e1 41 (by decide) (by decide), e1 42 (by decide) (by decide), e1 43 (by decide) (by decide), e1 44 (by decide) (by decide), e1 45 (by decide) (by decide), e1 46 (by decide) (by decide), e1 47 (by decide) (by decide), e1 48 (by decide) (by decide), e1 49 (by decide) (by decide), e2 73 (by decide) (by decide), e2 74 (by decide) (by decide), e2 75 (by decide) (by decide), e2 76 (by decide) (by decide), e2 77 (by decide) (by decide), e2 78 (by decide) (by decide), e2 79 (by decide) (by decide), e3 24 (by decide) (by decide) (by decide), e3 26 (by decide) (by decide) (by decide), e3 27 (by decide) (by decide) (by decide), e3 28 (by decide) (by decide) (by decide), e3 29 (by decide) (by decide) (by decide), e3 30 (by decide) (by decide) (by decide), e3 31 (by decide) (by decide) (by decide)]
  exact h
abbrev aBy (I : Nat → Nat → Int) : Nat → Int := fun j => I 73 j % 256
/-- the model's device holds version v, newly written -/
def minP (I : Nat → Nat → Int) (v : Nat) (J : Nat → Nat → Int) : Prop := (∀ c, c ≠ 54 → c ≠ 73 → J c = I c) ∧ (∀ j, j ≠ 24 → j ≠ 29 → j ≠ 30 → J 54 j = I 54 j) ∧ J 54 24 = I 57 v ∧ J 54 29 = 0 ∧ J 54 30 = 0 ∧ ∀ j : Nat, j < 120 → J 73 j = if (j : Int) < I 57 v then I 56 (120 * v + j) else 0
set_option maxHeartbeats 4000000 in
set_option maxRecDepth 100000 in
theorem k_X8_install {v : Int} (hW : Wd T L P) (hV : MV I) : iX8_install [.inr (some 54), .inl v] T L P I hn (fun r J => (¬ hasM I v ∧ r = some (.inl 0) ∧ J = I) ∨ (hasM I v ∧ r = some (.inl 1) ∧ minP I v.toNat J)) := by
  refine CT.by (by decide) (Nat.le_of_ble_eq_true rfl) fun X Y Q hQ K hv => ?_
  have l57 : L 57 = 5 := hW.2.1 57 5 rfl (by decide)
  have l56 : L 56 = 600 := hW.2.1 56 600 rfl (by decide)
  have l73 : L 73 = 120 := hW.2.1 73 120 rfl (by decide)
  have l74 : L 74 = 120 := hW.2.1 74 120 rfl (by decide)
  have l75 : L 75 = 120 := hW.2.1 75 120 rfl (by decide)
  have l76 : L 76 = 120 := hW.2.1 76 120 rfl (by decide)
  have l77 : L 77 = 120 := hW.2.1 77 120 rfl (by decide)
  have l78 : L 78 = 120 := hW.2.1 78 120 rfl (by decide)
  have l79 : L 79 = 120 := hW.2.1 79 120 rfl (by decide)
  have loop : ∀ (v0 : Nat) (d k : Nat) (J : Nat → Nat → Int), v = v0 → v0 < 5 → hasM I v → k + d = 120 → (∀ c, c ≠ 73 → J c = I c) → (∀ j : Nat, j < k → J 73 j = if (j : Int) < I 57 v0 then I 56 (120 * v0 + j) else 0) → RR X Y Q 0 0 12 [some (.inr (some 54)), some (.inl v), some (.inl (k : Int))] [] T L P J hn := by
    intro v0 d
    induction d with
    | zero =>
      intro k J hv0 v05 h1 hd g1 g2
      subst hv0
      have hk : k = 120 := by omega
      subst hk
      refine r_iload_n K dX8_install_12 rfl ?_
      refine r_bipush K dX8_install_13 ?_
      refine r_icmp_ge K 55 dX8_install_15 (by decide) (fun c15 => ?_) (fun c15 => ?_)
      · refine r_aload_n K dX8_install_55 rfl ?_
        refine r_aload_n K dX8_install_56 rfl ?_
        refine r_getR K dX8_install_57 f_X8_16 rfl (by first | assumption | exact hW.1 _ _ rfl | exact hW.2.2.1 _ _ _ rfl) (by first | assumption | exact hW.1 _ _ rfl | exact hW.2.2.1 _ _ _ rfl) ?_
        refine r_iload_n K dX8_install_60 rfl ?_
        refine r_iald K dX8_install_61 (by first | assumption | exact hW.1 _ _ rfl | exact hW.2.2.1 _ _ _ rfl) (by omega) (by omega) ?_
        rw [g1 57 (by decide), Int.toNat_natCast]
        refine r_putI K dX8_install_62 f_X8_163 rfl rfl (Or.inl rfl) (by first | assumption | exact hW.1 _ _ rfl | exact hW.2.2.1 _ _ _ rfl) ?_
        refine r_aload_n K dX8_install_65 rfl ?_
        refine r_iconst K dX8_install_66 ?_
        refine r_putI K dX8_install_67 f_X8_166 rfl rfl (Or.inr ⟨rfl, by first | exact Or.inl rfl | exact Or.inr rfl⟩) (by first | assumption | exact hW.1 _ _ rfl | exact hW.2.2.1 _ _ _ rfl) ?_
        refine r_aload_n K dX8_install_70 rfl ?_
        refine r_iconst K dX8_install_71 ?_
        refine r_putI K dX8_install_72 f_X8_170 rfl rfl (Or.inr ⟨rfl, by first | exact Or.inl rfl | exact Or.inr rfl⟩) (by first | assumption | exact hW.1 _ _ rfl | exact hW.2.2.1 _ _ _ rfl) ?_
        refine r_iconst K dX8_install_75 ?_
        exact q_zret K hQ rfl dX8_install_76 (by first | exact Or.inl rfl | exact Or.inr rfl) (Nat.le_refl _) (Nat.le_refl _) (⟨rfl, rfl, rfl, rfl, Or.inr ⟨h1, rfl, fun c c1 c2 => by rw [mI_ne c1, mI_ne c1, mI_ne c1, g1 c c2], fun j j1 j2 j3 => by rw [mI_nj j3, mI_nj j2, mI_nj j1, g1 54 (by decide)], by rw [mI_nj (by decide), mI_nj (by decide), mI_eq, Int.toNat_natCast], by rw [mI_nj (by decide), mI_eq], mI_eq, fun j hj => by rw [mI_ne (by decide), mI_ne (by decide), mI_ne (by decide), g2 j hj, Int.toNat_natCast]⟩⟩)
      · exact absurd c15 (by omega)
    | succ d ih =>
      intro k J hv0 v05 h1 hd g1 g2
      subst hv0
      have hb := hV.2 (120 * v0 + k)
      have hvs := hV.1 v0 v05
      have j48 : ∀ z : Int, (-128 ≤ z ∧ z < 128) → z = (if (k : Int) < I 57 v0 then I 56 (120 * v0 + k) else 0) → RR X Y Q 0 0 48 [some (.inr (some 54)), some (.inl (v0 : Int)), some (.inl (k : Int))] [.inl z, .inl (k : Int), .inr (some 73)] T L P J hn := by
        intro z hz1 hz
        refine r_bast K dX8_install_48 (by first | assumption | exact hW.1 _ _ rfl | exact hW.2.2.1 _ _ _ rfl) (by omega) (by omega) ?_
        rw [zByte_id hz1, Int.toNat_natCast]
        refine r_iinc K dX8_install_49 (by decide) rfl ?_
        refine r_goto K 12 dX8_install_52 (by decide) ?_
        refine ih (k + 1) _ rfl v05 h1 (by omega) (fun c c1 => by rw [mI_ne c1]; exact g1 c c1) (fun j hj => ?_)
        rw [mI_row]
        by_cases e : j = k
        · rw [if_pos e, hz, e]
        · rw [if_neg e]; exact g2 j (by omega)
      refine r_iload_n K dX8_install_12 rfl ?_
      refine r_bipush K dX8_install_13 ?_
      refine r_icmp_ge K 55 dX8_install_15 (by decide) (fun c15 => ?_) (fun c15 => ?_)
      · exact absurd c15 (by omega)
      · refine r_aload_n K dX8_install_18 rfl ?_
        refine r_getR K dX8_install_19 f_X8_66 rfl (by first | assumption | exact hW.1 _ _ rfl | exact hW.2.2.1 _ _ _ rfl) (by first | assumption | exact hW.1 _ _ rfl | exact hW.2.2.1 _ _ _ rfl) ?_
        refine r_iload_n K dX8_install_22 rfl ?_
        refine r_iload_n K dX8_install_23 rfl ?_
        refine r_aload_n K dX8_install_24 rfl ?_
        refine r_getR K dX8_install_25 f_X8_16 rfl (by first | assumption | exact hW.1 _ _ rfl | exact hW.2.2.1 _ _ _ rfl) (by first | assumption | exact hW.1 _ _ rfl | exact hW.2.2.1 _ _ _ rfl) ?_
        refine r_iload_n K dX8_install_28 rfl ?_
        refine r_iald K dX8_install_29 (by first | assumption | exact hW.1 _ _ rfl | exact hW.2.2.1 _ _ _ rfl) (by omega) (by omega) ?_
        rw [g1 57 (by decide), Int.toNat_natCast]
        refine r_icmp_ge K 47 dX8_install_30 (by decide) (fun c30 => ?_) (fun c30 => ?_)
        · refine r_iconst K dX8_install_47 ?_
          first | exact j48 _ hb (by rw [if_pos (by omega)]) | exact j48 _ (by omega) (by rw [if_neg (by omega)])
        · refine r_aload_n K dX8_install_33 rfl ?_
          refine r_getR K dX8_install_34 f_X8_13 rfl (by first | assumption | exact hW.1 _ _ rfl | exact hW.2.2.1 _ _ _ rfl) (by first | assumption | exact hW.1 _ _ rfl | exact hW.2.2.1 _ _ _ rfl) ?_
          refine r_bipush K dX8_install_37 ?_
          refine r_iload_n K dX8_install_39 rfl ?_
          refine r_imul K dX8_install_40 ?_
          refine r_iload_n K dX8_install_41 rfl ?_
          refine r_iadd K dX8_install_42 ?_
          refine r_bald K dX8_install_43 (by first | assumption | exact hW.1 _ _ rfl | exact hW.2.2.1 _ _ _ rfl) (by omega) (by omega) ?_
          rw [g1 56 (by decide), show (120 * (v0 : Int) + k).toNat = 120 * v0 + k by omega]
          refine r_goto K 48 dX8_install_44 (by decide) ?_
          first | exact j48 _ hb (by rw [if_pos (by omega)]) | exact j48 _ (by omega) (by rw [if_neg (by omega)])
  refine r_aload_n K dX8_install_0 rfl ?_
  refine r_iload_n K dX8_install_1 rfl ?_
  refine rcV1p K dX8_install_2 c_X8_117 v_X8_isVersion (by first | assumption | exact hW.1 _ _ rfl | exact hW.2.2.1 _ _ _ rfl) (k_isVersion hW) (by decide) (Nat.le_of_ble_eq_true rfl) ?_
  refine r_if_ne K 10 dX8_install_5 (by decide) (fun c5 => ?_) (fun c5 => ?_)
  · have h1 : hasM I v := by
      by_cases q : hasM I v
      · exact q
      · rw [if_neg q] at c5; exact absurd rfl c5
    obtain ⟨v0, rfl⟩ : ∃ n : Nat, v = n := ⟨v.toNat, by have := h1.1; omega⟩
    have v05 : v0 < 5 := by have := h1.2.1; omega
    refine r_iconst K dX8_install_10 ?_
    refine r_istore_n K dX8_install_11 (by decide) ?_
    exact loop v0 120 0 I rfl v05 h1 rfl (fun _ _ => rfl) (fun j hj => absurd hj (by omega))
  · have h1 : ¬ (hasM I v) := fun q => by rw [if_pos q] at c5; exact absurd c5 (by decide)
    refine r_iconst K dX8_install_8 ?_
    exact q_zret K hQ rfl dX8_install_9 (by first | exact Or.inl rfl | exact Or.inr rfl) (Nat.le_refl _) (Nat.le_refl _) (⟨rfl, rfl, rfl, rfl, Or.inl ⟨h1, rfl, rfl⟩⟩)
set_option maxHeartbeats 4000000 in
set_option maxRecDepth 100000 in
theorem k_checkOfArea (hW : Wd T L P) (h1 : 0 ≤ I 54 24 ∧ I 54 24 ≤ 120) (h2 : ∀ j, j < 120 → -128 ≤ I 73 j ∧ I 73 j < 128) : pX8_checkOfArea [.inr (some 54)] T L P I hn (.inl (ck (aBy I) (I 54 24).toNat)) := by
  refine CT.by (by decide) (Nat.le_of_ble_eq_true rfl) fun X Y Q hQ K hv => ?_
  have l57 : L 57 = 5 := hW.2.1 57 5 rfl (by decide)
  have l56 : L 56 = 600 := hW.2.1 56 600 rfl (by decide)
  have l73 : L 73 = 120 := hW.2.1 73 120 rfl (by decide)
  have l74 : L 74 = 120 := hW.2.1 74 120 rfl (by decide)
  have l75 : L 75 = 120 := hW.2.1 75 120 rfl (by decide)
  have l76 : L 76 = 120 := hW.2.1 76 120 rfl (by decide)
  have l77 : L 77 = 120 := hW.2.1 77 120 rfl (by decide)
  have l78 : L 78 = 120 := hW.2.1 78 120 rfl (by decide)
  have l79 : L 79 = 120 := hW.2.1 79 120 rfl (by decide)
  have loop : ∀ (d k : Nat), (k : Int) + d = I 54 24 → RR X Y Q 0 0 4 [some (.inr (some 54)), some (.inl (ck (aBy I) k)), some (.inl (k : Int))] [] T L P I hn := by
    intro d
    induction d with
    | zero =>
      intro k hd
      refine r_iload_n K dX8_checkOfArea_4 rfl ?_
      refine r_aload_n K dX8_checkOfArea_5 rfl ?_
      refine r_getI K dX8_checkOfArea_6 f_X8_163 rfl (by first | assumption | exact hW.1 _ _ rfl | exact hW.2.2.1 _ _ _ rfl) ?_
      refine r_icmp_ge K 33 dX8_checkOfArea_9 (by decide) (fun c9 => ?_) (fun c9 => ?_)
      · refine r_iload_n K dX8_checkOfArea_33 rfl ?_
        exact q_iret K hQ rfl dX8_checkOfArea_34 (Nat.le_refl _) (Nat.le_refl _) (⟨by rw [show (I 54 24).toNat = k by omega], rfl, rfl, rfl, rfl, rfl⟩)
      · exact absurd c9 (by omega)
    | succ d ih =>
      intro k hd
      have hck := ck_in (aBy I) k
      have hb := h2 k (by omega)
      have hb2 : 0 ≤ aBy I k ∧ aBy I k < 256 := ⟨Int.emod_nonneg _ (by decide), Int.emod_lt_of_pos _ (by decide)⟩
      refine r_iload_n K dX8_checkOfArea_4 rfl ?_
      refine r_aload_n K dX8_checkOfArea_5 rfl ?_
      refine r_getI K dX8_checkOfArea_6 f_X8_163 rfl (by first | assumption | exact hW.1 _ _ rfl | exact hW.2.2.1 _ _ _ rfl) ?_
      refine r_icmp_ge K 33 dX8_checkOfArea_9 (by decide) (fun c9 => ?_) (fun c9 => ?_)
      · exact absurd c9 (by omega)
      · refine r_iload_n K dX8_checkOfArea_12 rfl ?_
        refine r_aload_n K dX8_checkOfArea_13 rfl ?_
        refine r_getR K dX8_checkOfArea_14 f_X8_66 rfl (by first | assumption | exact hW.1 _ _ rfl | exact hW.2.2.1 _ _ _ rfl) (by first | assumption | exact hW.1 _ _ rfl | exact hW.2.2.1 _ _ _ rfl) ?_
        refine r_iload_n K dX8_checkOfArea_17 rfl ?_
        refine r_bald K dX8_checkOfArea_18 (by first | assumption | exact hW.1 _ _ rfl | exact hW.2.2.1 _ _ _ rfl) (by omega) (by omega) ?_
        rw [Int.toNat_natCast]
        refine r_sipush K dX8_checkOfArea_19 ?_
        refine r_iand K dX8_checkOfArea_22 ?_
        rw [zAnd_255 ⟨by omega, by omega⟩]
        refine rcS2p K dX8_checkOfArea_23 c_X8_125 s_X8_next (k_next hck hb2) (by decide) (Nat.le_of_ble_eq_true rfl) ?_
        refine r_istore_n K dX8_checkOfArea_26 (by decide) ?_
        refine r_iinc K dX8_checkOfArea_27 (by decide) rfl ?_
        refine r_goto K 4 dX8_checkOfArea_30 (by decide) ?_
        exact ih (k + 1) (by omega)
  refine r_iconst K dX8_checkOfArea_0 ?_
  refine r_istore_n K dX8_checkOfArea_1 (by decide) ?_
  refine r_iconst K dX8_checkOfArea_2 ?_
  refine r_istore_n K dX8_checkOfArea_3 (by decide) ?_
  exact loop (I 54 24).toNat 0 (by omega)
def mAll (I : Nat → Nat → Int) : Int := I 54 27 + 2 + 2 * I 54 28
set_option maxHeartbeats 4000000 in
set_option maxRecDepth 100000 in
theorem k_X8_allWrites (hW : Wd T L P) (h1 : 0 ≤ I 54 27 ∧ I 54 27 ≤ 1000) (h2 : 0 ≤ I 54 28 ∧ I 54 28 ≤ 1000) : pX8_allWrites [.inr (some 54)] T L P I hn (.inl (mAll I)) := by
  refine CT.by (by decide) (Nat.le_of_ble_eq_true rfl) fun X Y Q hQ K hv => ?_
  refine r_aload_n K dX8_allWrites_0 rfl ?_
  refine r_getI K dX8_allWrites_1 f_X8_173 rfl (by first | assumption | exact hW.1 _ _ rfl | exact hW.2.2.1 _ _ _ rfl) ?_
  refine r_iconst K dX8_allWrites_4 ?_
  refine r_iadd K dX8_allWrites_5 ?_
  refine r_iconst K dX8_allWrites_6 ?_
  refine r_aload_n K dX8_allWrites_7 rfl ?_
  refine r_getI K dX8_allWrites_8 f_X8_176 rfl (by first | assumption | exact hW.1 _ _ rfl | exact hW.2.2.1 _ _ _ rfl) ?_
  refine r_imul K dX8_allWrites_11 ?_
  refine r_iadd K dX8_allWrites_12 ?_
  exact q_iret K hQ rfl dX8_allWrites_13 (Nat.le_refl _) (Nat.le_refl _) (⟨rfl, rfl, rfl, rfl, rfl, rfl⟩)
/-- what the model's device writes next -/
def mNew (I : Nat → Nat → Int) (q : Nat) : Int := zByte (if I 75 q = -1 then I 77 q else (if I 79 (I 75 q).toNat = -1 then I 73 (I 75 q).toNat else I 74 (I 79 (I 75 q).toNat).toNat) + I 76 q)
def mQ (I : Nat → Nat → Int) : Int := if I 54 31 = 0 then (I 54 26 - I 54 27 - 1) / 2 else I 54 28 - 1 - (I 54 26 - I 54 27 - 1) / 2
def mW0 (I : Nat → Nat → Int) : Nat → Nat → Int :=
  if I 54 26 < I 54 27 then mI I 74 (I 54 26).toNat (I 73 (I 78 (I 54 26).toNat).toNat)
  else if I 54 26 = mAll I - 1 then mI (mI I 54 24 (I 54 28)) 54 29 0
  else if I 54 27 < I 54 26 ∧ (I 54 26 - I 54 27) % 2 = 1 then mI I 73 (mQ I).toNat (mNew I (mQ I).toNat)
  else I
def mW (I : Nat → Nat → Int) : Nat → Nat → Int := mI (mI (mW0 I) 54 25 (I 54 25 + 1)) 54 26 (I 54 26 + 1)
set_option maxHeartbeats 4000000 in
set_option maxRecDepth 100000 in
theorem k_writeOne {C : Nat → Nat → Int} {w : Int} (hW : Wd T L P) (hD : DV C I) (hb : C 41 9 ≠ 0) (hw : w = I 54 26) (h25 : -1 ≤ I 54 25 ∧ I 54 25 ≤ 2000000000) : iX8_writeOne [.inr (some 54), .inl w] T L P I hn (fun r J => r = none ∧ J = mW I) := by
  refine CT.by (by decide) (Nat.le_of_ble_eq_true rfl) fun X Y Q hQ K hv => ?_
  have l57 : L 57 = 5 := hW.2.1 57 5 rfl (by decide)
  have l56 : L 56 = 600 := hW.2.1 56 600 rfl (by decide)
  have l73 : L 73 = 120 := hW.2.1 73 120 rfl (by decide)
  have l74 : L 74 = 120 := hW.2.1 74 120 rfl (by decide)
  have l75 : L 75 = 120 := hW.2.1 75 120 rfl (by decide)
  have l76 : L 76 = 120 := hW.2.1 76 120 rfl (by decide)
  have l77 : L 77 = 120 := hW.2.1 77 120 rfl (by decide)
  have l78 : L 78 = 120 := hW.2.1 78 120 rfl (by decide)
  have l79 : L 79 = 120 := hW.2.1 79 120 rfl (by decide)
  obtain ⟨-, d2, -, -, -, d6, -⟩ := hD
  obtain ⟨⟨b1, b2, b3, b4, b5, b6, b7⟩, e26, e27, e28, e31, e7, u1, u2, u3⟩ := d6 hb
  have hall : dAll C = C 41 4 + 1 + 2 * C 44 3 + 1 := rfl
  have hmll : mAll I = I 54 27 + 2 + 2 * I 54 28 := rfl
  subst hw
  have j175 : ∀ (J : Nat → Nat → Int) (g2 g3 g4 : Option PV), J = mW0 I → J 54 25 = I 54 25 → J 54 26 = I 54 26 → RR X Y Q 0 0 175 [some (.inr (some 54)), some (.inl (I 54 26)), g2, g3, g4] [] T L P J hn := by
    intro J g2 g3 g4 hJ h5 h6
    refine r_aload_n K dX8_writeOne_175 rfl ?_
    refine r_dup K dX8_writeOne_176 ?_
    refine r_getI K dX8_writeOne_177 f_X8_196 rfl (by first | assumption | exact hW.1 _ _ rfl | exact hW.2.2.1 _ _ _ rfl) ?_
    rw [h5]
    refine r_iconst K dX8_writeOne_180 ?_
    refine r_iadd K dX8_writeOne_181 ?_
    refine r_putI K dX8_writeOne_182 f_X8_196 rfl rfl (Or.inl rfl) (by first | assumption | exact hW.1 _ _ rfl | exact hW.2.2.1 _ _ _ rfl) ?_
    refine r_aload_n K dX8_writeOne_185 rfl ?_
    refine r_dup K dX8_writeOne_186 ?_
    refine r_getI K dX8_writeOne_187 f_X8_190 rfl (by first | assumption | exact hW.1 _ _ rfl | exact hW.2.2.1 _ _ _ rfl) ?_
    rw [mI_nj (by decide), h6]
    refine r_iconst K dX8_writeOne_190 ?_
    refine r_iadd K dX8_writeOne_191 ?_
    refine r_putI K dX8_writeOne_192 f_X8_190 rfl rfl (Or.inl rfl) (by first | assumption | exact hW.1 _ _ rfl | exact hW.2.2.1 _ _ _ rfl) ?_
    exact q_vret K hQ rfl dX8_writeOne_195 (Nat.le_refl _) (Nat.le_refl _) (⟨rfl, rfl, rfl, rfl, rfl, by rw [mW, hJ]⟩)
  have j104 : ∀ (k : Int), ¬ I 54 26 < I 54 27 → ¬ I 54 26 = mAll I - 1 → I 54 27 < I 54 26 ∧ (I 54 26 - I 54 27) % 2 = 1 → RR X Y Q 0 0 104 [some (.inr (some 54)), some (.inl (I 54 26)), some (.inl k), none, none] [.inl (mQ I)] T L P I hn := by
    intro k c1 c2 c3
    have hq : 0 ≤ mQ I ∧ mQ I < C 44 3 := by unfold mQ; split <;> omega
    obtain ⟨q, hq0⟩ : ∃ q : Nat, mQ I = q := ⟨(mQ I).toNat, by omega⟩
    have b5q := b5 q (by omega)
    have u1q := u1 q (by omega)
    have hgo : ∀ (J : Nat → Nat → Int), J = mI I 73 q (mNew I q) → J = mW0 I := fun J hJ => by rw [mW0, if_neg c1, if_neg c2, if_pos c3, hJ, hq0, Int.toNat_natCast]
    rw [hq0]
    have j173 : ∀ (z p : Int), zByte z = mNew I q → RR X Y Q 0 0 173 [some (.inr (some 54)), some (.inl (I 54 26)), some (.inl k), some (.inl (q : Int)), some (.inl p)] [.inl z, .inl (q : Int), .inr (some 73)] T L P I hn := by
      intro z p hz
      refine r_i2b K dX8_writeOne_173 ?_
      refine r_bast K dX8_writeOne_174 (by first | assumption | exact hW.1 _ _ rfl | exact hW.2.2.1 _ _ _ rfl) (by omega) (by omega) ?_
      rw [zByte_id (zByte_in _), hz, Int.toNat_natCast]
      exact j175 _ _ _ _ (hgo _ rfl) (by rw [mI_ne (by decide)]) (by rw [mI_ne (by decide)])
    have hbq : ∀ (p : Nat), I 75 q = p → p < 120 → (-128 ≤ I 73 p ∧ I 73 p < 128) ∧ ((-1 ≤ I 79 p ∧ I 79 p < 120) ∧ (I 79 p ≠ -1 → -128 ≤ I 74 (I 79 p).toNat ∧ I 74 (I 79 p).toNat < 128)) := by
      intro p hp hp1
      refine ⟨(d2 p hp1).1.2, ?_⟩
      by_cases e : C 47 p = 0
      · have := (u3 p hp1).1 e
        exact ⟨by omega, fun h => absurd this h⟩
      · obtain ⟨k, k1, k2, k3⟩ := (u3 p hp1).2 e
        exact ⟨by omega, fun _ => by rw [k2, Int.toNat_natCast]; exact (d2 k (by omega)).2.1⟩
    refine r_istore_n K dX8_writeOne_104 (by decide) ?_
    refine r_aload_n K dX8_writeOne_105 rfl ?_
    refine r_getR K dX8_writeOne_106 f_X8_72 rfl (by first | assumption | exact hW.1 _ _ rfl | exact hW.2.2.1 _ _ _ rfl) (by first | assumption | exact hW.1 _ _ rfl | exact hW.2.2.1 _ _ _ rfl) ?_
    refine r_iload_n K dX8_writeOne_109 rfl ?_
    refine r_iald K dX8_writeOne_110 (by first | assumption | exact hW.1 _ _ rfl | exact hW.2.2.1 _ _ _ rfl) (by omega) (by omega) ?_
    rw [Int.toNat_natCast]
    refine r_istore K dX8_writeOne_111 (by decide) ?_
    refine r_aload_n K dX8_writeOne_113 rfl ?_
    refine r_getR K dX8_writeOne_114 f_X8_66 rfl (by first | assumption | exact hW.1 _ _ rfl | exact hW.2.2.1 _ _ _ rfl) (by first | assumption | exact hW.1 _ _ rfl | exact hW.2.2.1 _ _ _ rfl) ?_
    refine r_iload_n K dX8_writeOne_117 rfl ?_
    refine r_iload K dX8_writeOne_118 rfl ?_
    refine r_iconst K dX8_writeOne_120 ?_
    refine r_icmp_ne K 133 dX8_writeOne_121 (by decide) (fun c121 => ?_) (fun c121 => ?_)
    · obtain ⟨p, hp⟩ : ∃ p : Nat, I 75 q = p := ⟨(I 75 q).toNat, by omega⟩
      rw [hp]
      have hb1 := hbq p hp (by omega)
      have hsh := u1q.2.2 (by omega)
      refine r_aload_n K dX8_writeOne_133 rfl ?_
      refine r_getR K dX8_writeOne_134 f_X8_84 rfl (by first | assumption | exact hW.1 _ _ rfl | exact hW.2.2.1 _ _ _ rfl) (by first | assumption | exact hW.1 _ _ rfl | exact hW.2.2.1 _ _ _ rfl) ?_
      refine r_iload K dX8_writeOne_137 rfl ?_
      refine r_iald K dX8_writeOne_139 (by first | assumption | exact hW.1 _ _ rfl | exact hW.2.2.1 _ _ _ rfl) (by omega) (by omega) ?_
      rw [Int.toNat_natCast]
      refine r_iconst K dX8_writeOne_140 ?_
      refine r_icmp_ne K 154 dX8_writeOne_141 (by decide) (fun c141 => ?_) (fun c141 => ?_)
      · have hb2 := hb1.2.2 c141
        refine r_aload_n K dX8_writeOne_154 rfl ?_
        refine r_getR K dX8_writeOne_155 f_X8_69 rfl (by first | assumption | exact hW.1 _ _ rfl | exact hW.2.2.1 _ _ _ rfl) (by first | assumption | exact hW.1 _ _ rfl | exact hW.2.2.1 _ _ _ rfl) ?_
        refine r_aload_n K dX8_writeOne_158 rfl ?_
        refine r_getR K dX8_writeOne_159 f_X8_84 rfl (by first | assumption | exact hW.1 _ _ rfl | exact hW.2.2.1 _ _ _ rfl) (by first | assumption | exact hW.1 _ _ rfl | exact hW.2.2.1 _ _ _ rfl) ?_
        refine r_iload K dX8_writeOne_162 rfl ?_
        refine r_iald K dX8_writeOne_164 (by first | assumption | exact hW.1 _ _ rfl | exact hW.2.2.1 _ _ _ rfl) (by omega) (by omega) ?_
        rw [Int.toNat_natCast]
        refine r_bald K dX8_writeOne_165 (by first | assumption | exact hW.1 _ _ rfl | exact hW.2.2.1 _ _ _ rfl) (by omega) (by omega) ?_
        refine r_aload_n K dX8_writeOne_166 rfl ?_
        refine r_getR K dX8_writeOne_167 f_X8_75 rfl (by first | assumption | exact hW.1 _ _ rfl | exact hW.2.2.1 _ _ _ rfl) (by first | assumption | exact hW.1 _ _ rfl | exact hW.2.2.1 _ _ _ rfl) ?_
        refine r_iload_n K dX8_writeOne_170 rfl ?_
        refine r_iald K dX8_writeOne_171 (by first | assumption | exact hW.1 _ _ rfl | exact hW.2.2.1 _ _ _ rfl) (by omega) (by omega) ?_
        rw [Int.toNat_natCast]
        refine r_iadd K dX8_writeOne_172 ?_
        first
        | exact j173 _ _ (by rw [mNew, if_pos c121])
        | exact j173 _ _ (by rw [mNew, if_neg c121, hp, Int.toNat_natCast, if_pos c141])
        | exact j173 _ _ (by rw [mNew, if_neg c121, hp, Int.toNat_natCast, if_neg c141])
      · refine r_aload_n K dX8_writeOne_144 rfl ?_
        refine r_getR K dX8_writeOne_145 f_X8_66 rfl (by first | assumption | exact hW.1 _ _ rfl | exact hW.2.2.1 _ _ _ rfl) (by first | assumption | exact hW.1 _ _ rfl | exact hW.2.2.1 _ _ _ rfl) ?_
        refine r_iload K dX8_writeOne_148 rfl ?_
        refine r_bald K dX8_writeOne_150 (by first | assumption | exact hW.1 _ _ rfl | exact hW.2.2.1 _ _ _ rfl) (by omega) (by omega) ?_
        rw [Int.toNat_natCast]
        refine r_goto K 166 dX8_writeOne_151 (by decide) ?_
        refine r_aload_n K dX8_writeOne_166 rfl ?_
        refine r_getR K dX8_writeOne_167 f_X8_75 rfl (by first | assumption | exact hW.1 _ _ rfl | exact hW.2.2.1 _ _ _ rfl) (by first | assumption | exact hW.1 _ _ rfl | exact hW.2.2.1 _ _ _ rfl) ?_
        refine r_iload_n K dX8_writeOne_170 rfl ?_
        refine r_iald K dX8_writeOne_171 (by first | assumption | exact hW.1 _ _ rfl | exact hW.2.2.1 _ _ _ rfl) (by omega) (by omega) ?_
        rw [Int.toNat_natCast]
        refine r_iadd K dX8_writeOne_172 ?_
        first
        | exact j173 _ _ (by rw [mNew, if_pos c121])
        | exact j173 _ _ (by rw [mNew, if_neg c121, hp, Int.toNat_natCast, if_pos c141])
        | exact j173 _ _ (by rw [mNew, if_neg c121, hp, Int.toNat_natCast, if_neg c141])
    · have had := u1q.2.1 (by omega)
      refine r_aload_n K dX8_writeOne_124 rfl ?_
      refine r_getR K dX8_writeOne_125 f_X8_78 rfl (by first | assumption | exact hW.1 _ _ rfl | exact hW.2.2.1 _ _ _ rfl) (by first | assumption | exact hW.1 _ _ rfl | exact hW.2.2.1 _ _ _ rfl) ?_
      refine r_iload_n K dX8_writeOne_128 rfl ?_
      refine r_iald K dX8_writeOne_129 (by first | assumption | exact hW.1 _ _ rfl | exact hW.2.2.1 _ _ _ rfl) (by omega) (by omega) ?_
      rw [Int.toNat_natCast]
      refine r_goto K 173 dX8_writeOne_130 (by decide) ?_
      first
      | exact j173 _ _ (by rw [mNew, if_pos c121])
      | exact j173 _ _ (by rw [mNew, if_neg c121, hp, Int.toNat_natCast, if_pos c141])
      | exact j173 _ _ (by rw [mNew, if_neg c121, hp, Int.toNat_natCast, if_neg c141])
  refine r_iload_n K dX8_writeOne_0 rfl ?_
  refine r_aload_n K dX8_writeOne_1 rfl ?_
  refine r_getI K dX8_writeOne_2 f_X8_173 rfl (by first | assumption | exact hW.1 _ _ rfl | exact hW.2.2.1 _ _ _ rfl) ?_
  refine r_icmp_ge K 28 dX8_writeOne_5 (by decide) (fun c5 => ?_) (fun c5 => ?_)
  · refine r_iload_n K dX8_writeOne_28 rfl ?_
    refine r_aload_n K dX8_writeOne_29 rfl ?_
    refine rcV0p K dX8_writeOne_30 c_X8_193 v_X8_allWrites (by first | assumption | exact hW.1 _ _ rfl | exact hW.2.2.1 _ _ _ rfl) (k_X8_allWrites hW (by omega) (by omega)) (by decide) (Nat.le_of_ble_eq_true rfl) ?_
    refine r_iconst K dX8_writeOne_33 ?_
    refine r_isub K dX8_writeOne_34 ?_
    refine r_icmp_ne K 54 dX8_writeOne_35 (by decide) (fun c35 => ?_) (fun c35 => ?_)
    · refine r_iload_n K dX8_writeOne_54 rfl ?_
      refine r_aload_n K dX8_writeOne_55 rfl ?_
      refine r_getI K dX8_writeOne_56 f_X8_173 rfl (by first | assumption | exact hW.1 _ _ rfl | exact hW.2.2.1 _ _ _ rfl) ?_
      refine r_icmp_le K 175 dX8_writeOne_59 (by decide) (fun c59 => ?_) (fun c59 => ?_)
      · first
        | exact j175 _ _ _ _ (by rw [mW0, if_neg (by omega), if_pos (by omega)]) (by rw [mI_nj (by decide), mI_nj (by decide)]) (by rw [mI_nj (by decide), mI_nj (by decide)])
        | exact j175 _ _ _ _ (by rw [mW0, if_pos (by omega), show (I 54 26).toNat = w0 by omega]) (by rw [mI_ne (by decide)]) (by rw [mI_ne (by decide)])
        | exact j175 _ _ _ _ (by rw [mW0, if_neg (by omega), if_neg (by omega), if_neg (by omega)]) rfl rfl
      · refine r_iload_n K dX8_writeOne_62 rfl ?_
        refine r_aload_n K dX8_writeOne_63 rfl ?_
        refine r_getI K dX8_writeOne_64 f_X8_173 rfl (by first | assumption | exact hW.1 _ _ rfl | exact hW.2.2.1 _ _ _ rfl) ?_
        refine r_isub K dX8_writeOne_67 ?_
        refine r_iconst K dX8_writeOne_68 ?_
        refine r_irem K dX8_writeOne_69 (by omega) (by omega) ?_
        refine r_iconst K dX8_writeOne_70 ?_
        refine r_icmp_ne K 175 dX8_writeOne_71 (by decide) (fun c71 => ?_) (fun c71 => ?_)
        · first
          | exact j175 _ _ _ _ (by rw [mW0, if_neg (by omega), if_pos (by omega)]) (by rw [mI_nj (by decide), mI_nj (by decide)]) (by rw [mI_nj (by decide), mI_nj (by decide)])
          | exact j175 _ _ _ _ (by rw [mW0, if_pos (by omega), show (I 54 26).toNat = w0 by omega]) (by rw [mI_ne (by decide)]) (by rw [mI_ne (by decide)])
          | exact j175 _ _ _ _ (by rw [mW0, if_neg (by omega), if_neg (by omega), if_neg (by omega)]) rfl rfl
        · refine r_iload_n K dX8_writeOne_74 rfl ?_
          refine r_aload_n K dX8_writeOne_75 rfl ?_
          refine r_getI K dX8_writeOne_76 f_X8_173 rfl (by first | assumption | exact hW.1 _ _ rfl | exact hW.2.2.1 _ _ _ rfl) ?_
          refine r_isub K dX8_writeOne_79 ?_
          refine r_iconst K dX8_writeOne_80 ?_
          refine r_isub K dX8_writeOne_81 ?_
          refine r_iconst K dX8_writeOne_82 ?_
          refine r_idiv K dX8_writeOne_83 (by omega) (by omega) ?_
          refine r_istore_n K dX8_writeOne_84 (by decide) ?_
          refine r_aload_n K dX8_writeOne_85 rfl ?_
          refine r_getI K dX8_writeOne_86 f_X8_187 rfl (by first | assumption | exact hW.1 _ _ rfl | exact hW.2.2.1 _ _ _ rfl) ?_
          refine r_if_eq K 103 dX8_writeOne_89 (by decide) (fun c89 => ?_) (fun c89 => ?_)
          · refine r_iload_n K dX8_writeOne_103 rfl ?_
            first
            | (have e : mQ I = I 54 28 - 1 - (I 54 26 - I 54 27 - 1) / 2 := by rw [mQ, if_neg c89]
               rw [← e]
               exact j104 _ (by omega) c35 ⟨by omega, c71⟩)
            | (have e : mQ I = (I 54 26 - I 54 27 - 1) / 2 := by rw [mQ, if_pos c89]
               rw [← e]
               exact j104 _ (by omega) c35 ⟨by omega, c71⟩)
          · refine r_aload_n K dX8_writeOne_92 rfl ?_
            refine r_getI K dX8_writeOne_93 f_X8_176 rfl (by first | assumption | exact hW.1 _ _ rfl | exact hW.2.2.1 _ _ _ rfl) ?_
            refine r_iconst K dX8_writeOne_96 ?_
            refine r_isub K dX8_writeOne_97 ?_
            refine r_iload_n K dX8_writeOne_98 rfl ?_
            refine r_isub K dX8_writeOne_99 ?_
            refine r_goto K 104 dX8_writeOne_100 (by decide) ?_
            first
            | (have e : mQ I = I 54 28 - 1 - (I 54 26 - I 54 27 - 1) / 2 := by rw [mQ, if_neg c89]
               rw [← e]
               exact j104 _ (by omega) c35 ⟨by omega, c71⟩)
            | (have e : mQ I = (I 54 26 - I 54 27 - 1) / 2 := by rw [mQ, if_pos c89]
               rw [← e]
               exact j104 _ (by omega) c35 ⟨by omega, c71⟩)
    · refine r_aload_n K dX8_writeOne_38 rfl ?_
      refine r_aload_n K dX8_writeOne_39 rfl ?_
      refine r_getI K dX8_writeOne_40 f_X8_176 rfl (by first | assumption | exact hW.1 _ _ rfl | exact hW.2.2.1 _ _ _ rfl) ?_
      refine r_putI K dX8_writeOne_43 f_X8_163 rfl rfl (Or.inl rfl) (by first | assumption | exact hW.1 _ _ rfl | exact hW.2.2.1 _ _ _ rfl) ?_
      refine r_aload_n K dX8_writeOne_46 rfl ?_
      refine r_iconst K dX8_writeOne_47 ?_
      refine r_putI K dX8_writeOne_48 f_X8_166 rfl rfl (Or.inr ⟨rfl, by first | exact Or.inl rfl | exact Or.inr rfl⟩) (by first | assumption | exact hW.1 _ _ rfl | exact hW.2.2.1 _ _ _ rfl) ?_
      refine r_goto K 175 dX8_writeOne_51 (by decide) ?_
      first
      | exact j175 _ _ _ _ (by rw [mW0, if_neg (by omega), if_pos (by omega)]) (by rw [mI_nj (by decide), mI_nj (by decide)]) (by rw [mI_nj (by decide), mI_nj (by decide)])
      | exact j175 _ _ _ _ (by rw [mW0, if_pos (by omega), show (I 54 26).toNat = w0 by omega]) (by rw [mI_ne (by decide)]) (by rw [mI_ne (by decide)])
      | exact j175 _ _ _ _ (by rw [mW0, if_neg (by omega), if_neg (by omega), if_neg (by omega)]) rfl rfl
  · obtain ⟨w0, hw0⟩ : ∃ w0 : Nat, I 54 26 = w0 := ⟨(I 54 26).toNat, by omega⟩
    have b4q := b4 w0 (by omega)
    have u2q := u2 w0 (by omega)
    have hb8 := (d2 (I 78 w0).toNat (by omega)).1.2
    refine r_aload_n K dX8_writeOne_8 rfl ?_
    refine r_getR K dX8_writeOne_9 f_X8_69 rfl (by first | assumption | exact hW.1 _ _ rfl | exact hW.2.2.1 _ _ _ rfl) (by first | assumption | exact hW.1 _ _ rfl | exact hW.2.2.1 _ _ _ rfl) ?_
    refine r_iload_n K dX8_writeOne_12 rfl ?_
    refine r_aload_n K dX8_writeOne_13 rfl ?_
    refine r_getR K dX8_writeOne_14 f_X8_66 rfl (by first | assumption | exact hW.1 _ _ rfl | exact hW.2.2.1 _ _ _ rfl) (by first | assumption | exact hW.1 _ _ rfl | exact hW.2.2.1 _ _ _ rfl) ?_
    refine r_aload_n K dX8_writeOne_17 rfl ?_
    refine r_getR K dX8_writeOne_18 f_X8_81 rfl (by first | assumption | exact hW.1 _ _ rfl | exact hW.2.2.1 _ _ _ rfl) (by first | assumption | exact hW.1 _ _ rfl | exact hW.2.2.1 _ _ _ rfl) ?_
    refine r_iload_n K dX8_writeOne_21 rfl ?_
    refine r_iald K dX8_writeOne_22 (by first | assumption | exact hW.1 _ _ rfl | exact hW.2.2.1 _ _ _ rfl) (by omega) (by omega) ?_
    rw [show (I 54 26).toNat = w0 by omega]
    refine r_bald K dX8_writeOne_23 (by first | assumption | exact hW.1 _ _ rfl | exact hW.2.2.1 _ _ _ rfl) (by omega) (by omega) ?_
    refine r_bast K dX8_writeOne_24 (by first | assumption | exact hW.1 _ _ rfl | exact hW.2.2.1 _ _ _ rfl) (by omega) (by omega) ?_
    rw [zByte_id hb8]
    refine r_goto K 175 dX8_writeOne_25 (by decide) ?_
    first
    | exact j175 _ _ _ _ (by rw [mW0, if_neg (by omega), if_pos (by omega)]) (by rw [mI_nj (by decide), mI_nj (by decide)]) (by rw [mI_nj (by decide), mI_nj (by decide)])
    | exact j175 _ _ _ _ (by rw [mW0, if_pos (by omega), show (I 54 26).toNat = w0 by omega]) (by rw [mI_ne (by decide)]) (by rw [mI_ne (by decide)])
    | exact j175 _ _ _ _ (by rw [mW0, if_neg (by omega), if_neg (by omega), if_neg (by omega)]) rfl rfl
end MO8
