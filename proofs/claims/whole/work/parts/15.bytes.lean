def ck (f : Nat → Int) : Nat → Int
  | 0 => 1
  | n + 1 => (ck f n * 31 + f n + 1) % 65521
theorem ck_in (f : Nat → Int) : ∀ n, 0 ≤ ck f n ∧ ck f n < 65521
  | 0 => ⟨by show (0 : Int) ≤ 1; decide, by show (1 : Int) < 65521; decide⟩
  | n + 1 => ⟨Int.emod_nonneg _ (by decide), Int.emod_lt_of_pos _ (by decide)⟩
theorem ck_cong {f g : Nat → Int} : ∀ {n : Nat}, (∀ j, j < n → f j = g j) → ck f n = ck g n
  | 0, _ => rfl
  | n + 1, h => by rw [ck, ck, ck_cong (fun j hj => h j (by omega)), h n (by omega)]
theorem mI_mR {I : Nat → Nat → Int} {a k : Nat} {f : Nat → Int} {z : Int} : mI (mR I a f) a k z = mR I a (fun j => if j = k then z else f j) := by
  funext b
  by_cases h : b = a
  · subst h; funext j; rw [mI_row, mR_eq, mR_eq]
  · rw [mI_ne h, mR_ne h, mR_ne h]
theorem mI_mR2 {I : Nat → Nat → Int} {a k : Nat} {z : Int} : mI I a k z = mR I a (fun j => if j = k then z else I a j) := by
  funext b
  by_cases h : b = a
  · subst h; funext j; rw [mI_row, mR_eq]
  · rw [mI_ne h, mR_ne h]
theorem mR_mR {I : Nat → Nat → Int} {a : Nat} {f g : Nat → Int} : mR (mR I a f) a g = mR I a g := by
  funext b
  by_cases h : b = a
  · subst h; rw [mR_eq, mR_eq]
  · rw [mR_ne h, mR_ne h, mR_ne h]
abbrev Mm : Type := (Nat → Nat) × (Nat → Nat) × (Nat → Nat → Option Nat) × (Nat → Nat → Int) × Nat
/-- a new cell of kind t, with n places -/
def nw (t n : Nat) (M : Mm) : Mm := (va_up M.1 (3 + M.2.2.2.2) t, va_up M.2.1 (3 + M.2.2.2.2) n, va_up M.2.2.1 (3 + M.2.2.2.2) (fun _ => none), va_up M.2.2.2.1 (3 + M.2.2.2.2) (fun _ => 0), M.2.2.2.2 + 1)
def pr (k fi q : Nat) (M : Mm) : Mm := (M.1, M.2.1, mP M.2.2.1 k fi (some q), M.2.2.2.1, M.2.2.2.2)
abbrev mH (M : Mm) : Nat := M.2.2.2.2
abbrev isM (M : Mm) : Po := fun r T L P I hn => r = none ∧ (T, L, P, I, hn) = M
/-- a new array of kind t and length n, held in field fi of k -/
def na (k fi t n : Nat) (M : Mm) : Mm := pr k fi (3 + mH M) (nw t n M)
section BYT
variable {T L : Nat → Nat} {P : Nat → Nat → Option Nat} {I : Nat → Nat → Int} {hn a v : Nat}

set_option maxHeartbeats 4000000 in
set_option maxRecDepth 100000 in
theorem k_X0_init {n : Int} {N : Nat} (h0 : 0 ≤ n) (h9 : n ≤ 1000) (hN : n.toNat = N) (h1 : T a = 0) (h2 : a < 3 + hn) : gX0_init 1 N [.inr (some a), .inl n] T L P I hn (isM (na a 0 10 N (T, L, P, I, hn))) := by
  subst hN
  refine CT.by (by decide) (Nat.le_of_ble_eq_true rfl) fun X Y Q hQ K hv => ?_
  refine r_aload_n K dX0_init_0 rfl ?_
  refine r_obj K dX0_init_1 o_X0_3 (Nat.le_of_ble_eq_true rfl) (Nat.le_of_ble_eq_true rfl) ?_
  refine r_aload_n K dX0_init_4 rfl ?_
  refine r_iload_n K dX0_init_5 rfl ?_
  refine r_iconst K dX0_init_6 ?_
  refine r_max K dX0_init_7 m_X0_9 (Nat.le_of_ble_eq_true rfl) (Nat.le_of_ble_eq_true rfl) (Nat.le_of_ble_eq_true rfl) (Nat.le_of_ble_eq_true rfl) ?_
  rw [if_neg (by omega)]
  refine r_newa K dX0_init_10 (Or.inl ⟨rfl, rfl⟩) aw_int (by omega) (by omega) (Nat.le_of_ble_eq_true rfl) (Nat.le_of_eq (Nat.zero_add _)) ?_
  refine r_putR K dX0_init_12 f_X0_15 rfl p_X0_15 ⟨rfl, rfl⟩ (by simp only [va_up]; (repeat rw [if_neg (by omega)]); assumption) ?_
  exact q_vret K hQ rfl dX0_init_15 (Nat.le_refl _) (Nat.le_of_eq (Nat.zero_add _)) (⟨rfl, rfl⟩)
set_option maxHeartbeats 4000000 in
set_option maxRecDepth 100000 in
theorem k_at {i : Int} (h1 : T a = 0) (h2 : P a 0 = some v) (h3 : T v = 10) (h4 : L v < 2147483648) : pX0_at [.inr (some a), .inl i] T L P I hn (.inl (if 0 ≤ i ∧ i < I a 1 ∧ i < L v then I v i.toNat else -1)) := by
  refine CT.by (by decide) (Nat.le_of_ble_eq_true rfl) fun X Y Q hQ K hv => ?_
  refine r_iload_n K dX0_at_0 rfl ?_
  refine r_if_lt K 30 dX0_at_1 (by decide) (fun c1 => ?_) (fun c1 => ?_)
  · refine r_iconst K dX0_at_30 ?_
    exact q_iret K hQ rfl dX0_at_31 (Nat.le_refl _) (Nat.le_refl _) (⟨by first | rw [if_pos (by omega)] | rw [if_neg (by omega)], rfl, rfl, rfl, rfl, rfl⟩)
  · refine r_iload_n K dX0_at_4 rfl ?_
    refine r_aload_n K dX0_at_5 rfl ?_
    refine r_getI K dX0_at_6 f_X0_21 rfl (by assumption) ?_
    refine r_icmp_ge K 30 dX0_at_9 (by decide) (fun c9 => ?_) (fun c9 => ?_)
    · refine r_iconst K dX0_at_30 ?_
      exact q_iret K hQ rfl dX0_at_31 (Nat.le_refl _) (Nat.le_refl _) (⟨by first | rw [if_pos (by omega)] | rw [if_neg (by omega)], rfl, rfl, rfl, rfl, rfl⟩)
    · refine r_iload_n K dX0_at_12 rfl ?_
      refine r_aload_n K dX0_at_13 rfl ?_
      refine r_getR K dX0_at_14 f_X0_15 rfl (by assumption) (by assumption) ?_
      refine r_alen K dX0_at_17 (by assumption) (by omega) ?_
      refine r_icmp_ge K 30 dX0_at_18 (by decide) (fun c18 => ?_) (fun c18 => ?_)
      · refine r_iconst K dX0_at_30 ?_
        exact q_iret K hQ rfl dX0_at_31 (Nat.le_refl _) (Nat.le_refl _) (⟨by first | rw [if_pos (by omega)] | rw [if_neg (by omega)], rfl, rfl, rfl, rfl, rfl⟩)
      · refine r_aload_n K dX0_at_21 rfl ?_
        refine r_getR K dX0_at_22 f_X0_15 rfl (by assumption) (by assumption) ?_
        refine r_iload_n K dX0_at_25 rfl ?_
        refine r_iald K dX0_at_26 (by assumption) (by omega) (by omega) ?_
        refine r_goto K 31 dX0_at_27 (by decide) ?_
        exact q_iret K hQ rfl dX0_at_31 (Nat.le_refl _) (Nat.le_refl _) (⟨by first | rw [if_pos (by omega)] | rw [if_neg (by omega)], rfl, rfl, rfl, rfl, rfl⟩)
set_option maxHeartbeats 4000000 in
set_option maxRecDepth 100000 in
theorem k_checksum (h1 : T a = 0) (h2 : P a 0 = some v) (h3 : T v = 10) (h4 : L v ≤ 1000) (h5 : 0 ≤ I a 1) (h6 : I a 1 ≤ L v) (h7 : ∀ j, j < L v → 0 ≤ I v j ∧ I v j < 256) : pX0_checksum [.inr (some a)] T L P I hn (.inl (ck (I v) (I a 1).toNat)) := by
  refine CT.by (by decide) (Nat.le_of_ble_eq_true rfl) fun X Y Q hQ K hv => ?_
  have loop : ∀ (d : Nat) (i s : Int), 0 ≤ i → i ≤ I a 1 → (I a 1 - i).toNat = d → s = ck (I v) i.toNat → RR X Y Q 0 0 4 [some (.inr (some a)), some (.inl s), some (.inl i)] [] T L P I hn := by
    intro d
    induction d using Nat.strongRecOn with
    | ind d ih =>
      intro i s h8 h9 h10 hs
      have hck := ck_in (I v) i.toNat
      rw [← hs] at hck
      refine r_iload_n K dX0_checksum_4 rfl ?_
      refine r_aload_n K dX0_checksum_5 rfl ?_
      refine r_getI K dX0_checksum_6 f_X0_21 rfl (by assumption) ?_
      refine r_icmp_ge K 35 dX0_checksum_9 (by decide) (fun c9 => ?_) (fun c9 => ?_)
      · refine r_iload_n K dX0_checksum_35 rfl ?_
        exact q_iret K hQ rfl dX0_checksum_36 (Nat.le_refl _) (Nat.le_refl _) (⟨by rw [hs, show i = I a 1 by omega], rfl, rfl, rfl, rfl, rfl⟩)
      · refine r_iload_n K dX0_checksum_12 rfl ?_
        refine r_bipush K dX0_checksum_13 ?_
        refine r_imul K dX0_checksum_15 ?_
        refine r_aload_n K dX0_checksum_16 rfl ?_
        refine r_getR K dX0_checksum_17 f_X0_15 rfl (by assumption) (by assumption) ?_
        refine r_iload_n K dX0_checksum_20 rfl ?_
        refine r_iald K dX0_checksum_21 (by assumption) (by omega) (by omega) ?_
        have hb := h7 i.toNat (by omega)
        refine r_iadd K dX0_checksum_22 ?_
        refine r_iconst K dX0_checksum_23 ?_
        refine r_iadd K dX0_checksum_24 ?_
        refine r_ldc (n := 65521) K dX0_checksum_25 k_X0_34 rfl ?_
        refine r_irem K dX0_checksum_27 (by omega) (by omega) ?_
        refine r_istore_n K dX0_checksum_28 (by decide) ?_
        refine r_iinc K dX0_checksum_29 (by decide) rfl ?_
        refine r_goto K 4 dX0_checksum_32 (by decide) ?_
        exact ih _ (by omega) (i + 1) _ (by omega) (by omega) rfl (by rw [hs, show (i + 1).toNat = i.toNat + 1 by omega]; rfl)
  refine r_iconst K dX0_checksum_0 ?_
  refine r_istore_n K dX0_checksum_1 (by decide) ?_
  refine r_iconst K dX0_checksum_2 ?_
  refine r_istore_n K dX0_checksum_3 (by decide) ?_
  exact loop _ 0 1 (by omega) h5 rfl rfl
set_option maxHeartbeats 4000000 in
set_option maxRecDepth 100000 in
theorem k_takeFirst {b w : Nat} {n : Int} (h1 : T a = 0) (h2 : P a 0 = some v) (h3 : T v = 10) (h4 : L v ≤ 1000) (g1 : T b = 0) (g2 : P b 0 = some w) (g3 : T w = 10) (h5 : 0 ≤ n) (h6 : n ≤ L v) (h7 : n ≤ I b 1) (h8 : I b 1 ≤ L w) : iX0_takeFirst [.inr (some a), .inr (some b), .inl n] T L P I hn (fun r J => r = none ∧ J = mI (mR I v (fun j => if j < n.toNat then I w j else if j < L v then 0 else I v j)) a 1 n) := by
  refine CT.by (by decide) (Nat.le_of_ble_eq_true rfl) fun X Y Q hQ K hv => ?_
  have loop : ∀ (d : Nat) (i : Int) (J : Nat → Nat → Int), n ≤ i → i ≤ L v → ((L v : Int) - i).toNat = d → J = mR I v (fun j => if j < n.toNat then I w j else if j < i.toNat then 0 else I v j) → RR X Y Q 0 0 38 [some (.inr (some a)), some (.inr (some b)), some (.inl n), some (.inl n), some (.inl i)] [] T L P J hn := by
    intro d
    induction d using Nat.strongRecOn with
    | ind d ih =>
      intro i J h9 h10 h11 hJ
      refine r_iload K dX0_takeFirst_38 rfl ?_
      refine r_aload_n K dX0_takeFirst_40 rfl ?_
      refine r_getR K dX0_takeFirst_41 f_X0_15 rfl (by assumption) (by assumption) ?_
      refine r_alen K dX0_takeFirst_44 (by assumption) (by omega) ?_
      refine r_icmp_ge K 62 dX0_takeFirst_45 (by decide) (fun c45 => ?_) (fun c45 => ?_)
      · refine r_aload_n K dX0_takeFirst_62 rfl ?_
        refine r_iload_n K dX0_takeFirst_63 rfl ?_
        refine r_putI K dX0_takeFirst_64 f_X0_21 rfl rfl (Or.inl rfl) (by assumption) ?_
        exact q_vret K hQ rfl dX0_takeFirst_67 (Nat.le_refl _) (Nat.le_refl _) (⟨rfl, rfl, rfl, rfl, rfl, by rw [hJ, show i = (L v : Int) by omega, Int.toNat_natCast]⟩)
      · refine r_aload_n K dX0_takeFirst_48 rfl ?_
        refine r_getR K dX0_takeFirst_49 f_X0_15 rfl (by assumption) (by assumption) ?_
        refine r_iload K dX0_takeFirst_52 rfl ?_
        refine r_iconst K dX0_takeFirst_54 ?_
        refine r_iast K dX0_takeFirst_55 (by assumption) (by omega) (by omega) ?_
        refine r_iinc K dX0_takeFirst_56 (by decide) rfl ?_
        refine r_goto K 38 dX0_takeFirst_59 (by decide) ?_
        refine ih _ (by omega) (i + 1) _ (by omega) (by omega) rfl ?_
        rw [hJ, mI_mR]
        congr 1
        funext j
        by_cases e : j = i.toNat
        · rw [if_pos e, if_neg (by omega), if_pos (by omega)]
        · rw [if_neg e]
          by_cases e2 : j < n.toNat
          · rw [if_pos e2, if_pos e2]
          · rw [if_neg e2, if_neg e2]
            by_cases e3 : j < i.toNat
            · rw [if_pos e3, if_pos (by omega)]
            · rw [if_neg e3, if_neg (by omega)]
  refine r_iconst K dX0_takeFirst_0 ?_
  refine r_iload_n K dX0_takeFirst_1 rfl ?_
  refine r_aload_n K dX0_takeFirst_2 rfl ?_
  refine r_getR K dX0_takeFirst_3 f_X0_15 rfl (by assumption) (by assumption) ?_
  refine r_alen K dX0_takeFirst_6 (by assumption) (by omega) ?_
  refine r_aload_n K dX0_takeFirst_7 rfl ?_
  refine r_getI K dX0_takeFirst_8 f_X0_21 rfl (by assumption) ?_
  refine r_min K dX0_takeFirst_11 m_X0_25 (Nat.le_of_ble_eq_true rfl) (Nat.le_of_ble_eq_true rfl) (Nat.le_of_ble_eq_true rfl) (Nat.le_of_ble_eq_true rfl) ?_
  rw [show (if I b 1 < (L v : Int) then I b 1 else (L v : Int)) = min (I b 1) (L v) by rw [Int.min_def]; split <;> split <;> omega]
  refine r_min K dX0_takeFirst_14 m_X0_25 (Nat.le_of_ble_eq_true rfl) (Nat.le_of_ble_eq_true rfl) (Nat.le_of_ble_eq_true rfl) (Nat.le_of_ble_eq_true rfl) ?_
  rw [if_neg (by omega)]
  refine r_max K dX0_takeFirst_17 m_X0_9 (Nat.le_of_ble_eq_true rfl) (Nat.le_of_ble_eq_true rfl) (Nat.le_of_ble_eq_true rfl) (Nat.le_of_ble_eq_true rfl) ?_
  rw [show (if 0 < n then n else 0) = n by split <;> omega]
  refine r_istore_n K dX0_takeFirst_20 (by decide) ?_
  refine r_aload_n K dX0_takeFirst_21 rfl ?_
  refine r_getR K dX0_takeFirst_22 f_X0_15 rfl (by assumption) (by assumption) ?_
  refine r_iconst K dX0_takeFirst_25 ?_
  refine r_aload_n K dX0_takeFirst_26 rfl ?_
  refine r_getR K dX0_takeFirst_27 f_X0_15 rfl (by assumption) (by assumption) ?_
  refine r_iconst K dX0_takeFirst_30 ?_
  refine r_iload_n K dX0_takeFirst_31 rfl ?_
  refine r_copy K dX0_takeFirst_32 a_X0_28 (by assumption) (by assumption) (by omega) (by omega) (by omega) (Nat.le_of_ble_eq_true rfl) (Nat.le_of_ble_eq_true rfl) ?_
  refine r_iload_n K dX0_takeFirst_35 rfl ?_
  refine r_istore K dX0_takeFirst_36 (by decide) ?_
  exact loop _ n _ (by omega) h6 rfl (by
    congr 1
    funext j
    by_cases e2 : j < n.toNat
    · rw [if_pos e2, if_pos e2]
    · rw [if_neg e2, if_neg e2, if_neg e2])
end BYT
