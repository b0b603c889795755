/-- a patch of the shelf: its own cell and the four behind it -/
def GP (T L : Nat → Nat) (P : Nat → Nat → Option Nat) (hn q : Nat) : Prop := 84 ≤ q ∧ q + 5 ≤ 3 + hn ∧ T q = 3 ∧ (P q 0 = some (q + 1) ∧ P q 1 = some (q + 2) ∧ P q 2 = some (q + 3) ∧ P q 3 = some (q + 4)) ∧ (T (q + 1) = 10 ∧ T (q + 2) = 10 ∧ T (q + 3) = 10 ∧ T (q + 4) = 10) ∧ (L (q + 1) = 120 ∧ L (q + 2) = 120 ∧ L (q + 3) = 120 ∧ L (q + 4) = 120)
/-- the patch q holds the plan from version a to version b -/
def PKv (I : Nat → Nat → Int) (a b q : Nat) : Prop := PK (I (19 + 2 * a)) (I (19 + 2 * b)) (I (18 + 2 * a) 1).toNat (I (18 + 2 * b) 1).toNat q (q + 1) (q + 2) (q + 3) (q + 4) I
def PIv (T L : Nat → Nat) (P : Nat → Nat → Option Nat) (I : Nat → Nat → Int) (hn : Nat) : Prop :=
  (∀ t q, t < 25 → P 8 t = some q → GP T L P hn q) ∧ (∀ t t' q q', t < 25 → t' < 25 → t ≠ t' → P 8 t = some q → P 8 t' = some q' → q + 5 ≤ q' ∨ q' + 5 ≤ q) ∧ (∀ t, t < 25 → I 9 t = 0 ∨ I 9 t = 1) ∧ ∀ a b, a < 5 → b < 5 → I 9 (a * 5 + b) = 1 → ∃ q, P 8 (a * 5 + b) = some q ∧ PKv I a b q
def VS (I : Nat → Nat → Int) : Prop := ∀ v, v < 5 → 0 ≤ I (18 + 2 * v) 1 ∧ I (18 + 2 * v) 1 ≤ 120 ∧ ∀ j, j < 120 → 0 ≤ I (19 + 2 * v) j ∧ I (19 + 2 * v) j < 256
/-- what always holds of the shelf -/
def CI (T L : Nat → Nat) (P : Nat → Nat → Option Nat) (I : Nat → Nat → Int) (hn : Nat) : Prop := Wd T L P ∧ 81 ≤ hn ∧ VS I ∧ PIv T L P I hn
theorem PK.cong {A B : Nat → Int} {m n a k0 k1 k2 k3 : Nat} {I J : Nat → Nat → Int} (h : PK A B m n a k0 k1 k2 k3 I) (e : J a = I a) (e0 : J k0 = I k0) (e1 : J k1 = I k1) (e2 : J k2 = I k2) (e3 : J k3 = I k3) : PK A B m n a k0 k1 k2 k3 J := by
  unfold PK at h ⊢
  rw [e, e0, e1, e2, e3]; exact h
theorem PKv.cong {I J : Nat → Nat → Int} {a b q : Nat} (h : PKv I a b q) (ha : a < 5) (hb : b < 5) (e1 : ∀ k, 18 ≤ k → k ≤ 27 → J k = I k) (e2 : ∀ k, q ≤ k → k ≤ q + 4 → J k = I k) : PKv J a b q := by
  unfold PKv at h ⊢
  rw [e1 (19 + 2 * a) (by omega) (by omega), e1 (19 + 2 * b) (by omega) (by omega), e1 (18 + 2 * a) (by omega) (by omega), e1 (18 + 2 * b) (by omega) (by omega)]
  exact h.cong (e2 _ (by omega) (by omega)) (e2 _ (by omega) (by omega)) (e2 _ (by omega) (by omega)) (e2 _ (by omega) (by omega)) (e2 _ (by omega) (by omega))
theorem VS.cong {I J : Nat → Nat → Int} (h : VS I) (e1 : ∀ k, 18 ≤ k → k ≤ 27 → J k = I k) : VS J := fun v hv => by
  rw [e1 (18 + 2 * v) (by omega) (by omega), e1 (19 + 2 * v) (by omega) (by omega)]; exact h v hv
/-- other cells may change -/
theorem CI.cong {T L : Nat → Nat} {P : Nat → Nat → Option Nat} {I J : Nat → Nat → Int} {hn : Nat} (h : CI T L P I hn) (e : ∀ k, k = 9 ∨ (18 ≤ k ∧ k ≤ 27) ∨ 84 ≤ k → J k = I k) : CI T L P J hn := by
  obtain ⟨h1, h2, h3, h4, h5, h6, h7⟩ := h
  refine ⟨h1, h2, h3.cong (fun k a b => e k (by omega)), h4, h5, by rw [e 9 (by omega)]; exact h6, fun a b ha hb h8 => ?_⟩
  rw [e 9 (by omega)] at h8
  obtain ⟨q, g1, g2⟩ := h7 a b ha hb h8
  exact ⟨q, g1, g2.cong ha hb (fun k a b => e k (by omega)) (fun k a b => e k (by have := (h4 _ q (by omega) g1).1; omega))⟩
def pIni (a : Nat) (M : Mm) : Mm := na a 3 10 120 (na a 2 10 120 (na a 1 10 120 (na a 0 10 120 M)))
section PAO
variable {T L : Nat → Nat} {P : Nat → Nat → Option Nat} {I : Nat → Nat → Int} {hn : Nat}

set_option maxHeartbeats 4000000 in
set_option maxRecDepth 100000 in
theorem k_X3_init {a : Nat} (h1 : T a = 3) (h2 : a < 3 + hn) : gX3_init 4 480 [.inr (some a)] T L P I hn (isM (pIni a (T, L, P, I, hn))) := by
  refine CT.by (by decide) (Nat.le_of_ble_eq_true rfl) fun X Y Q hQ K hv => ?_
  refine r_aload_n K dX3_init_0 rfl ?_
  refine r_obj K dX3_init_1 o_X3_3 (Nat.le_of_ble_eq_true rfl) (Nat.le_of_ble_eq_true rfl) ?_
  refine r_aload_n K dX3_init_4 rfl ?_
  refine r_bipush K dX3_init_5 ?_
  refine r_newa K dX3_init_7 (Or.inl ⟨rfl, rfl⟩) aw_int (by omega) (by omega) (Nat.le_of_ble_eq_true rfl) (Nat.le_of_ble_eq_true rfl) ?_
  refine r_putR K dX3_init_9 f_X3_9 rfl p_X3_9 ⟨rfl, rfl⟩ (by simp only [va_up]; (repeat rw [if_neg (by omega)]); assumption) ?_
  refine r_aload_n K dX3_init_12 rfl ?_
  refine r_bipush K dX3_init_13 ?_
  refine r_newa K dX3_init_15 (Or.inl ⟨rfl, rfl⟩) aw_int (by omega) (by omega) (Nat.le_of_ble_eq_true rfl) (Nat.le_of_ble_eq_true rfl) ?_
  refine r_putR K dX3_init_17 f_X3_15 rfl p_X3_15 ⟨rfl, rfl⟩ (by simp only [va_up]; (repeat rw [if_neg (by omega)]); assumption) ?_
  refine r_aload_n K dX3_init_20 rfl ?_
  refine r_bipush K dX3_init_21 ?_
  refine r_newa K dX3_init_23 (Or.inl ⟨rfl, rfl⟩) aw_int (by omega) (by omega) (Nat.le_of_ble_eq_true rfl) (Nat.le_of_ble_eq_true rfl) ?_
  refine r_putR K dX3_init_25 f_X3_18 rfl p_X3_18 ⟨rfl, rfl⟩ (by simp only [va_up]; (repeat rw [if_neg (by omega)]); assumption) ?_
  refine r_aload_n K dX3_init_28 rfl ?_
  refine r_bipush K dX3_init_29 ?_
  refine r_newa K dX3_init_31 (Or.inl ⟨rfl, rfl⟩) aw_int (by omega) (by omega) (Nat.le_of_ble_eq_true rfl) (Nat.le_of_ble_eq_true rfl) ?_
  refine r_putR K dX3_init_33 f_X3_21 rfl p_X3_21 ⟨rfl, rfl⟩ (by simp only [va_up]; (repeat rw [if_neg (by omega)]); assumption) ?_
  exact q_vret K hQ rfl dX3_init_36 (Nat.le_refl _) (Nat.le_refl _) (⟨rfl, rfl⟩)
theorem nwP {T1 L1 : Nat → Nat} {P1 : Nat → Nat → Option Nat} {I1 : Nat → Nat → Int} {n1 : Nat} (h : (T1, L1, P1, I1, n1) = pIni (3 + hn) (nw 3 0 (T, L, P, I, hn))) :
    n1 = hn + 5 ∧ (∀ k, k < 3 + hn → T1 k = T k ∧ L1 k = L k ∧ P1 k = P k ∧ I1 k = I k) ∧ T1 (3 + hn) = 3 ∧ (P1 (3 + hn) 0 = some (3 + hn + 1) ∧ P1 (3 + hn) 1 = some (3 + hn + 2) ∧ P1 (3 + hn) 2 = some (3 + hn + 3) ∧ P1 (3 + hn) 3 = some (3 + hn + 4)) ∧ (T1 (3 + hn + 1) = 10 ∧ T1 (3 + hn + 2) = 10 ∧ T1 (3 + hn + 3) = 10 ∧ T1 (3 + hn + 4) = 10) ∧ (L1 (3 + hn + 1) = 120 ∧ L1 (3 + hn + 2) = 120 ∧ L1 (3 + hn + 3) = 120 ∧ L1 (3 + hn + 4) = 120) := by
  simp only [pIni, na, nw, pr, Prod.mk.injEq] at h
  obtain ⟨rfl, rfl, rfl, rfl, rfl⟩ := h
  have n1 : ¬ (3 + hn = 3 + (hn + 1)) := by omega
  have n2 : ¬ (3 + hn = 3 + (hn + 1 + 1)) := by omega
  have n3 : ¬ (3 + hn = 3 + (hn + 1 + 1 + 1)) := by omega
  have n4 : ¬ (3 + hn = 3 + (hn + 1 + 1 + 1 + 1)) := by omega
  refine ⟨rfl, fun k hk => ⟨?_, ?_, ?_, ?_⟩, ?_, ⟨?_, ?_, ?_, ?_⟩, ⟨?_, ?_, ?_, ?_⟩, ⟨?_, ?_, ?_, ?_⟩⟩
  · simp only [va_up]; (repeat rw [if_neg (by omega)])
  · simp only [va_up]; (repeat rw [if_neg (by omega)])
  · simp only [va_up, mP]; (repeat rw [if_neg (by omega)])
  · simp only [va_up]; (repeat rw [if_neg (by omega)])
  · simp only [va_up]; (repeat rw [if_neg (by omega)]); simp
  · simp only [mP, va_up, mH, n1, n2, n3, n4, if_true, if_false]
    try rfl
  · simp only [mP, va_up, mH, n1, n2, n3, n4, if_true, if_false]
    try rfl
  · simp only [mP, va_up, mH, n1, n2, n3, n4, if_true, if_false]
    try rfl
  · simp only [mP, va_up, mH, n1, n2, n3, n4, if_true, if_false]
    try rfl
  · simp only [va_up]; (repeat first | rw [if_neg (by omega)] | rw [if_pos (by omega)])
  · simp only [va_up]; (repeat first | rw [if_neg (by omega)] | rw [if_pos (by omega)])
  · simp only [va_up]; (repeat first | rw [if_neg (by omega)] | rw [if_pos (by omega)])
  · simp only [va_up]; (repeat first | rw [if_neg (by omega)] | rw [if_pos (by omega)])
  · simp only [va_up]; (repeat first | rw [if_neg (by omega)] | rw [if_pos (by omega)])
  · simp only [va_up]; (repeat first | rw [if_neg (by omega)] | rw [if_pos (by omega)])
  · simp only [va_up]; (repeat first | rw [if_neg (by omega)] | rw [if_pos (by omega)])
  · simp only [va_up]; (repeat first | rw [if_neg (by omega)] | rw [if_pos (by omega)])
theorem Wd.keep {T1 L1 : Nat → Nat} {P1 : Nat → Nat → Option Nat} (h : Wd T L P) (e : ∀ k, k < 84 → T1 k = T k ∧ L1 k = L k ∧ (k ≠ 8 → P1 k = P k)) : Wd T1 L1 P1 := by
  have hw : ∀ k i q : Nat, (wP k)[i]? = some (some q) → k < 84 ∧ k ≠ 8 := by
    intro k i q hq
    rcases Nat.lt_or_ge k 84 with h1 | h1
    · refine ⟨h1, fun h => ?_⟩
      subst h
      simp [wP] at hq
    · exfalso
      obtain ⟨j, rfl⟩ : ∃ j, k = j + 84 := ⟨k - 84, by omega⟩
      simp [wP] at hq
  refine ⟨fun k t hk => ?_, fun k n hk h3 => ?_, fun k i q hq => ?_, ?_, ?_⟩
  · have : k < 84 := (List.getElem?_eq_some_iff.mp hk).1
    rw [(e k this).1]; exact h.1 k t hk
  · have : k < 84 := (List.getElem?_eq_some_iff.mp hk).1
    rw [(e k this).2.1]; exact h.2.1 k n hk h3
  · rw [(e k (hw k i q hq).1).2.2 (hw k i q hq).2]; exact h.2.2.1 k i q hq
  · rw [(e 1 (by omega)).2.1]; exact h.2.2.2.1
  · rw [(e 2 (by omega)).2.1]; exact h.2.2.2.2
theorem CI.new {T1 L1 : Nat → Nat} {P1 : Nat → Nat → Option Nat} {I1 : Nat → Nat → Int} {n1 t : Nat} (hC : CI T L P I hn) (h : (T1, L1, P1, I1, n1) = pIni (3 + hn) (nw 3 0 (T, L, P, I, hn))) (ht : t < 25) (hp : P 8 t = none) : CI T1 L1 (mP P1 8 t (some (3 + hn))) I1 n1 := by
  obtain ⟨e1, e2, e3, e4, e5, e6⟩ := nwP h
  obtain ⟨hW, h81, hV, hq1, hq2, hq3, hq4⟩ := hC
  have hI : ∀ k, k < 3 + hn → I1 k = I k := fun k hk => (e2 k hk).2.2.2
  have hP8 : ∀ t', mP P1 8 t (some (3 + hn)) 8 t' = if t' = t then some (3 + hn) else P 8 t' := fun t' => by rw [mP_row, (e2 8 (by omega)).2.2.1]
  have hPne : ∀ k, k ≠ 8 → mP P1 8 t (some (3 + hn)) k = P1 k := fun k hk => mP_ne hk
  have hold : ∀ q, GP T L P hn q → GP T1 L1 (mP P1 8 t (some (3 + hn))) n1 q := by
    rintro q ⟨a1, a2, a3, ⟨b0, b1, b2, b3⟩, ⟨c0, c1, c2, c3⟩, d0, d1, d2, d3⟩
    refine ⟨a1, by omega, by rw [(e2 q (by omega)).1]; exact a3, ?_, ?_, ?_⟩
    · rw [hPne q (by omega), (e2 q (by omega)).2.2.1]; exact ⟨b0, b1, b2, b3⟩
    · rw [(e2 (q + 1) (by omega)).1, (e2 (q + 2) (by omega)).1, (e2 (q + 3) (by omega)).1, (e2 (q + 4) (by omega)).1]; exact ⟨c0, c1, c2, c3⟩
    · rw [(e2 (q + 1) (by omega)).2.1, (e2 (q + 2) (by omega)).2.1, (e2 (q + 3) (by omega)).2.1, (e2 (q + 4) (by omega)).2.1]; exact ⟨d0, d1, d2, d3⟩
  have hnew : GP T1 L1 (mP P1 8 t (some (3 + hn))) n1 (3 + hn) := ⟨by omega, by omega, e3, by rw [hPne _ (by omega)]; exact e4, e5, e6⟩
  refine ⟨hW.keep (fun k hk => ⟨(e2 k (by omega)).1, (e2 k (by omega)).2.1, fun h8 => by rw [hPne k h8]; exact (e2 k (by omega)).2.2.1⟩), by omega, hV.cong (fun k a b => hI k (by omega)), fun t' q h1 h2 => ?_, fun t1 t2 q1 q2 h1 h2 h3 h4 h5 => ?_, fun t' h1 => by rw [hI 9 (by omega)]; exact hq3 t' h1, fun a b ha hb h8 => ?_⟩
  · rw [hP8] at h2
    by_cases e : t' = t
    · rw [if_pos e] at h2; cases h2; exact hnew
    · rw [if_neg e] at h2; exact hold q (hq1 t' q h1 h2)
  · rw [hP8] at h4 h5
    by_cases a1 : t1 = t
    · rw [if_pos a1] at h4
      rw [if_neg (by omega)] at h5
      cases h4
      have := (hq1 t2 q2 h2 h5).2.1
      omega
    · rw [if_neg a1] at h4
      by_cases a2 : t2 = t
      · rw [if_pos a2] at h5
        cases h5
        have := (hq1 t1 q1 h1 h4).2.1
        omega
      · rw [if_neg a2] at h5
        exact hq2 t1 t2 q1 q2 h1 h2 h3 h4 h5
  · rw [hI 9 (by omega)] at h8
    obtain ⟨q, g1, g2⟩ := hq4 a b ha hb h8
    have hne : a * 5 + b ≠ t := fun h => by rw [h, hp] at g1; cases g1
    refine ⟨q, by rw [hP8, if_neg hne]; exact g1, g2.cong ha hb (fun k a b => hI k (by omega)) (fun k a b => hI k ?_)⟩
    have := (hq1 _ q (by omega) g1).2.1
    omega
theorem CI.plan {a b q : Nat} {J : Nat → Nat → Int} (hC : CI T L P I hn) (ha : a < 5) (hb : b < 5) (hq : P 8 (a * 5 + b) = some q) (hfr : ∀ c, c < 10 ∨ (17 < c ∧ c ≠ q ∧ c ≠ q + 1 ∧ c ≠ q + 2 ∧ c ≠ q + 3 ∧ c ≠ q + 4) → J c = I c) (hK : PKv J a b q) : CI T L P (mI J 9 (a * 5 + b) 1) hn := by
  obtain ⟨hW, h81, hV, hq1, hq2, hq3, hq4⟩ := hC
  have h84 := (hq1 _ q (by omega) hq).1
  have hver : ∀ k, 18 ≤ k → k ≤ 27 → mI J 9 (a * 5 + b) 1 k = I k := fun k h1 h2 => by rw [mI_ne (by omega)]; exact hfr k (by omega)
  refine ⟨hW, h81, hV.cong hver, hq1, hq2, fun t ht => ?_, fun a' b' ha' hb' h8 => ?_⟩
  · rw [mI_row]
    split
    · exact Or.inr rfl
    · rw [hfr 9 (by omega)]; exact hq3 t ht
  · rw [mI_row] at h8
    by_cases e : a' * 5 + b' = a * 5 + b
    · have ea : a' = a := by omega
      have eb : b' = b := by omega
      subst ea; subst eb
      exact ⟨q, hq, hK.cong ha hb (fun k h1 h2 => mI_ne (by omega)) (fun k h1 h2 => mI_ne (by omega))⟩
    · rw [if_neg e, hfr 9 (by omega)] at h8
      obtain ⟨q', g1, g2⟩ := hq4 a' b' ha' hb' h8
      have hd := hq2 _ _ q' q (by omega) (by omega) e g1 hq
      have h84' := (hq1 _ q' (by omega) g1).1
      exact ⟨q', g1, g2.cong ha' hb' hver (fun k h1 h2 => by rw [mI_ne (by omega)]; exact hfr k (by omega))⟩
/-- the patch from a to b is there, and planned; of the fixed cells only the planner's, and which are planned, change -/
def pPo (I : Nat → Nat → Int) (a b : Nat) : Po := fun r T L P J hn => CI T L P J hn ∧ (∀ k, k < 84 → k < 9 ∨ 17 < k → J k = I k) ∧ ∃ q, r = some (.inr (some q)) ∧ GP T L P hn q ∧ PKv J a b q

set_option maxHeartbeats 4000000 in
set_option maxRecDepth 100000 in
theorem k_patchOf {a b : Nat} (hC : CI T L P I hn) (ha : a < 5) (hb : b < 5) : gX5_patchOf 5 486 [.inr (some 6), .inl (a : Int), .inl (b : Int)] T L P I hn (pPo I a b) := by
  refine CT.by (by decide) (Nat.le_of_ble_eq_true rfl) fun X Y Q hQ K hv => ?_
  have j69 : ∀ (T1 L1 : Nat → Nat) (P1 : Nat → Nat → Option Nat) (J : Nat → Nat → Int) (n1 ce sl q : Nat), CI T1 L1 P1 J n1 → (∀ k, k < 84 → k < 9 ∨ 17 < k → J k = I k) → P1 8 (a * 5 + b) = some q → PKv J a b q → ce ≤ 5 → sl ≤ 486 → RR X Y Q ce sl 69 [some (.inr (some 6)), some (.inl (a : Int)), some (.inl (b : Int)), some (.inl ((a : Int) * 5 + b))] [] T1 L1 P1 J n1 := by
    intro T1 L1 P1 J n1 ce sl q hC hfr hq hK hce hsl
    have hW := hC.1
    have l8 : L1 8 = 25 := hW.2.1 8 25 rfl (by decide)
    refine r_aload_n K dX5_patchOf_69 rfl ?_
    refine r_getR K dX5_patchOf_70 f_X5_19 rfl (by first | assumption | exact hW.1 _ _ rfl | exact hW.2.2.1 _ _ _ rfl) (by first | assumption | exact hW.1 _ _ rfl | exact hW.2.2.1 _ _ _ rfl) ?_
    refine r_iload_n K dX5_patchOf_73 rfl ?_
    refine r_aald K dX5_patchOf_74 (by first | exact Or.inl (by first | assumption | exact hW.1 _ _ rfl | exact hW.2.2.1 _ _ _ rfl) | exact Or.inr (by first | assumption | exact hW.1 _ _ rfl | exact hW.2.2.1 _ _ _ rfl)) (by omega) (by omega) ?_
    rw [show ((a : Int) * 5 + b).toNat = a * 5 + b by omega, hq]
    exact q_aret K hQ rfl dX5_patchOf_75 hce hsl (⟨hC, hfr, q, rfl, hC.2.2.2.1 _ q (by omega) hq, hK⟩)
  have j28 : ∀ (T1 L1 : Nat → Nat) (P1 : Nat → Nat → Option Nat) (J : Nat → Nat → Int) (n1 ce sl q : Nat), CI T1 L1 P1 J n1 → (∀ k, k < 84 → J k = I k) → P1 8 (a * 5 + b) = some q → ce ≤ 5 → sl ≤ 486 → RR X Y Q ce sl 28 [some (.inr (some 6)), some (.inl (a : Int)), some (.inl (b : Int)), some (.inl ((a : Int) * 5 + b))] [] T1 L1 P1 J n1 := by
    intro T1 L1 P1 J n1 ce sl q hC hfr hq hce hsl
    have hW := hC.1
    have l7 : L1 7 = 5 := hW.2.1 7 5 rfl (by decide)
    have l8 : L1 8 = 25 := hW.2.1 8 25 rfl (by decide)
    have l9 : L1 9 = 25 := hW.2.1 9 25 rfl (by decide)
    have et : ((a : Int) * 5 + b).toNat = a * 5 + b := by omega
    obtain ⟨u1, u2, u3, u4, u5⟩ := hW.ver ha
    obtain ⟨w1, w2, w3, w4, w5⟩ := hW.ver hb
    obtain ⟨a1, a2, a3, ⟨b0, b1, b2, b3⟩, ⟨c0, c1, c2, c3⟩, d0, d1, d2, d3⟩ := hC.2.2.2.1 _ q (by omega) hq
    have va := hC.2.2.1 a ha
    have vb := hC.2.2.1 b hb
    have hpl := k_plan (T := T1) (L := L1) (P := P1) (I := J) (hn := n1) (m := (J (18 + 2 * a) 1).toNat) (n := (J (18 + 2 * b) 1).toNat) hW u2 u3 u4 (by omega) (by omega) (by omega) w2 w3 w4 (by omega) (by omega) (by omega) (by omega) (by omega) (by omega) (by omega) a3 b0 b1 b2 b3 c0 c1 c2 c3 d0 d1 d2 d3 (by omega) (by omega) (by omega) (by omega) (by omega) (by omega) (by omega) (by omega) (by omega) (by omega) (by omega) (fun j hj => va.2.2 j (by omega)) (fun j hj => vb.2.2 j (by omega))
    refine r_aload_n K dX5_patchOf_28 rfl ?_
    refine r_getR K dX5_patchOf_29 f_X5_23 rfl (by first | assumption | exact hW.1 _ _ rfl | exact hW.2.2.1 _ _ _ rfl) (by first | assumption | exact hW.1 _ _ rfl | exact hW.2.2.1 _ _ _ rfl) ?_
    refine r_iload_n K dX5_patchOf_32 rfl ?_
    refine r_zald K dX5_patchOf_33 (by first | assumption | exact hW.1 _ _ rfl | exact hW.2.2.1 _ _ _ rfl) (by omega) (by omega) ?_
    rw [et]
    refine r_if_ne K 69 dX5_patchOf_34 (by decide) (fun c34 => ?_) (fun c34 => ?_)
    · have h91 : J 9 (a * 5 + b) = 1 := by
        rcases hC.2.2.2.2.2.1 (a * 5 + b) (by omega) with h | h
        · exact absurd h c34
        · exact h
      obtain ⟨q', hq', hK⟩ := hC.2.2.2.2.2.2 a b ha hb h91
      have hqq : q' = q := by rw [hq] at hq'; cases hq'; rfl
      rw [hqq] at hK
      first
        | exact j69 _ _ _ _ _ _ _ q hC (fun k h1 _ => hfr k h1) hq hK hce hsl
        | (have hK : PKv J1 a b q := by
             unfold PKv
             rw [hJ1.1 (19 + 2 * a) (by omega), hJ1.1 (19 + 2 * b) (by omega), hJ1.1 (18 + 2 * a) (by omega), hJ1.1 (18 + 2 * b) (by omega)]
             exact hJ1.2
           rw [et]
           have hC2 := CI.plan hC ha hb hq hJ1.1 hK
           exact j69 _ _ _ _ _ _ _ q hC2 (fun k h1 h2 => by rw [mI_ne (by omega), hJ1.1 k (by omega)]; exact hfr k h1) hq (hK.cong ha hb (fun k h1 h2 => mI_ne (by omega)) (fun k h1 h2 => mI_ne (by omega))) hce hsl)
    · refine r_aload_n K dX5_patchOf_37 rfl ?_
      refine r_getR K dX5_patchOf_38 f_X5_30 rfl (by first | assumption | exact hW.1 _ _ rfl | exact hW.2.2.1 _ _ _ rfl) (by first | assumption | exact hW.1 _ _ rfl | exact hW.2.2.1 _ _ _ rfl) ?_
      refine r_aload_n K dX5_patchOf_41 rfl ?_
      refine r_getR K dX5_patchOf_42 f_X5_11 rfl (by first | assumption | exact hW.1 _ _ rfl | exact hW.2.2.1 _ _ _ rfl) (by first | assumption | exact hW.1 _ _ rfl | exact hW.2.2.1 _ _ _ rfl) ?_
      refine r_iload_n K dX5_patchOf_45 rfl ?_
      refine r_aald K dX5_patchOf_46 (by first | exact Or.inl (by first | assumption | exact hW.1 _ _ rfl | exact hW.2.2.1 _ _ _ rfl) | exact Or.inr (by first | assumption | exact hW.1 _ _ rfl | exact hW.2.2.1 _ _ _ rfl)) (by omega) (by omega) ?_
      rw [Int.toNat_natCast, u1]
      refine r_aload_n K dX5_patchOf_47 rfl ?_
      refine r_getR K dX5_patchOf_48 f_X5_11 rfl (by first | assumption | exact hW.1 _ _ rfl | exact hW.2.2.1 _ _ _ rfl) (by first | assumption | exact hW.1 _ _ rfl | exact hW.2.2.1 _ _ _ rfl) ?_
      refine r_iload_n K dX5_patchOf_51 rfl ?_
      refine r_aald K dX5_patchOf_52 (by first | exact Or.inl (by first | assumption | exact hW.1 _ _ rfl | exact hW.2.2.1 _ _ _ rfl) | exact Or.inr (by first | assumption | exact hW.1 _ _ rfl | exact hW.2.2.1 _ _ _ rfl)) (by omega) (by omega) ?_
      rw [Int.toNat_natCast, w1]
      refine r_aload_n K dX5_patchOf_53 rfl ?_
      refine r_getR K dX5_patchOf_54 f_X5_19 rfl (by first | assumption | exact hW.1 _ _ rfl | exact hW.2.2.1 _ _ _ rfl) (by first | assumption | exact hW.1 _ _ rfl | exact hW.2.2.1 _ _ _ rfl) ?_
      refine r_iload_n K dX5_patchOf_57 rfl ?_
      refine r_aald K dX5_patchOf_58 (by first | exact Or.inl (by first | assumption | exact hW.1 _ _ rfl | exact hW.2.2.1 _ _ _ rfl) | exact Or.inr (by first | assumption | exact hW.1 _ _ rfl | exact hW.2.2.1 _ _ _ rfl)) (by omega) (by omega) ?_
      rw [et, hq]
      refine rcV3i K dX5_patchOf_59 c_X5_50 v_X4_plan (by first | assumption | exact hW.1 _ _ rfl | exact hW.2.2.1 _ _ _ rfl) hpl ⟨by decide, by decide, hce, hsl⟩ (Nat.le_of_ble_eq_true rfl) ?_
      rintro _ J1 ⟨rfl, hJ1⟩
      refine r_aload_n K dX5_patchOf_62 rfl ?_
      refine r_getR K dX5_patchOf_63 f_X5_23 rfl (by first | assumption | exact hW.1 _ _ rfl | exact hW.2.2.1 _ _ _ rfl) (by first | assumption | exact hW.1 _ _ rfl | exact hW.2.2.1 _ _ _ rfl) ?_
      refine r_iload_n K dX5_patchOf_66 rfl ?_
      refine r_iconst K dX5_patchOf_67 ?_
      refine r_zast K dX5_patchOf_68 (by first | assumption | exact hW.1 _ _ rfl | exact hW.2.2.1 _ _ _ rfl) (by omega) (by omega) (by first | exact Or.inl rfl | exact Or.inr rfl) ?_
      first
        | exact j69 _ _ _ _ _ _ _ q hC (fun k h1 _ => hfr k h1) hq hK hce hsl
        | (have hK : PKv J1 a b q := by
             unfold PKv
             rw [hJ1.1 (19 + 2 * a) (by omega), hJ1.1 (19 + 2 * b) (by omega), hJ1.1 (18 + 2 * a) (by omega), hJ1.1 (18 + 2 * b) (by omega)]
             exact hJ1.2
           rw [et]
           have hC2 := CI.plan hC ha hb hq hJ1.1 hK
           exact j69 _ _ _ _ _ _ _ q hC2 (fun k h1 h2 => by rw [mI_ne (by omega), hJ1.1 k (by omega)]; exact hfr k h1) hq (hK.cong ha hb (fun k h1 h2 => mI_ne (by omega)) (fun k h1 h2 => mI_ne (by omega))) hce hsl)
  have hW := hC.1
  have l8 : L 8 = 25 := hW.2.1 8 25 rfl (by decide)
  have et : ((a : Int) * 5 + b).toNat = a * 5 + b := by omega
  refine r_iload_n K dX5_patchOf_0 rfl ?_
  refine r_iconst K dX5_patchOf_1 ?_
  refine r_imul K dX5_patchOf_2 ?_
  refine r_iload_n K dX5_patchOf_3 rfl ?_
  refine r_iadd K dX5_patchOf_4 ?_
  refine r_istore_n K dX5_patchOf_5 (by decide) ?_
  refine r_aload_n K dX5_patchOf_6 rfl ?_
  refine r_getR K dX5_patchOf_7 f_X5_19 rfl (by first | assumption | exact hW.1 _ _ rfl | exact hW.2.2.1 _ _ _ rfl) (by first | assumption | exact hW.1 _ _ rfl | exact hW.2.2.1 _ _ _ rfl) ?_
  refine r_iload_n K dX5_patchOf_10 rfl ?_
  refine r_aald K dX5_patchOf_11 (by first | exact Or.inl (by first | assumption | exact hW.1 _ _ rfl | exact hW.2.2.1 _ _ _ rfl) | exact Or.inr (by first | assumption | exact hW.1 _ _ rfl | exact hW.2.2.1 _ _ _ rfl)) (by omega) (by omega) ?_
  rw [et]
  refine r_ifnonnull K 28 dX5_patchOf_12 (by decide) (fun q12 c12 => ?_) (fun c12 => ?_)
  · exact j28 _ _ _ _ _ _ _ q12 hC (fun _ _ => rfl) c12 (by omega) (by omega)
  · refine r_aload_n K dX5_patchOf_15 rfl ?_
    refine r_getR K dX5_patchOf_16 f_X5_19 rfl (by first | assumption | exact hW.1 _ _ rfl | exact hW.2.2.1 _ _ _ rfl) (by first | assumption | exact hW.1 _ _ rfl | exact hW.2.2.1 _ _ _ rfl) ?_
    refine r_iload_n K dX5_patchOf_19 rfl ?_
    refine r_new K dX5_patchOf_20 (by decide) n_X5_17 (Nat.le_of_ble_eq_true rfl) (Nat.le_of_ble_eq_true rfl) ?_
    refine r_dup K dX5_patchOf_23 ?_
    refine rcI0g K dX5_patchOf_24 c_X5_49 i_X3_init (k_X3_init (by simp [va_up]) (by omega)) (by decide) (Nat.le_of_ble_eq_true rfl) ?_
    rintro _ T1 L1 P1 I1 n1 ⟨rfl, hM⟩
    have hnw := nwP hM
    have hC2 := CI.new hC hM (t := a * 5 + b) (by omega) c12
    have hW1 := hC2.1
    have l81 : L1 8 = 25 := hW1.2.1 8 25 rfl (by decide)
    refine r_aast K dX5_patchOf_27 (Or.inr ⟨hW1.1 _ _ rfl, hnw.2.2.1⟩) (by omega) (by omega) ?_
    rw [et]
    exact j28 _ _ _ _ _ _ _ (3 + hn) hC2 (fun k hk => (hnw.2.1 k (by have := hC.2.1; omega)).2.2.2) (by rw [mP_row, if_pos rfl]) (by decide) (by decide)
end PAO
