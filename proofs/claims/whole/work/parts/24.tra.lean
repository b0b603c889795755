def cn (f : Nat → Bool) : Nat → Int
  | 0 => 0
  | n + 1 => cn f n + if f n then 1 else 0
theorem cn_in (f : Nat → Bool) : ∀ n, 0 ≤ cn f n ∧ cn f n ≤ n
  | 0 => ⟨by simp [cn], by simp [cn]⟩
  | n + 1 => by
    have := cn_in f n
    simp only [cn]
    split <;> omega
theorem cn_cong {f g : Nat → Bool} : ∀ {n : Nat}, (∀ k, k < n → f k = g k) → cn f n = cn g n
  | 0, _ => rfl
  | n + 1, h => by rw [cn, cn, cn_cong (fun k hk => h k (by omega)), h n (by omega)]
theorem cn_false : ∀ n, cn (fun _ => false) n = 0
  | 0 => rfl
  | n + 1 => by rw [cn, cn_false n]; rfl
theorem cn_up {f g : Nat → Bool} {p : Nat} (h1 : f p = false) (h2 : g p = true) (h : ∀ k, k ≠ p → g k = f k) : ∀ {n : Nat}, p < n → cn g n = cn f n + 1
  | 0, hp => absurd hp (by omega)
  | n + 1, hp => by
    rw [cn, cn]
    by_cases e : n = p
    · subst e
      rw [h1, h2, cn_cong (f := g) (g := f) (fun k hk => h k (by omega))]; simp
    · rw [cn_up h1 h2 h (by omega), h n e]; omega
def latB (p q w b : Int) : Bool := if p = q then decide (b ≠ 0) else if w = 0 then decide (p < q) else decide (q < p)
/-- must old byte p be kept, for the first n new bytes -/
def kpt (s b : Nat → Int) (w : Int) : Nat → Nat → Bool
  | 0, _ => false
  | n + 1, p => kpt s b w n p || (decide (s n = (p : Int)) && latB (s n) n w (b n))
theorem kpt_cong {s b s' b' : Nat → Int} {w : Int} : ∀ {n p : Nat}, (∀ q, q < n → s q = s' q ∧ (0 ≤ s q → b q = b' q)) → kpt s b w n p = kpt s' b' w n p
  | 0, _, _ => rfl
  | n + 1, p, h => by
    rw [kpt, kpt, kpt_cong (fun q hq => h q (by omega))]
    obtain ⟨e1, e2⟩ := h n (by omega)
    by_cases e : s n = (p : Int)
    · rw [← e1, e2 (by omega)]
    · rw [← e1, decide_eq_false e]; simp
section TRA
variable {T L : Nat → Nat} {P : Nat → Nat → Option Nat} {I : Nat → Nat → Int} {hn t tp tb tk n : Nat}

set_option maxHeartbeats 4000000 in
set_option maxRecDepth 100000 in
theorem k_comesTooLate {p w : Int} {q : Nat} (ht : T t = 6) (q0 : P t 0 = some tp) (q1 : P t 1 = some tb) (q2 : P t 2 = some tk) (s0 : T tp = 10) (s1 : T tb = 10) (s2 : T tk = 12) (m0 : L tp = 120) (m1 : L tb = 120) (m2 : L tk = 120) (hq : q < 120) : pX6_comesTooLate [.inr (some t), .inl p, .inl (q : Int), .inl w] T L P I hn (.inl (if latB p q w (I tb q) = true then 1 else 0)) := by
  refine CT.by (by decide) (Nat.le_of_ble_eq_true rfl) fun X Y Q hQ K hv => ?_
  refine r_iload_n K dX6_comesTooLate_0 rfl ?_
  refine r_iload_n K dX6_comesTooLate_1 rfl ?_
  refine r_icmp_ne K 20 dX6_comesTooLate_2 (by decide) (fun c2 => ?_) (fun c2 => ?_)
  · refine r_iload_n K dX6_comesTooLate_20 rfl ?_
    refine r_if_ne K 37 dX6_comesTooLate_21 (by decide) (fun c21 => ?_) (fun c21 => ?_)
    · refine r_iload_n K dX6_comesTooLate_37 rfl ?_
      refine r_iload_n K dX6_comesTooLate_38 rfl ?_
      refine r_icmp_ge K 46 dX6_comesTooLate_39 (by decide) (fun c39 => ?_) (fun c39 => ?_)
      · refine r_iconst K dX6_comesTooLate_46 ?_
        exact q_zret K hQ rfl dX6_comesTooLate_47 (by first | exact Or.inl rfl | exact Or.inr rfl) (Nat.le_refl _) (Nat.le_refl _) (⟨by first | rw [if_pos (by simp only [latB]; rw [if_neg (by omega)]; first | (rw [if_pos (by omega)]; exact decide_eq_true (by omega)) | (rw [if_neg (by omega)]; exact decide_eq_true (by omega)))] | rw [if_neg (by simp only [latB]; rw [if_neg (by omega)]; first | (rw [if_pos (by omega)]; simp; omega) | (rw [if_neg (by omega)]; simp; omega))], rfl, rfl, rfl, rfl, rfl⟩)
      · refine r_iconst K dX6_comesTooLate_42 ?_
        refine r_goto K 47 dX6_comesTooLate_43 (by decide) ?_
        exact q_zret K hQ rfl dX6_comesTooLate_47 (by first | exact Or.inl rfl | exact Or.inr rfl) (Nat.le_refl _) (Nat.le_refl _) (⟨by first | rw [if_pos (by simp only [latB]; rw [if_neg (by omega)]; first | (rw [if_pos (by omega)]; exact decide_eq_true (by omega)) | (rw [if_neg (by omega)]; exact decide_eq_true (by omega)))] | rw [if_neg (by simp only [latB]; rw [if_neg (by omega)]; first | (rw [if_pos (by omega)]; simp; omega) | (rw [if_neg (by omega)]; simp; omega))], rfl, rfl, rfl, rfl, rfl⟩)
    · refine r_iload_n K dX6_comesTooLate_24 rfl ?_
      refine r_iload_n K dX6_comesTooLate_25 rfl ?_
      refine r_icmp_le K 33 dX6_comesTooLate_26 (by decide) (fun c26 => ?_) (fun c26 => ?_)
      · refine r_iconst K dX6_comesTooLate_33 ?_
        refine r_goto K 47 dX6_comesTooLate_34 (by decide) ?_
        exact q_zret K hQ rfl dX6_comesTooLate_47 (by first | exact Or.inl rfl | exact Or.inr rfl) (Nat.le_refl _) (Nat.le_refl _) (⟨by first | rw [if_pos (by simp only [latB]; rw [if_neg (by omega)]; first | (rw [if_pos (by omega)]; exact decide_eq_true (by omega)) | (rw [if_neg (by omega)]; exact decide_eq_true (by omega)))] | rw [if_neg (by simp only [latB]; rw [if_neg (by omega)]; first | (rw [if_pos (by omega)]; simp; omega) | (rw [if_neg (by omega)]; simp; omega))], rfl, rfl, rfl, rfl, rfl⟩)
      · refine r_iconst K dX6_comesTooLate_29 ?_
        refine r_goto K 47 dX6_comesTooLate_30 (by decide) ?_
        exact q_zret K hQ rfl dX6_comesTooLate_47 (by first | exact Or.inl rfl | exact Or.inr rfl) (Nat.le_refl _) (Nat.le_refl _) (⟨by first | rw [if_pos (by simp only [latB]; rw [if_neg (by omega)]; first | (rw [if_pos (by omega)]; exact decide_eq_true (by omega)) | (rw [if_neg (by omega)]; exact decide_eq_true (by omega)))] | rw [if_neg (by simp only [latB]; rw [if_neg (by omega)]; first | (rw [if_pos (by omega)]; simp; omega) | (rw [if_neg (by omega)]; simp; omega))], rfl, rfl, rfl, rfl, rfl⟩)
  · refine r_aload_n K dX6_comesTooLate_5 rfl ?_
    refine r_getR K dX6_comesTooLate_6 f_X6_15 rfl (by assumption) (by assumption) ?_
    refine r_iload_n K dX6_comesTooLate_9 rfl ?_
    refine r_iald K dX6_comesTooLate_10 (by assumption) (by omega) (by omega) ?_
    simp only [Int.toNat_natCast]
    refine r_if_eq K 18 dX6_comesTooLate_11 (by decide) (fun c11 => ?_) (fun c11 => ?_)
    · refine r_iconst K dX6_comesTooLate_18 ?_
      exact q_zret K hQ rfl dX6_comesTooLate_19 (by first | exact Or.inl rfl | exact Or.inr rfl) (Nat.le_refl _) (Nat.le_refl _) (⟨by first | rw [if_pos (by simp only [latB]; rw [if_pos (by omega)]; exact decide_eq_true (by omega))] | rw [if_neg (by simp only [latB]; rw [if_pos (by omega)]; simp; omega)], rfl, rfl, rfl, rfl, rfl⟩)
    · refine r_iconst K dX6_comesTooLate_14 ?_
      refine r_goto K 19 dX6_comesTooLate_15 (by decide) ?_
      exact q_zret K hQ rfl dX6_comesTooLate_19 (by first | exact Or.inl rfl | exact Or.inr rfl) (Nat.le_refl _) (Nat.le_refl _) (⟨by first | rw [if_pos (by simp only [latB]; rw [if_pos (by omega)]; exact decide_eq_true (by omega))] | rw [if_neg (by simp only [latB]; rw [if_pos (by omega)]; simp; omega)], rfl, rfl, rfl, rfl, rfl⟩)
set_option maxHeartbeats 4000000 in
set_option maxRecDepth 100000 in
theorem k_isKept {p : Int} (ht : T t = 6) (q0 : P t 0 = some tp) (q1 : P t 1 = some tb) (q2 : P t 2 = some tk) (s0 : T tp = 10) (s1 : T tb = 10) (s2 : T tk = 12) (m0 : L tp = 120) (m1 : L tb = 120) (m2 : L tk = 120) : pX6_isKept [.inr (some t), .inl p] T L P I hn (.inl (if 0 ≤ p ∧ p < 120 ∧ I tk p.toNat ≠ 0 then 1 else 0)) := by
  refine CT.by (by decide) (Nat.le_of_ble_eq_true rfl) fun X Y Q hQ K hv => ?_
  refine r_iload_n K dX6_isKept_0 rfl ?_
  refine r_if_lt K 23 dX6_isKept_1 (by decide) (fun c1 => ?_) (fun c1 => ?_)
  · refine r_iconst K dX6_isKept_23 ?_
    exact q_zret K hQ rfl dX6_isKept_24 (by first | exact Or.inl rfl | exact Or.inr rfl) (Nat.le_refl _) (Nat.le_refl _) (⟨by first | rw [if_pos (by omega)] | rw [if_neg (by omega)], rfl, rfl, rfl, rfl, rfl⟩)
  · refine r_iload_n K dX6_isKept_4 rfl ?_
    refine r_bipush K dX6_isKept_5 ?_
    refine r_icmp_ge K 23 dX6_isKept_7 (by decide) (fun c7 => ?_) (fun c7 => ?_)
    · refine r_iconst K dX6_isKept_23 ?_
      exact q_zret K hQ rfl dX6_isKept_24 (by first | exact Or.inl rfl | exact Or.inr rfl) (Nat.le_refl _) (Nat.le_refl _) (⟨by first | rw [if_pos (by omega)] | rw [if_neg (by omega)], rfl, rfl, rfl, rfl, rfl⟩)
    · refine r_aload_n K dX6_isKept_10 rfl ?_
      refine r_getR K dX6_isKept_11 f_X6_18 rfl (by assumption) (by assumption) ?_
      refine r_iload_n K dX6_isKept_14 rfl ?_
      refine r_zald K dX6_isKept_15 (by assumption) (by omega) (by omega) ?_
      refine r_if_eq K 23 dX6_isKept_16 (by decide) (fun c16 => ?_) (fun c16 => ?_)
      · refine r_iconst K dX6_isKept_23 ?_
        exact q_zret K hQ rfl dX6_isKept_24 (by first | exact Or.inl rfl | exact Or.inr rfl) (Nat.le_refl _) (Nat.le_refl _) (⟨by first | rw [if_pos (by omega)] | rw [if_neg (by omega)], rfl, rfl, rfl, rfl, rfl⟩)
      · refine r_iconst K dX6_isKept_19 ?_
        refine r_goto K 24 dX6_isKept_20 (by decide) ?_
        exact q_zret K hQ rfl dX6_isKept_24 (by first | exact Or.inl rfl | exact Or.inr rfl) (Nat.le_refl _) (Nat.le_refl _) (⟨by first | rw [if_pos (by omega)] | rw [if_neg (by omega)], rfl, rfl, rfl, rfl, rfl⟩)
set_option maxHeartbeats 4000000 in
set_option maxRecDepth 100000 in
theorem k_countKept {w : Int} (ht : T t = 6) (q0 : P t 0 = some tp) (q1 : P t 1 = some tb) (q2 : P t 2 = some tk) (s0 : T tp = 10) (s1 : T tb = 10) (s2 : T tk = 12) (m0 : L tp = 120) (m1 : L tb = 120) (m2 : L tk = 120) (hc : I t 3 = n) (hn1 : n ≤ 120) (hw : w = 0 ∨ w = 1) (n1 : tp ≠ tk) (n2 : tb ≠ tk) : iX6_countKept [.inr (some t), .inl w] T L P I hn (fun r J => r = some (.inl (cn (kpt (I tp) (I tb) w n) 120)) ∧ (∀ c, c ≠ tk → J c = I c) ∧ ∀ p, p < 120 → J tk p = if kpt (I tp) (I tb) w n p = true then 1 else 0) := by
  refine CT.by (by decide) (Nat.le_of_ble_eq_true rfl) fun X Y Q hQ K hv => ?_
  have n0 : t ≠ tk := fun e => by rw [e] at ht; omega
  have loop2 : ∀ (d q : Nat) (z mn : Int) (g4 : Option PV) (J : Nat → Nat → Int), z = q → n - q = d → q ≤ n → mn = cn (kpt (I tp) (I tb) w q) 120 → (∀ c, c ≠ tk → J c = I c) → (∀ p, p < 120 → J tk p = if kpt (I tp) (I tb) w q p = true then 1 else 0) → RR X Y Q 0 0 25 [some (.inr (some t)), some (.inl w), some (.inl mn), some (.inl z), g4] [] T L P J hn := by
    intro d
    induction d using Nat.strongRecOn with
    | ind d ih =>
      intro q z mn g4 J hz hd hq hmn hfr hrow
      subst hz
      have hcn := cn_in (kpt (I tp) (I tb) w q) 120
      have jt : J t = I t := hfr t n0
      have jp : J tp = I tp := hfr tp n1
      have jb : J tb = I tb := hfr tb n2
      -- nothing new is kept
      have same : ∀ g4, q < n → (∀ p : Nat, p < 120 → (decide (I tp q = (p : Int)) && latB (I tp q) q w (I tb q)) = true → kpt (I tp) (I tb) w q p = true) → RR X Y Q 0 0 85 [some (.inr (some t)), some (.inl w), some (.inl mn), some (.inl (q : Int)), g4] [] T L P J hn := by
        intro g4 hqn hno
        have ek : ∀ p, p < 120 → kpt (I tp) (I tb) w (q + 1) p = kpt (I tp) (I tb) w q p := fun p hp => by
          rw [kpt]
          cases hk : kpt (I tp) (I tb) w q p with
          | true => rfl
          | false =>
            cases hd : (decide (I tp q = (p : Int)) && latB (I tp q) q w (I tb q)) with
            | true => rw [hno p hp hd] at hk; cases hk
            | false => rfl
        refine r_iinc K dX6_countKept_85 (by decide) rfl ?_
        refine r_goto K 25 dX6_countKept_88 (by decide) ?_
        exact ih _ (by omega) (q + 1) _ _ _ J (by omega) rfl (by omega) (by rw [hmn]; exact cn_cong (fun k hk => (ek k hk).symm)) hfr (fun p hp => by rw [ek p hp]; exact hrow p hp)

      refine r_iload_n K dX6_countKept_25 rfl ?_
      refine r_aload_n K dX6_countKept_26 rfl ?_
      refine r_getI K dX6_countKept_27 f_X6_22 rfl (by assumption) ?_
      rw [jt, hc]
      refine r_icmp_ge K 91 dX6_countKept_30 (by decide) (fun c30 => ?_) (fun c30 => ?_)
      · have hqn : q = n := by omega
        subst hqn
        refine r_iload_n K dX6_countKept_91 rfl ?_
        exact q_iret K hQ rfl dX6_countKept_92 (Nat.le_refl _) (Nat.le_refl _) (⟨rfl, rfl, rfl, rfl, by rw [hmn], hfr, hrow⟩)
      · have hqn : q < n := by omega
        refine r_aload_n K dX6_countKept_33 rfl ?_
        refine r_getR K dX6_countKept_34 f_X6_9 rfl (by assumption) (by assumption) ?_
        refine r_iload_n K dX6_countKept_37 rfl ?_
        refine r_iald K dX6_countKept_38 (by assumption) (by omega) (by omega) ?_
        rw [Int.toNat_natCast, jp]
        refine r_istore K dX6_countKept_39 (by decide) ?_
        refine r_iload K dX6_countKept_41 rfl ?_
        refine r_if_lt K 85 dX6_countKept_43 (by decide) (fun c43 => ?_) (fun c43 => ?_)
        · exact same _ hqn (fun p hp hh => by simp at hh; omega)
        · refine r_iload K dX6_countKept_46 rfl ?_
          refine r_bipush K dX6_countKept_48 ?_
          refine r_icmp_ge K 85 dX6_countKept_50 (by decide) (fun c50 => ?_) (fun c50 => ?_)
          · exact same _ hqn (fun p hp hh => by simp at hh; omega)
          · have hrw := hrow (I tp q).toNat (by omega)
            refine r_aload_n K dX6_countKept_53 rfl ?_
            refine r_getR K dX6_countKept_54 f_X6_18 rfl (by assumption) (by assumption) ?_
            refine r_iload K dX6_countKept_57 rfl ?_
            refine r_zald K dX6_countKept_59 (by assumption) (by omega) (by omega) ?_
            rw [hrw]
            refine r_if_ne K 85 dX6_countKept_60 (by decide) (fun c60 => ?_) (fun c60 => ?_)
            · exact same _ hqn (fun p hp hh => by
                have hpe : (I tp q).toNat = p := by simp at hh; omega
                rw [← hpe]
                by_cases hk : kpt (I tp) (I tb) w q (I tp q).toNat = true
                · exact hk
                · rw [if_neg hk] at c60; exact absurd rfl c60)
            · have hkf : kpt (I tp) (I tb) w q (I tp q).toNat = false := by
                cases hk : kpt (I tp) (I tb) w q (I tp q).toNat with
                | false => rfl
                | true => rw [hk] at c60; exact absurd c60 (by decide)
              refine r_aload_n K dX6_countKept_63 rfl ?_
              refine r_iload K dX6_countKept_64 rfl ?_
              refine r_iload_n K dX6_countKept_66 rfl ?_
              refine r_iload_n K dX6_countKept_67 rfl ?_
              refine rcV3p K dX6_countKept_68 c_X6_66 v_X6_comesTooLate (by assumption) (k_comesTooLate (T := T) (L := L) (P := P) (I := J) (hn := hn) (p := I tp q) (w := w) (q := q) ht q0 q1 q2 s0 s1 s2 m0 m1 m2 (by omega)) (by decide) (Nat.le_of_ble_eq_true rfl) ?_
              rw [jb]
              refine r_if_eq K 85 dX6_countKept_71 (by decide) (fun c71 => ?_) (fun c71 => ?_)
              · exact same _ hqn (fun p hp hh => by
                  simp only [Bool.and_eq_true] at hh
                  rw [if_pos hh.2] at c71; exact absurd c71 (by decide))
              · have hlt : latB (I tp q) q w (I tb q) = true := by
                  cases hk : latB (I tp q) q w (I tb q) with
                  | true => rfl
                  | false => rw [hk] at c71; exact absurd rfl c71
                have ek1 : kpt (I tp) (I tb) w (q + 1) (I tp q).toNat = true := by
                  rw [kpt, hkf, hlt, decide_eq_true (by omega)]; rfl
                have ek2 : ∀ k, k ≠ (I tp q).toNat → kpt (I tp) (I tb) w (q + 1) k = kpt (I tp) (I tb) w q k := fun k hk => by
                  rw [kpt, decide_eq_false (by omega)]; simp
                refine r_aload_n K dX6_countKept_74 rfl ?_
                refine r_getR K dX6_countKept_75 f_X6_18 rfl (by assumption) (by assumption) ?_
                refine r_iload K dX6_countKept_78 rfl ?_
                refine r_iconst K dX6_countKept_80 ?_
                refine r_zast K dX6_countKept_81 (by assumption) (by omega) (by omega) (by first | exact Or.inl rfl | exact Or.inr rfl) ?_
                refine r_iinc K dX6_countKept_82 (by decide) rfl ?_
                refine r_iinc K dX6_countKept_85 (by decide) rfl ?_
                refine r_goto K 25 dX6_countKept_88 (by decide) ?_
                refine ih _ (by omega) (q + 1) _ _ _ _ (by omega) rfl (by omega) (by rw [hmn]; exact (cn_up hkf ek1 ek2 (by omega)).symm) (fun c hc => by rw [mI_ne hc]; exact hfr c hc) (fun p hp => ?_)
                rw [mI_row]
                by_cases e : p = (I tp q).toNat
                · rw [if_pos e, e, if_pos ek1]
                · rw [if_neg e, ek2 p e]; exact hrow p hp
  have loop1 : ∀ (d i : Nat) (z : Int) (g3 g4 : Option PV) (J : Nat → Nat → Int), z = i → 120 - i = d → i ≤ 120 → (∀ c, c ≠ tk → J c = I c) → (∀ p, p < i → J tk p = 0) → RR X Y Q 0 0 2 [some (.inr (some t)), some (.inl w), some (.inl z), g3, g4] [] T L P J hn := by
    intro d
    induction d using Nat.strongRecOn with
    | ind d ih =>
      intro i z g3 g4 J hz hd hi hfr hrow
      subst hz
      refine r_iload_n K dX6_countKept_2 rfl ?_
      refine r_bipush K dX6_countKept_3 ?_
      refine r_icmp_ge K 21 dX6_countKept_5 (by decide) (fun c5 => ?_) (fun c5 => ?_)
      · refine r_iconst K dX6_countKept_21 ?_
        refine r_istore_n K dX6_countKept_22 (by decide) ?_
        refine r_iconst K dX6_countKept_23 ?_
        refine r_istore_n K dX6_countKept_24 (by decide) ?_
        exact loop2 _ 0 0 0 _ J rfl rfl (by omega) (cn_false 120).symm hfr (fun p hp => by rw [hrow p (by omega)]; rfl)
      · refine r_aload_n K dX6_countKept_8 rfl ?_
        refine r_getR K dX6_countKept_9 f_X6_18 rfl (by assumption) (by assumption) ?_
        refine r_iload_n K dX6_countKept_12 rfl ?_
        refine r_iconst K dX6_countKept_13 ?_
        refine r_zast K dX6_countKept_14 (by assumption) (by omega) (by omega) (by first | exact Or.inl rfl | exact Or.inr rfl) ?_
        refine r_iinc K dX6_countKept_15 (by decide) rfl ?_
        refine r_goto K 2 dX6_countKept_18 (by decide) ?_
        refine ih _ (by omega) (i + 1) _ _ _ _ (by omega) rfl (by omega) (fun c hc => by rw [mI_ne hc]; exact hfr c hc) (fun p hp => ?_)
        rw [mI_row, Int.toNat_natCast]
        by_cases e : p = i
        · rw [if_pos e]
        · rw [if_neg e]; exact hrow p (by omega)
  refine r_iconst K dX6_countKept_0 ?_
  refine r_istore_n K dX6_countKept_1 (by decide) ?_
  exact loop1 _ 0 0 _ _ I rfl rfl (by omega) (fun _ _ => rfl) (fun p hp => absurd hp (by omega))
end TRA
