/-- how long the run is from k on, as far as c goes -/
def lng (c : Nat → Bool) : Nat → Nat → Nat
  | 0, k => k
  | f + 1, k => if c k = true then lng c f (k + 1) else k
theorem lng_cong {c d : Nat → Bool} : ∀ {f k : Nat}, (∀ j, k ≤ j → j < k + f → c j = d j) → lng c f k = lng d f k
  | 0, _, _ => rfl
  | f + 1, k, h => by rw [lng, lng, h k (by omega) (by omega), lng_cong (fun j h1 h2 => h j (by omega) (by omega))]
theorem lng_in (c : Nat → Bool) : ∀ f k, k ≤ lng c f k ∧ lng c f k ≤ k + f ∧ ∀ j, k ≤ j → j < lng c f k → c j = true
  | 0, k => ⟨by simp [lng], by simp [lng], fun j h1 h2 => by rw [lng] at h2; omega⟩
  | f + 1, k => by
    have ih := lng_in c f (k + 1)
    rw [lng]
    split
    · rename_i h
      refine ⟨by omega, by omega, fun j h1 h2 => ?_⟩
      by_cases e : j = k
      · rw [e]; exact h
      · exact ih.2.2 j (by omega) h2
    · exact ⟨by omega, by omega, fun j h1 h2 => by omega⟩
def cAd (s : Nat → Int) (n q : Nat) : Nat → Bool := fun k => decide (k < 30 ∧ q + k < n ∧ s (q + k) = -1)
def cAl (s b : Nat → Int) (n q : Nat) : Nat → Bool := fun k => decide (q + k < n ∧ s (q + k) = s q + k ∧ b (q + k) = b q)
/-- the step of a melted patch that begins at i: kind, length, place, shift -/
def mch (s b : Nat → Int) (n i : Nat) : Int × Int × Int × Int := if s i = -1 then (2, (lng (cAd s n i) 120 1 : Nat), i, 0) else ((if b i = 0 then 0 else 1), (lng (cAl s b n i) 120 1 : Nat), s i, b i)
def mpos (s b : Nat → Int) (n : Nat) : Nat → Nat
  | 0 => 0
  | k + 1 => mpos s b n k + (mch s b n (mpos s b n k)).2.1.toNat
def mcost (s b : Nat → Int) (n : Nat) : Nat → Int
  | 0 => 3
  | k + 1 => mcost s b n k + spr (mch s b n (mpos s b n k)).1 (mch s b n (mpos s b n k)).2.1
theorem mch_ok {s b : Nat → Int} {n i : Nat} (hi : i < n) (hn : n ≤ 120) : ((mch s b n i).1 = 0 ∨ (mch s b n i).1 = 1 ∨ (mch s b n i).1 = 2) ∧ 1 ≤ (mch s b n i).2.1 ∧ (i : Int) + (mch s b n i).2.1 ≤ n := by
  unfold mch
  split
  · have h := lng_in (cAd s n i) 120 1
    refine ⟨Or.inr (Or.inr rfl), by simp only; omega, ?_⟩
    simp only
    rcases Nat.lt_or_ge (lng (cAd s n i) 120 1) 2 with e | e
    · omega
    · have := h.2.2 (lng (cAd s n i) 120 1 - 1) (by omega) (by omega)
      have := (of_decide_eq_true this).2.1
      omega
  · have h := lng_in (cAl s b n i) 120 1
    refine ⟨by simp only; split <;> simp, by simp only; omega, ?_⟩
    simp only
    rcases Nat.lt_or_ge (lng (cAl s b n i) 120 1) 2 with e | e
    · omega
    · have := h.2.2 (lng (cAl s b n i) 120 1 - 1) (by omega) (by omega)
      have := (of_decide_eq_true this).1
      omega
/-- a patch's cells hold the melted steps -/
def MK (s b : Nat → Int) (n a k0 k1 k2 k3 : Nat) (J : Nat → Nat → Int) : Prop :=
  ∃ N, mpos s b n N = n ∧ (∀ k, k < N → mpos s b n k < n) ∧ J a 4 = N ∧ J a 5 = mcost s b n N ∧ ∀ k, k < N → (J k0 k, J k1 k, J k2 k, J k3 k) = mch s b n (mpos s b n k)
section GAT
variable {T L : Nat → Nat} {P : Nat → Nat → Option Nat} {I : Nat → Nat → Int} {hn t tp tb e ep eb n : Nat}

set_option maxHeartbeats 4000000 in
set_option maxRecDepth 100000 in
theorem k_take (ht : T t = 6) (q0 : P t 0 = some tp) (q1 : P t 1 = some tb) (s0 : T tp = 10) (s1 : T tb = 10) (m0 : L tp = 120) (m1 : L tb = 120) (he : T e = 6) (e0 : P e 0 = some ep) (e1 : P e 1 = some eb) (v0 : T ep = 10) (v1 : T eb = 10) (l0 : L ep = 120) (l1 : L eb = 120) (d1 : tp ≠ ep) (d2 : tb ≠ ep) (d3 : tp ≠ eb) (d4 : tb ≠ eb) (d5 : tp ≠ tb) : iX6_take [.inr (some t), .inr (some e)] T L P I hn (fun r J => r = none ∧ (∀ c, c ≠ t → c ≠ tp → c ≠ tb → J c = I c) ∧ J t 3 = I e 3 ∧ (∀ j, j ≠ 3 → J t j = I t j) ∧ ∀ j, j < 120 → J tp j = I ep j ∧ J tb j = I eb j) := by
  refine CT.by (by decide) (Nat.le_of_ble_eq_true rfl) fun X Y Q hQ K hv => ?_
  have n1 : e ≠ tp := fun h => by rw [h] at he; omega
  have n2 : e ≠ tb := fun h => by rw [h] at he; omega
  have n3 : t ≠ tp := fun h => by rw [h] at ht; omega
  have n4 : t ≠ tb := fun h => by rw [h] at ht; omega
  refine r_aload_n K dX6_take_0 rfl ?_
  refine r_getR K dX6_take_1 f_X6_9 rfl (by assumption) (by assumption) ?_
  refine r_iconst K dX6_take_4 ?_
  refine r_aload_n K dX6_take_5 rfl ?_
  refine r_getR K dX6_take_6 f_X6_9 rfl (by assumption) (by assumption) ?_
  refine r_iconst K dX6_take_9 ?_
  refine r_bipush K dX6_take_10 ?_
  refine r_copy K dX6_take_12 a_X6_47 (by assumption) (by assumption) (by omega) (by omega) (by omega) (Nat.le_of_ble_eq_true rfl) (Nat.le_of_ble_eq_true rfl) ?_
  refine r_aload_n K dX6_take_15 rfl ?_
  refine r_getR K dX6_take_16 f_X6_15 rfl (by assumption) (by assumption) ?_
  refine r_iconst K dX6_take_19 ?_
  refine r_aload_n K dX6_take_20 rfl ?_
  refine r_getR K dX6_take_21 f_X6_15 rfl (by assumption) (by assumption) ?_
  refine r_iconst K dX6_take_24 ?_
  refine r_bipush K dX6_take_25 ?_
  refine r_copy K dX6_take_27 a_X6_47 (by assumption) (by assumption) (by omega) (by omega) (by omega) (Nat.le_of_ble_eq_true rfl) (Nat.le_of_ble_eq_true rfl) ?_
  refine r_aload_n K dX6_take_30 rfl ?_
  refine r_aload_n K dX6_take_31 rfl ?_
  refine r_getI K dX6_take_32 f_X6_22 rfl (by assumption) ?_
  rw [mR_ne n2, mR_ne n1]
  refine r_putI K dX6_take_35 f_X6_22 rfl rfl (Or.inl rfl) (by assumption) ?_
  exact q_vret K hQ rfl dX6_take_38 (Nat.le_refl _) (Nat.le_refl _) (⟨rfl, rfl, rfl, rfl, rfl, fun c c1 c2 c3 => by rw [mI_ne c1, mR_ne c3, mR_ne c2], mI_eq, fun j hj => by rw [mI_nj hj, mR_ne n4, mR_ne n3], fun j hj => by
    rw [mI_ne (Ne.symm n3), mI_ne (Ne.symm n4), mR_ne d5, mR_eq, mR_eq, mR_ne (Ne.symm d3)]
    try simp only [mR_eq]
    exact ⟨if_pos (by omega), if_pos (by omega)⟩⟩)
set_option maxHeartbeats 4000000 in
set_option maxRecDepth 100000 in
theorem k_reachThrough (ht : T t = 6) (q0 : P t 0 = some tp) (q1 : P t 1 = some tb) (s0 : T tp = 10) (s1 : T tb = 10) (m0 : L tp = 120) (m1 : L tb = 120) (he : T e = 6) (e0 : P e 0 = some ep) (e1 : P e 1 = some eb) (v0 : T ep = 10) (v1 : T eb = 10) (l0 : L ep = 120) (l1 : L eb = 120) (d1 : tp ≠ ep) (d2 : tb ≠ ep) (d3 : tp ≠ eb) (d4 : tb ≠ eb) (d5 : tp ≠ tb) (hc : I t 3 = n) (hn1 : n ≤ 120) (hce : I e 3 ≤ 120) (hb : ∀ x, x < n → 0 ≤ I tb x ∧ I tb x < 256) (hb2 : ∀ x : Nat, x < 120 → (x : Int) < I e 3 → 0 ≤ I eb x ∧ I eb x < 256) : iX6_reachThrough [.inr (some t), .inr (some e)] T L P I hn (fun r J => r = none ∧ (∀ c, c ≠ tp → c ≠ tb → J c = I c) ∧ ∀ x, x < n → J tp x = (if 0 ≤ I tp x ∧ I tp x < I e 3 then I ep (I tp x).toNat else I tp x) ∧ J tb x = (if 0 ≤ I tp x ∧ I tp x < I e 3 then (I tb x + I eb (I tp x).toNat) % 256 else I tb x)) := by
  refine CT.by (by decide) (Nat.le_of_ble_eq_true rfl) fun X Y Q hQ K hv => ?_
  have n1 : e ≠ tp := fun h => by rw [h] at he; omega
  have n2 : e ≠ tb := fun h => by rw [h] at he; omega
  have n3 : t ≠ tp := fun h => by rw [h] at ht; omega
  have n4 : t ≠ tb := fun h => by rw [h] at ht; omega
  have loop : ∀ (d q : Nat) (z : Int) (g3 : Option PV) (J : Nat → Nat → Int), z = q → n - q = d → q ≤ n → (∀ c, c ≠ tp → c ≠ tb → J c = I c) → (∀ x, x < q → J tp x = (if 0 ≤ I tp x ∧ I tp x < I e 3 then I ep (I tp x).toNat else I tp x) ∧ J tb x = (if 0 ≤ I tp x ∧ I tp x < I e 3 then (I tb x + I eb (I tp x).toNat) % 256 else I tb x)) → (∀ x, q ≤ x → J tp x = I tp x ∧ J tb x = I tb x) → RR X Y Q 0 0 2 [some (.inr (some t)), some (.inr (some e)), some (.inl z), g3] [] T L P J hn := by
    intro d
    induction d using Nat.strongRecOn with
    | ind d ih =>
      intro q z g3 J hz hd hq hfr hdone htodo
      subst hz
      have jt : J t = I t := hfr t n3 n4
      have je : J e = I e := hfr e n1 n2
      have jep : J ep = I ep := hfr ep (Ne.symm d1) (Ne.symm d2)
      have jeb : J eb = I eb := hfr eb (Ne.symm d3) (Ne.symm d4)
      obtain ⟨t1, t2⟩ := htodo q (Nat.le_refl _)
      have skip_ : ∀ g3, q < n → ¬ (0 ≤ I tp q ∧ I tp q < I e 3) → RR X Y Q 0 0 64 [some (.inr (some t)), some (.inr (some e)), some (.inl (q : Int)), g3] [] T L P J hn := by
        intro g3 hqn hno
        refine r_iinc K dX6_reachThrough_64 (by decide) rfl ?_
        refine r_goto K 2 dX6_reachThrough_67 (by decide) ?_
        refine ih _ (by omega) (q + 1) _ _ J (by omega) rfl (by omega) hfr (fun x hx => ?_) (fun x hx => htodo x (by omega))
        by_cases ex : x = q
        · subst ex
          rw [if_neg hno, if_neg hno]; exact ⟨t1, t2⟩
        · exact hdone x (by omega)
      refine r_iload_n K dX6_reachThrough_2 rfl ?_
      refine r_aload_n K dX6_reachThrough_3 rfl ?_
      refine r_getI K dX6_reachThrough_4 f_X6_22 rfl (by assumption) ?_
      rw [jt, hc]
      refine r_icmp_ge K 70 dX6_reachThrough_7 (by decide) (fun c7 => ?_) (fun c7 => ?_)
      · exact q_vret K hQ rfl dX6_reachThrough_70 (Nat.le_refl _) (Nat.le_refl _) ⟨rfl, rfl, rfl, rfl, rfl, hfr, fun x hx => hdone x (by omega)⟩
      · have hqn : q < n := by omega
        have hbq := hb q hqn
        refine r_aload_n K dX6_reachThrough_10 rfl ?_
        refine r_getR K dX6_reachThrough_11 f_X6_9 rfl (by assumption) (by assumption) ?_
        refine r_iload_n K dX6_reachThrough_14 rfl ?_
        refine r_iald K dX6_reachThrough_15 (by assumption) (by omega) (by omega) ?_
        rw [Int.toNat_natCast, t1]
        refine r_istore_n K dX6_reachThrough_16 (by decide) ?_
        refine r_iload_n K dX6_reachThrough_17 rfl ?_
        refine r_if_lt K 64 dX6_reachThrough_18 (by decide) (fun c18 => ?_) (fun c18 => ?_)
        · exact skip_ _ hqn (by omega)
        · refine r_iload_n K dX6_reachThrough_21 rfl ?_
          refine r_aload_n K dX6_reachThrough_22 rfl ?_
          refine r_getI K dX6_reachThrough_23 f_X6_22 rfl (by assumption) ?_
          rw [je]
          refine r_icmp_ge K 64 dX6_reachThrough_26 (by decide) (fun c26 => ?_) (fun c26 => ?_)
          · exact skip_ _ hqn (by omega)
          · have hb2q := hb2 (I tp q).toNat (by omega) (by omega)
            refine r_aload_n K dX6_reachThrough_29 rfl ?_
            refine r_getR K dX6_reachThrough_30 f_X6_9 rfl (by assumption) (by assumption) ?_
            refine r_iload_n K dX6_reachThrough_33 rfl ?_
            refine r_aload_n K dX6_reachThrough_34 rfl ?_
            refine r_getR K dX6_reachThrough_35 f_X6_9 rfl (by assumption) (by assumption) ?_
            refine r_iload_n K dX6_reachThrough_38 rfl ?_
            refine r_iald K dX6_reachThrough_39 (by assumption) (by omega) (by omega) ?_
            rw [jep]
            refine r_iast K dX6_reachThrough_40 (by assumption) (by omega) (by omega) ?_
            refine r_aload_n K dX6_reachThrough_41 rfl ?_
            refine r_getR K dX6_reachThrough_42 f_X6_15 rfl (by assumption) (by assumption) ?_
            refine r_iload_n K dX6_reachThrough_45 rfl ?_
            refine r_aload_n K dX6_reachThrough_46 rfl ?_
            refine r_getR K dX6_reachThrough_47 f_X6_15 rfl (by assumption) (by assumption) ?_
            refine r_iload_n K dX6_reachThrough_50 rfl ?_
            refine r_iald K dX6_reachThrough_51 (by assumption) (by omega) (by omega) ?_
            rw [mI_ne (Ne.symm d5), Int.toNat_natCast, t2]
            refine r_aload_n K dX6_reachThrough_52 rfl ?_
            refine r_getR K dX6_reachThrough_53 f_X6_15 rfl (by assumption) (by assumption) ?_
            refine r_iload_n K dX6_reachThrough_56 rfl ?_
            refine r_iald K dX6_reachThrough_57 (by assumption) (by omega) (by omega) ?_
            rw [mI_ne (Ne.symm d3), jeb]
            refine r_iadd K dX6_reachThrough_58 ?_
            refine r_sipush K dX6_reachThrough_59 ?_
            refine r_iand K dX6_reachThrough_62 ?_
            rw [zAnd_255 (show rg _ from ⟨by omega, by omega⟩)]
            refine r_iast K dX6_reachThrough_63 (by assumption) (by omega) (by omega) ?_
            refine r_iinc K dX6_reachThrough_64 (by decide) rfl ?_
            refine r_goto K 2 dX6_reachThrough_67 (by decide) ?_
            refine ih _ (by omega) (q + 1) _ _ _ (by omega) rfl (by omega) (fun c c1 c2 => by rw [mI_ne c2, mI_ne c1]; exact hfr c c1 c2) (fun x hx => ?_) (fun x hx => ?_)
            · rw [mI_ne d5, mI_row, mI_row, mI_ne (Ne.symm d5), Int.toNat_natCast]
              by_cases ex : x = q
              · subst ex
                rw [if_pos rfl, if_pos rfl, if_pos ⟨by omega, by omega⟩, if_pos ⟨by omega, by omega⟩]; exact ⟨rfl, rfl⟩
              · rw [if_neg ex, if_neg ex]; exact hdone x (by omega)
            · rw [mI_ne d5, mI_row, mI_row, mI_ne (Ne.symm d5), Int.toNat_natCast, if_neg (by omega), if_neg (by omega)]; exact htodo x (by omega)
  refine r_iconst K dX6_reachThrough_0 ?_
  refine r_istore_n K dX6_reachThrough_1 (by decide) ?_
  exact loop _ 0 0 _ I rfl rfl (by omega) (fun _ _ _ => rfl) (fun x hx => absurd hx (by omega)) (fun _ _ => ⟨rfl, rfl⟩)
set_option maxHeartbeats 4000000 in
set_option maxRecDepth 100000 in
theorem k_addedFrom {q : Nat} (ht : T t = 6) (q0 : P t 0 = some tp) (q1 : P t 1 = some tb) (s0 : T tp = 10) (s1 : T tb = 10) (m0 : L tp = 120) (m1 : L tb = 120) (hc : I t 3 = n) (hn1 : n ≤ 120) (hq : q < n) : pX6_addedFrom [.inr (some t), .inl (q : Int)] T L P I hn (.inl ((lng (cAd (I tp) n q) 120 1 : Nat) : Int)) := by
  refine CT.by (by decide) (Nat.le_of_ble_eq_true rfl) fun X Y Q hQ K hv => ?_
  have loop : ∀ (f k : Nat) (z : Int), z = k → k + f = 121 → 1 ≤ k → lng (cAd (I tp) n q) f k = lng (cAd (I tp) n q) 120 1 → RR X Y Q 0 0 2 [some (.inr (some t)), some (.inl (q : Int)), some (.inl z)] [] T L P I hn := by
    intro f
    induction f with
    | zero =>
      intro k z hz hk h1 he
      subst hz
      have ek : ((q : Int) + k).toNat = q + k := by omega
      have hfin : RR X Y Q 0 0 36 [some (.inr (some t)), some (.inl (q : Int)), some (.inl (k : Int))] [] T L P I hn := by
        refine r_iload_n K dX6_addedFrom_36 rfl ?_
        exact q_iret K hQ rfl dX6_addedFrom_37 (Nat.le_refl _) (Nat.le_refl _) (⟨by rw [← he]; rfl, rfl, rfl, rfl, rfl, rfl⟩)
      refine r_iload_n K dX6_addedFrom_2 rfl ?_
      refine r_bipush K dX6_addedFrom_3 ?_
      refine r_icmp_ge K 36 dX6_addedFrom_5 (by decide) (fun c5 => ?_) (fun c5 => ?_)
      · exact hfin
      · exact absurd c5 (by omega)
    | succ f ih =>
      intro k z hz hk h1 he
      subst hz
      have ek : ((q : Int) + k).toNat = q + k := by omega
      have no : ¬ (cAd (I tp) n q) k = true → RR X Y Q 0 0 36 [some (.inr (some t)), some (.inl (q : Int)), some (.inl (k : Int))] [] T L P I hn := by
        intro hno
        rw [lng, if_neg hno] at he
        refine r_iload_n K dX6_addedFrom_36 rfl ?_
        exact q_iret K hQ rfl dX6_addedFrom_37 (Nat.le_refl _) (Nat.le_refl _) (⟨by rw [← he], rfl, rfl, rfl, rfl, rfl⟩)
      refine r_iload_n K dX6_addedFrom_2 rfl ?_
      refine r_bipush K dX6_addedFrom_3 ?_
      refine r_icmp_ge K 36 dX6_addedFrom_5 (by decide) (fun c5 => ?_) (fun c5 => ?_)
      · exact no (fun h => by have := of_decide_eq_true h; omega)
      · refine r_iload_n K dX6_addedFrom_8 rfl ?_
        refine r_iload_n K dX6_addedFrom_9 rfl ?_
        refine r_iadd K dX6_addedFrom_10 ?_
        refine r_aload_n K dX6_addedFrom_11 rfl ?_
        refine r_getI K dX6_addedFrom_12 f_X6_22 rfl (by assumption) ?_
        rw [hc]
        refine r_icmp_ge K 36 dX6_addedFrom_15 (by decide) (fun c15 => ?_) (fun c15 => ?_)
        · exact no (fun h => by have := of_decide_eq_true h; omega)
        · refine r_aload_n K dX6_addedFrom_18 rfl ?_
          refine r_getR K dX6_addedFrom_19 f_X6_9 rfl (by assumption) (by assumption) ?_
          refine r_iload_n K dX6_addedFrom_22 rfl ?_
          refine r_iload_n K dX6_addedFrom_23 rfl ?_
          refine r_iadd K dX6_addedFrom_24 ?_
          refine r_iald K dX6_addedFrom_25 (by assumption) (by omega) (by omega) ?_
          rw [ek]
          refine r_iconst K dX6_addedFrom_26 ?_
          refine r_icmp_ne K 36 dX6_addedFrom_27 (by decide) (fun c27 => ?_) (fun c27 => ?_)
          · exact no (fun h => by have := of_decide_eq_true h; omega)
          · refine r_iinc K dX6_addedFrom_30 (by decide) rfl ?_
            refine r_goto K 2 dX6_addedFrom_33 (by decide) ?_
            refine ih (k + 1) _ (by omega) (by omega) (by omega) ?_
            have hcc : cAd (I tp) n q k = true := by unfold cAd; exact decide_eq_true ⟨by omega, by omega, c27⟩
            rw [lng, if_pos hcc] at he
            exact he
  refine r_iconst K dX6_addedFrom_0 ?_
  refine r_istore_n K dX6_addedFrom_1 (by decide) ?_
  exact loop 120 1 1 rfl rfl (by omega) rfl
set_option maxHeartbeats 4000000 in
set_option maxRecDepth 100000 in
theorem k_alikeFrom {q : Nat} (ht : T t = 6) (q0 : P t 0 = some tp) (q1 : P t 1 = some tb) (s0 : T tp = 10) (s1 : T tb = 10) (m0 : L tp = 120) (m1 : L tb = 120) (hc : I t 3 = n) (hn1 : n ≤ 120) (hq : q < n) (hs : ∀ x, x < n → -1000 ≤ I tp x ∧ I tp x < 1000) : pX6_alikeFrom [.inr (some t), .inl (q : Int)] T L P I hn (.inl ((lng (cAl (I tp) (I tb) n q) 120 1 : Nat) : Int)) := by
  refine CT.by (by decide) (Nat.le_of_ble_eq_true rfl) fun X Y Q hQ K hv => ?_
  have loop : ∀ (f k : Nat) (z : Int), z = k → k + f = 121 → 1 ≤ k → lng (cAl (I tp) (I tb) n q) f k = lng (cAl (I tp) (I tb) n q) 120 1 → RR X Y Q 0 0 2 [some (.inr (some t)), some (.inl (q : Int)), some (.inl z)] [] T L P I hn := by
    intro f
    induction f with
    | zero =>
      intro k z hz hk h1 he
      subst hz
      have ek : ((q : Int) + k).toNat = q + k := by omega
      have hfin : RR X Y Q 0 0 54 [some (.inr (some t)), some (.inl (q : Int)), some (.inl (k : Int))] [] T L P I hn := by
        refine r_iload_n K dX6_alikeFrom_54 rfl ?_
        exact q_iret K hQ rfl dX6_alikeFrom_55 (Nat.le_refl _) (Nat.le_refl _) (⟨by rw [← he]; rfl, rfl, rfl, rfl, rfl, rfl⟩)
      refine r_iload_n K dX6_alikeFrom_2 rfl ?_
      refine r_iload_n K dX6_alikeFrom_3 rfl ?_
      refine r_iadd K dX6_alikeFrom_4 ?_
      refine r_aload_n K dX6_alikeFrom_5 rfl ?_
      refine r_getI K dX6_alikeFrom_6 f_X6_22 rfl (by assumption) ?_
      rw [hc]
      refine r_icmp_ge K 54 dX6_alikeFrom_9 (by decide) (fun c9 => ?_) (fun c9 => ?_)
      · exact hfin
      · exact absurd c9 (by omega)
    | succ f ih =>
      intro k z hz hk h1 he
      subst hz
      have ek : ((q : Int) + k).toNat = q + k := by omega
      have no : ¬ (cAl (I tp) (I tb) n q) k = true → RR X Y Q 0 0 54 [some (.inr (some t)), some (.inl (q : Int)), some (.inl (k : Int))] [] T L P I hn := by
        intro hno
        rw [lng, if_neg hno] at he
        refine r_iload_n K dX6_alikeFrom_54 rfl ?_
        exact q_iret K hQ rfl dX6_alikeFrom_55 (Nat.le_refl _) (Nat.le_refl _) (⟨by rw [← he], rfl, rfl, rfl, rfl, rfl⟩)
      refine r_iload_n K dX6_alikeFrom_2 rfl ?_
      refine r_iload_n K dX6_alikeFrom_3 rfl ?_
      refine r_iadd K dX6_alikeFrom_4 ?_
      refine r_aload_n K dX6_alikeFrom_5 rfl ?_
      refine r_getI K dX6_alikeFrom_6 f_X6_22 rfl (by assumption) ?_
      rw [hc]
      refine r_icmp_ge K 54 dX6_alikeFrom_9 (by decide) (fun c9 => ?_) (fun c9 => ?_)
      · exact no (fun h => by have := of_decide_eq_true h; omega)
      · have hs1 := hs q (by omega)
        have hs2 := hs (q + k) (by omega)
        refine r_aload_n K dX6_alikeFrom_12 rfl ?_
        refine r_getR K dX6_alikeFrom_13 f_X6_9 rfl (by assumption) (by assumption) ?_
        refine r_iload_n K dX6_alikeFrom_16 rfl ?_
        refine r_iload_n K dX6_alikeFrom_17 rfl ?_
        refine r_iadd K dX6_alikeFrom_18 ?_
        refine r_iald K dX6_alikeFrom_19 (by assumption) (by omega) (by omega) ?_
        rw [ek]
        refine r_aload_n K dX6_alikeFrom_20 rfl ?_
        refine r_getR K dX6_alikeFrom_21 f_X6_9 rfl (by assumption) (by assumption) ?_
        refine r_iload_n K dX6_alikeFrom_24 rfl ?_
        refine r_iald K dX6_alikeFrom_25 (by assumption) (by omega) (by omega) ?_
        simp only [Int.toNat_natCast]
        refine r_iload_n K dX6_alikeFrom_26 rfl ?_
        refine r_iadd K dX6_alikeFrom_27 ?_
        refine r_icmp_ne K 54 dX6_alikeFrom_28 (by decide) (fun c28 => ?_) (fun c28 => ?_)
        · exact no (fun h => by have := of_decide_eq_true h; omega)
        · refine r_aload_n K dX6_alikeFrom_31 rfl ?_
          refine r_getR K dX6_alikeFrom_32 f_X6_15 rfl (by assumption) (by assumption) ?_
          refine r_iload_n K dX6_alikeFrom_35 rfl ?_
          refine r_iload_n K dX6_alikeFrom_36 rfl ?_
          refine r_iadd K dX6_alikeFrom_37 ?_
          refine r_iald K dX6_alikeFrom_38 (by assumption) (by omega) (by omega) ?_
          rw [ek]
          refine r_aload_n K dX6_alikeFrom_39 rfl ?_
          refine r_getR K dX6_alikeFrom_40 f_X6_15 rfl (by assumption) (by assumption) ?_
          refine r_iload_n K dX6_alikeFrom_43 rfl ?_
          refine r_iald K dX6_alikeFrom_44 (by assumption) (by omega) (by omega) ?_
          simp only [Int.toNat_natCast]
          refine r_icmp_ne K 54 dX6_alikeFrom_45 (by decide) (fun c45 => ?_) (fun c45 => ?_)
          · exact no (fun h => by have := of_decide_eq_true h; omega)
          · refine r_iinc K dX6_alikeFrom_48 (by decide) rfl ?_
            refine r_goto K 2 dX6_alikeFrom_51 (by decide) ?_
            refine ih (k + 1) _ (by omega) (by omega) (by omega) ?_
            have hcc : cAl (I tp) (I tb) n q k = true := by unfold cAl; exact decide_eq_true ⟨by omega, c28, c45⟩
            rw [lng, if_pos hcc] at he
            exact he
  refine r_iconst K dX6_alikeFrom_0 ?_
  refine r_istore_n K dX6_alikeFrom_1 (by decide) ?_
  exact loop 120 1 1 rfl rfl (by omega) rfl
set_option maxHeartbeats 4000000 in
set_option maxRecDepth 100000 in
theorem k_gather {a k0 k1 k2 k3 : Nat} (ht : T t = 6) (q0 : P t 0 = some tp) (q1 : P t 1 = some tb) (s0 : T tp = 10) (s1 : T tb = 10) (m0 : L tp = 120) (m1 : L tb = 120) (ha : T a = 3) (p0 : P a 0 = some k0) (p1 : P a 1 = some k1) (p2 : P a 2 = some k2) (p3 : P a 3 = some k3) (t0 : T k0 = 10) (t1 : T k1 = 10) (t2 : T k2 = 10) (t3 : T k3 = 10) (l0 : L k0 = 120) (l1 : L k1 = 120) (l2 : L k2 = 120) (l3 : L k3 = 120) (d1 : k0 ≠ k1) (d2 : k0 ≠ k2) (d3 : k0 ≠ k3) (d4 : k1 ≠ k2) (d5 : k1 ≠ k3) (d6 : k2 ≠ k3) (x0 : tp ≠ k0) (x1 : tp ≠ k1) (x2 : tp ≠ k2) (x3 : tp ≠ k3) (y0 : tb ≠ k0) (y1 : tb ≠ k1) (y2 : tb ≠ k2) (y3 : tb ≠ k3) (hc : I t 3 = n) (hn1 : n ≤ 120) (hs : ∀ x, x < n → -1 ≤ I tp x ∧ I tp x < 1000) : iX6_gather [.inr (some t), .inr (some a)] T L P I hn (fun r J => r = none ∧ (∀ c, c ≠ a → c ≠ k0 → c ≠ k1 → c ≠ k2 → c ≠ k3 → J c = I c) ∧ MK (I tp) (I tb) n a k0 k1 k2 k3 J) := by
  refine CT.by (by decide) (Nat.le_of_ble_eq_true rfl) fun X Y Q hQ K hv => ?_
  have e0 : a ≠ k0 := fun e => by rw [e] at ha; omega
  have e1 : a ≠ k1 := fun e => by rw [e] at ha; omega
  have e2 : a ≠ k2 := fun e => by rw [e] at ha; omega
  have e3 : a ≠ k3 := fun e => by rw [e] at ha; omega
  have ta : t ≠ a := fun e => by rw [e] at ht; omega
  have f0 : t ≠ k0 := fun e => by rw [e] at ht; omega
  have f1 : t ≠ k1 := fun e => by rw [e] at ht; omega
  have f2 : t ≠ k2 := fun e => by rw [e] at ht; omega
  have f3 : t ≠ k3 := fun e => by rw [e] at ht; omega
  have pa : tp ≠ a := fun e => by rw [e] at s0; omega
  have ba : tb ≠ a := fun e => by rw [e] at s1; omega
  have loop : ∀ (d i k : Nat) (z w : Int) (g4 : Option PV) (J : Nat → Nat → Int), z = i → w = mpos (I tp) (I tb) n k → n - i = d → i ≤ n → i ≤ mpos (I tp) (I tb) n k → mpos (I tp) (I tb) n k ≤ n → k ≤ mpos (I tp) (I tb) n k → J a 4 = k → J a 5 = mcost (I tp) (I tb) n k → 0 ≤ J a 5 → J a 5 ≤ 121 * k + 3 → (∀ b, b ≠ a → b ≠ k0 → b ≠ k1 → b ≠ k2 → b ≠ k3 → J b = I b) → (∀ q, q < k → mpos (I tp) (I tb) n q < n ∧ (J k0 q, J k1 q, J k2 q, J k3 q) = mch (I tp) (I tb) n (mpos (I tp) (I tb) n q)) →
      RR X Y Q 0 0 8 [some (.inr (some t)), some (.inr (some a)), some (.inl w), some (.inl z), g4] [] T L P J hn := by
    intro d
    induction d using Nat.strongRecOn with
    | ind d ih =>
      intro i k z w g4 J hz hw hd hi hik hkn hkk h4 h5 h50 h51 hfr harr
      subst hz; subst hw
      have jt : J t = I t := hfr t ta f0 f1 f2 f3
      have jp : J tp = I tp := hfr tp pa x0 x1 x2 x3
      have jb : J tb = I tb := hfr tb ba y0 y1 y2 y3
      have fin : mpos (I tp) (I tb) n k = i → i < n → ∀ (J1 : Nat → Nat → Int), J1 = mI (mI (mI (mI (mI (mI J k0 k (mch (I tp) (I tb) n i).1) k1 k (mch (I tp) (I tb) n i).2.1) k2 k (mch (I tp) (I tb) n i).2.2.1) k3 k (mch (I tp) (I tb) n i).2.2.2) a 4 ((k : Int) + 1)) a 5 (J a 5 + spr (mch (I tp) (I tb) n i).1 (mch (I tp) (I tb) n i).2.1) → RR X Y Q 0 0 100 [some (.inr (some t)), some (.inr (some a)), some (.inl (mpos (I tp) (I tb) n k : Int)), some (.inl (i : Int)), some (.inl (mch (I tp) (I tb) n i).2.1)] [] T L P J1 hn := by
        intro hpi hin J1 hJ1
        have hok := mch_ok (s := I tp) (b := I tb) hin hn1
        have hsp : 0 ≤ spr (mch (I tp) (I tb) n i).1 (mch (I tp) (I tb) n i).2.1 ∧ spr (mch (I tp) (I tb) n i).1 (mch (I tp) (I tb) n i).2.1 ≤ 121 := by
          unfold spr
          split
          · omega
          · split <;> omega
        refine r_iload_n K dX6_gather_100 rfl ?_
        refine r_iload K dX6_gather_101 rfl ?_
        refine r_iadd K dX6_gather_103 ?_
        refine r_istore_n K dX6_gather_104 (by decide) ?_
        refine r_iinc K dX6_gather_105 (by decide) rfl ?_
        refine r_goto K 8 dX6_gather_108 (by decide) ?_
        have hps : mpos (I tp) (I tb) n (k + 1) = i + (mch (I tp) (I tb) n i).2.1.toNat := by rw [mpos, hpi]
        refine ih _ (by omega) (i + 1) (k + 1) _ _ _ J1 (by omega) (by rw [hps]; omega) rfl (by omega) (by rw [hps]; omega) (by rw [hps]; omega) (by rw [hps]; omega) ?_ ?_ ?_ ?_ (fun b b1 b2 b3 b4 b5 => ?_) (fun q hq => ?_)
        · rw [hJ1, mI_nj (by decide), mI_eq]; omega
        · rw [hJ1, mI_eq, mcost, hpi, h5]
        · rw [hJ1, mI_eq]; omega
        · rw [hJ1, mI_eq]; omega
        · rw [hJ1, mI_ne b1, mI_ne b1, mI_ne b5, mI_ne b4, mI_ne b3, mI_ne b2]; exact hfr b b1 b2 b3 b4 b5
        · rw [hJ1]
          simp only [mI_row, mI_ne, ne_eq, not_false_eq_true, e0, e1, e2, e3, d1, d2, d3, d4, d5, d6, e0.symm, e1.symm, e2.symm, e3.symm, d1.symm, d2.symm, d3.symm, d4.symm, d5.symm, d6.symm]
          by_cases eq : q = k
          · subst eq
            simp only [if_true]
            exact ⟨by omega, by rw [hpi]⟩
          · simp only [if_neg eq]
            exact harr q (by omega)
      have had := k_addedFrom (T := T) (L := L) (P := P) (I := J) (hn := hn) (n := n) (q := i) ht q0 q1 s0 s1 m0 m1 (by rw [jt]; exact hc) hn1
      have hal := k_alikeFrom (T := T) (L := L) (P := P) (I := J) (hn := hn) (n := n) (q := i) ht q0 q1 s0 s1 m0 m1 (by rw [jt]; exact hc) hn1
      rw [jp] at had hal
      rw [jb] at hal
      have j44 : mpos (I tp) (I tb) n k = i → i < n → ∀ g4, RR X Y Q 0 0 44 [some (.inr (some t)), some (.inr (some a)), some (.inl (mpos (I tp) (I tb) n k : Int)), some (.inl (i : Int)), g4] [.inl (mch (I tp) (I tb) n i).2.1] T L P J hn := by
        intro hpi hin g4
        have hok := mch_ok (s := I tp) (b := I tb) hin hn1
        refine r_istore K dX6_gather_44 (by decide) ?_
        refine r_aload_n K dX6_gather_46 rfl ?_
        refine r_getR K dX6_gather_47 f_X6_9 rfl (by assumption) (by assumption) ?_
        refine r_iload_n K dX6_gather_50 rfl ?_
        refine r_iald K dX6_gather_51 (by assumption) (by omega) (by omega) ?_
        rw [Int.toNat_natCast, jp]
        refine r_iconst K dX6_gather_52 ?_
        refine r_icmp_ne K 68 dX6_gather_53 (by decide) (fun c53 => ?_) (fun c53 => ?_)
        · refine r_aload_n K dX6_gather_68 rfl ?_
          refine r_aload_n K dX6_gather_69 rfl ?_
          refine r_getR K dX6_gather_70 f_X6_15 rfl (by assumption) (by assumption) ?_
          refine r_iload_n K dX6_gather_73 rfl ?_
          refine r_iald K dX6_gather_74 (by assumption) (by omega) (by omega) ?_
          rw [Int.toNat_natCast, jb]
          refine r_if_ne K 82 dX6_gather_75 (by decide) (fun c75 => ?_) (fun c75 => ?_)
          · have em : mch (I tp) (I tb) n i = (1, (mch (I tp) (I tb) n i).2.1, I tp i, I tb i) := by rw [mch, if_neg c53, if_neg c75]
            refine r_iconst K dX6_gather_82 ?_
            refine r_iload K dX6_gather_83 rfl ?_
            refine r_aload_n K dX6_gather_85 rfl ?_
            refine r_getR K dX6_gather_86 f_X6_9 rfl (by assumption) (by assumption) ?_
            refine r_iload_n K dX6_gather_89 rfl ?_
            refine r_iald K dX6_gather_90 (by assumption) (by omega) (by omega) ?_
            rw [Int.toNat_natCast, jp]
            refine r_aload_n K dX6_gather_91 rfl ?_
            refine r_getR K dX6_gather_92 f_X6_15 rfl (by assumption) (by assumption) ?_
            refine r_iload_n K dX6_gather_95 rfl ?_
            refine r_iald K dX6_gather_96 (by assumption) (by omega) (by omega) ?_
            rw [Int.toNat_natCast, jb]
            refine rcV4i K dX6_gather_97 c_X6_62 v_X3_append (by assumption) (k_X3_append (T := T) (L := L) (P := P) (I := J) (hn := hn) ha p0 p1 p2 p3 t0 t1 t2 t3 l0 l1 l2 l3 (by first | exact Or.inl rfl | exact Or.inr (Or.inl rfl)) (by omega) (by omega) (by omega) (by omega) (by omega) (by omega)) (by decide) (Nat.le_of_ble_eq_true rfl) ?_
            rintro _ J1 ⟨rfl, hJ1⟩
            rw [h4, Int.toNat_natCast] at hJ1
            refine fin hpi hin J1 ?_
            rw [hJ1, em]
          · have em : mch (I tp) (I tb) n i = (0, (mch (I tp) (I tb) n i).2.1, I tp i, I tb i) := by rw [mch, if_neg c53, if_pos c75]
            refine r_iconst K dX6_gather_78 ?_
            refine r_goto K 83 dX6_gather_79 (by decide) ?_
            refine r_iload K dX6_gather_83 rfl ?_
            refine r_aload_n K dX6_gather_85 rfl ?_
            refine r_getR K dX6_gather_86 f_X6_9 rfl (by assumption) (by assumption) ?_
            refine r_iload_n K dX6_gather_89 rfl ?_
            refine r_iald K dX6_gather_90 (by assumption) (by omega) (by omega) ?_
            rw [Int.toNat_natCast, jp]
            refine r_aload_n K dX6_gather_91 rfl ?_
            refine r_getR K dX6_gather_92 f_X6_15 rfl (by assumption) (by assumption) ?_
            refine r_iload_n K dX6_gather_95 rfl ?_
            refine r_iald K dX6_gather_96 (by assumption) (by omega) (by omega) ?_
            rw [Int.toNat_natCast, jb]
            refine rcV4i K dX6_gather_97 c_X6_62 v_X3_append (by assumption) (k_X3_append (T := T) (L := L) (P := P) (I := J) (hn := hn) ha p0 p1 p2 p3 t0 t1 t2 t3 l0 l1 l2 l3 (by first | exact Or.inl rfl | exact Or.inr (Or.inl rfl)) (by omega) (by omega) (by omega) (by omega) (by omega) (by omega)) (by decide) (Nat.le_of_ble_eq_true rfl) ?_
            rintro _ J1 ⟨rfl, hJ1⟩
            rw [h4, Int.toNat_natCast] at hJ1
            refine fin hpi hin J1 ?_
            rw [hJ1, em]
        · have em : mch (I tp) (I tb) n i = (2, (mch (I tp) (I tb) n i).2.1, (i : Int), 0) := by rw [mch, if_pos c53]
          refine r_aload_n K dX6_gather_56 rfl ?_
          refine r_iconst K dX6_gather_57 ?_
          refine r_iload K dX6_gather_58 rfl ?_
          refine r_iload_n K dX6_gather_60 rfl ?_
          refine r_iconst K dX6_gather_61 ?_
          refine rcV4i K dX6_gather_62 c_X6_62 v_X3_append (by assumption) (k_X3_append (T := T) (L := L) (P := P) (I := J) (hn := hn) ha p0 p1 p2 p3 t0 t1 t2 t3 l0 l1 l2 l3 (Or.inr (Or.inr rfl)) (by omega) (by omega) (by omega) (by omega) (by omega) (by omega)) (by decide) (Nat.le_of_ble_eq_true rfl) ?_
          rintro _ J1 ⟨rfl, hJ1⟩
          rw [h4, Int.toNat_natCast] at hJ1
          refine r_goto K 100 dX6_gather_65 (by decide) ?_
          refine fin hpi hin J1 ?_
          rw [hJ1, em]
      refine r_iload_n K dX6_gather_8 rfl ?_
      refine r_aload_n K dX6_gather_9 rfl ?_
      refine r_getI K dX6_gather_10 f_X6_22 rfl (by assumption) ?_
      rw [jt, hc]
      refine r_icmp_ge K 111 dX6_gather_13 (by decide) (fun c13 => ?_) (fun c13 => ?_)
      · exact q_vret K hQ rfl dX6_gather_111 (Nat.le_refl _) (Nat.le_refl _) ⟨rfl, rfl, rfl, rfl, rfl, hfr, k, by omega, fun q hq => (harr q hq).1, h4, h5, fun q hq => (harr q hq).2⟩
      · refine r_iload_n K dX6_gather_16 rfl ?_
        refine r_iload_n K dX6_gather_17 rfl ?_
        refine r_icmp_ne K 105 dX6_gather_18 (by decide) (fun c18 => ?_) (fun c18 => ?_)
        · refine r_iinc K dX6_gather_105 (by decide) rfl ?_
          refine r_goto K 8 dX6_gather_108 (by decide) ?_
          exact ih _ (by omega) (i + 1) k _ _ _ J (by omega) rfl rfl (by omega) (by omega) hkn hkk h4 h5 h50 h51 hfr harr
        · have hpi : mpos (I tp) (I tb) n k = i := by omega
          have hin : i < n := by omega
          refine r_aload_n K dX6_gather_21 rfl ?_
          refine r_getR K dX6_gather_22 f_X6_9 rfl (by assumption) (by assumption) ?_
          refine r_iload_n K dX6_gather_25 rfl ?_
          refine r_iald K dX6_gather_26 (by assumption) (by omega) (by omega) ?_
          rw [Int.toNat_natCast, jp]
          refine r_iconst K dX6_gather_27 ?_
          refine r_icmp_ne K 39 dX6_gather_28 (by decide) (fun c28 => ?_) (fun c28 => ?_)
          · have em : ((lng (cAl (I tp) (I tb) n i) 120 1 : Nat) : Int) = (mch (I tp) (I tb) n i).2.1 := by rw [mch, if_neg c28]
            refine r_aload_n K dX6_gather_39 rfl ?_
            refine r_iload_n K dX6_gather_40 rfl ?_
            refine rcV1p K dX6_gather_41 c_X6_59 v_X6_alikeFrom (by assumption) (hal hin (fun x hx => by have := hs x hx; omega)) (by decide) (Nat.le_of_ble_eq_true rfl) ?_
            rw [em]
            exact j44 hpi hin _
          · have em : ((lng (cAd (I tp) n i) 120 1 : Nat) : Int) = (mch (I tp) (I tb) n i).2.1 := by rw [mch, if_pos c28]
            refine r_aload_n K dX6_gather_31 rfl ?_
            refine r_iload_n K dX6_gather_32 rfl ?_
            refine rcV1p K dX6_gather_33 c_X6_56 v_X6_addedFrom (by assumption) (had hin) (by decide) (Nat.le_of_ble_eq_true rfl) ?_
            refine r_goto K 44 dX6_gather_36 (by decide) ?_
            rw [em]
            exact j44 hpi hin _
  refine r_aload_n K dX6_gather_0 rfl ?_
  refine rcV0i K dX6_gather_1 c_X6_53 v_X3_clear (by assumption) (k_X3_clear (T := T) (L := L) (P := P) (I := I) (hn := hn) ha) (by decide) (Nat.le_of_ble_eq_true rfl) ?_
  rintro _ J1 ⟨rfl, hJ1⟩
  refine r_iconst K dX6_gather_4 ?_
  refine r_istore_n K dX6_gather_5 (by decide) ?_
  refine r_iconst K dX6_gather_6 ?_
  refine r_istore_n K dX6_gather_7 (by decide) ?_
  refine loop _ 0 0 0 0 _ J1 rfl rfl rfl (by omega) (by omega) (by simp [mpos]) (by omega) ?_ ?_ ?_ ?_ (fun b b1 b2 b3 b4 b5 => ?_) (fun q hq => absurd hq (by omega))
  · rw [hJ1, mI_nj (by decide), mI_eq]; rfl
  · rw [hJ1, mI_eq]; rfl
  · rw [hJ1, mI_eq]; decide
  · rw [hJ1, mI_eq]; decide
  · rw [hJ1, mI_ne b1, mI_ne b1]
end GAT
