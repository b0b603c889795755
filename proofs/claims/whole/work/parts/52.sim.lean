section SIM
variable {T L : Nat → Nat} {P : Nat → Nat → Option Nat} {I J J1 J2 : Nat → Nat → Int} {hn n : Nat}
theorem soi {x y : Int} (h : (some (Sum.inl x) : Option PV) = some (.inl y)) : x = y := by
  injection h with h
  injection h
/-- the tapes -/
def TP (I : Nat → Nat → Int) : Prop := (∃ c : Nat, I 4 1 = c ∧ I 54 1 = c ∧ c ≤ 200) ∧ (∀ j, j < 200 → I 55 j % 256 = I 5 j) ∧ ∀ j, -128 ≤ I 55 j ∧ I 55 j < 128
/-- the versions -/
def VR (I : Nat → Nat → Int) : Prop := MV I ∧ ∀ v, v < 5 → I 57 v = I (18 + 2 * v) 1 ∧ ∀ j : Nat, (j : Int) < I 57 v → mBy I v j = I (19 + 2 * v) j
/-- the melted patches -/
def ML (I : Nat → Nat → Int) : Prop := I 54 20 = I 36 4 ∧ 0 ≤ I 36 4 ∧ I 36 4 ≤ 120 ∧ ∀ k : Nat, (k : Int) < I 36 4 → (I 37 k, I 38 k, I 39 k, I 40 k) = (I 68 k, I 69 k, I 70 k, I 71 k)
/-- the devices, after n calls -/
def DW (n : Nat) (I : Nat → Nat → Int) : Prop := DV I I ∧ I 54 25 = I 41 8 ∧ 0 ≤ I 41 8 ∧ I 41 8 ≤ 1000 * (n : Int)
/-- the fleets -/
def FL (I : Nat → Nat → Int) : Prop := ∀ v, v < 5 → I 80 v = I 51 v ∧ (0 ≤ I 51 v ∧ I 51 v ≤ 1000) ∧ (I 57 v = 0 → I 80 v = 0)
/-- what is held -/
def HD (I : Nat → Nat → Int) : Prop := ∃ S : Nat, S < 1024 ∧ I 50 3 = S ∧ ∀ k, k < 10 → I 81 k = if S.testBit k = true then 1 else 0
def RI (n : Nat) (I : Nat → Nat → Int) : Prop := TP I ∧ VR I ∧ ML I ∧ DW n I ∧ FL I ∧ HD I
theorem TP.cong (h : TP I) (e4 : J 4 1 = I 4 1) (e5 : J 5 = I 5) (e1 : J 54 1 = I 54 1) (e55 : J 55 = I 55) : TP J := by
  unfold TP; rw [e4, e5, e1, e55]; exact h
theorem VR.cong (h : VR I) (e : ∀ k, 18 ≤ k → k ≤ 27 → J k = I k) (e6 : J 56 = I 56) (e7 : J 57 = I 57) : VR J := by
  refine ⟨h.1.cong e6 e7, fun v hv => ?_⟩
  unfold mBy
  rw [e6, e7, e (18 + 2 * v) (by omega) (by omega), e (19 + 2 * v) (by omega) (by omega)]
  exact h.2 v hv
theorem ML.cong (h : ML I) (e1 : J 54 20 = I 54 20) (e : ∀ k, 36 ≤ k → k ≤ 40 → J k = I k) (e2 : ∀ k, 68 ≤ k → k ≤ 71 → J k = I k) : ML J := by
  unfold ML
  rw [e1, e 36 (by decide) (by decide), e 37 (by decide) (by decide), e 38 (by decide) (by decide), e 39 (by decide) (by decide), e 40 (by decide) (by decide), e2 68 (by decide) (by decide), e2 69 (by decide) (by decide), e2 70 (by decide) (by decide), e2 71 (by decide) (by decide)]
  exact h
theorem DW.cong {m : Nat} (h : DW n I) (hm : n ≤ m) (e1 : ∀ k, 41 ≤ k → k ≤ 49 → J k = I k) (e2 : ∀ k, 73 ≤ k → k ≤ 79 → J k = I k) (e3 : ∀ j, 24 ≤ j → j ≤ 31 → J 54 j = I 54 j) : DW m J := by
  obtain ⟨h1, h2, h3, h4⟩ := h
  refine ⟨h1.cong e1 e2 (fun j j1 _ j2 => e3 j j1 j2), ?_, ?_, ?_⟩
  · rw [e3 25 (by decide) (by decide), e1 41 (by decide) (by decide)]; exact h2
  · rw [e1 41 (by decide) (by decide)]; exact h3
  · rw [e1 41 (by decide) (by decide)]; omega
theorem FL.cong (h : FL I) (e80 : J 80 = I 80) (e51 : J 51 = I 51) (e57 : J 57 = I 57) : FL J := by
  unfold FL; rw [e80, e51, e57]; exact h
theorem HD.cong (h : HD I) (e50 : J 50 3 = I 50 3) (e81 : J 81 = I 81) : HD J := by
  unfold HD; rw [e50, e81]; exact h
/-- cells that matter are as they were -/
def same (I J : Nat → Nat → Int) : Prop := (∀ k, k = 4 ∨ k = 5 ∨ (18 ≤ k ∧ k ≤ 27) ∨ (36 ≤ k ∧ k ≤ 49) ∨ k = 51 ∨ (55 ≤ k ∧ k ≤ 57) ∨ (68 ≤ k ∧ k ≤ 71) ∨ (73 ≤ k ∧ k ≤ 81) → J k = I k) ∧ (∀ j, j ≠ 10 → j ≠ 11 → J 54 j = I 54 j) ∧ J 50 3 = I 50 3
theorem same.trans (h : same I J) (h2 : same J J2) : same I J2 := ⟨fun k hk => (h2.1 k hk).trans (h.1 k hk), fun j j1 j2 => (h2.2.1 j j1 j2).trans (h.2.1 j j1 j2), h2.2.2.trans h.2.2⟩
theorem RI.cong {m : Nat} (h : RI n I) (hm : n ≤ m) (s : same I J) : RI m J := by
  obtain ⟨h1, h2, h3, h4, h5, h6⟩ := h
  obtain ⟨e, e54, e50⟩ := s
  exact ⟨h1.cong (by rw [e 4 (by omega)]) (e 5 (by omega)) (e54 1 (by decide) (by decide)) (e 55 (by omega)), h2.cong (fun k k1 k2 => e k (by omega)) (e 56 (by omega)) (e 57 (by omega)), h3.cong (e54 20 (by decide) (by decide)) (fun k k1 k2 => e k (by omega)) (fun k k1 k2 => e k (by omega)), h4.cong hm (fun k k1 k2 => e k (by omega)) (fun k k1 k2 => e k (by omega)) (fun j j1 j2 => e54 j (by omega) (by omega)), h5.cong (e 80 (by omega)) (e 51 (by omega)) (e 57 (by omega)), h6.cong e50 (e 81 (by omega))⟩
theorem mScr.same (h : mScr I J) : same I J := ⟨fun k hk => h.1 k (by omega) (by omega) (by omega) (by omega), h.2.1, by rw [h.1 50 (by decide) (by decide) (by decide) (by decide)]⟩
/-- of the cells that the class uses -/
def clF (I J : Nat → Nat → Int) : Prop := ∀ k, k = 9 ∨ (18 ≤ k ∧ k ≤ 27) ∨ 84 ≤ k → J k = I k
theorem mScr.clF (h : mScr I J) : clF I J := fun k hk => by
  rcases Nat.lt_or_ge k 84 with q | q
  · exact h.1 k (by omega) (by omega) (by omega) (by omega)
  · exact h.2.2 k q
theorem clF.trans (h : clF I J) (h2 : clF J J2) : clF I J2 := fun k hk => (h2 k hk).trans (h k hk)
theorem clF.refl (I : Nat → Nat → Int) : clF I I := fun _ _ => rfl
theorem same.refl (I : Nat → Nat → Int) : same I I := ⟨fun _ _ => rfl, fun _ _ _ => rfl, rfl⟩
theorem VR.has (h : VR I) (v : Int) : hasV I v ↔ hasM I v := by
  constructor
  · rintro ⟨a, b, c⟩
    have := (h.2 v.toNat (by omega)).1
    exact ⟨a, b, by omega⟩
  · rintro ⟨a, b, c⟩
    have := (h.2 v.toNat (by omega)).1
    exact ⟨a, b, by omega⟩
theorem VR.nn (h : VR I) {v : Nat} (hv : v < 5) : vN I v = mN I v := by unfold vN mN; rw [(h.2 v hv).1]
theorem VR.b (h : VR I) {v : Nat} (hv : v < 5) : ∀ j, j < mN I v → vB I v j = mBy I v j := fun j hj => ((h.2 v hv).2 j (by unfold mN at hj; omega)).symm
theorem hasV.lt {v : Int} (h : hasV I v) : v.toNat < 5 := by have := h.1; have := h.2.1; omega
theorem VR.prc (h : VR I) (a b : Int) : prcI I a b = prcM I a b := by
  unfold prcI prcM
  by_cases q : hasV I a ∧ hasV I b
  · have q2 : hasM I a ∧ hasM I b := ⟨(h.has a).mp q.1, (h.has b).mp q.2⟩
    rw [if_pos q, if_pos q2]
    have ha := q.1.lt
    have hb := q.2.lt
    show 3 + ls (vB I a.toNat) (vB I b.toNat) (vN I a.toNat) (vN I b.toNat) 0 = _
    rw [h.nn ha, h.nn hb, ls_cong (h.b ha) (h.b hb)]
  · have q2 : ¬ (hasM I a ∧ hasM I b) := fun w => q ⟨(h.has a).mpr w.1, (h.has b).mpr w.2⟩
    rw [if_neg q, if_neg q2]
theorem stA_eq {A B A' B' : Nat → Int} {m n : Nat} {k what z z' : Int} (hA : ∀ p, p < m → A p = A' p) (hB : ∀ i, i < n → B i = B' i) (h : stA A B m n k what z) (h' : stA A' B' m n k what z') : z = z' := by
  obtain ⟨N, n1, n2, rfl⟩ := h
  obtain ⟨N', n1', n2', rfl⟩ := h'
  have pc := pos_cong hA hB n2
  have e : N = N' := pos_un (A := A') (B := B') (by rw [← pc N (Nat.le_refl _)]; exact n1) (fun k hk => by rw [← pc k (by omega)]; exact n2 k hk) n1' n2'
  subst e
  refine ptell_cong (fun k hk => ?_) _ _
  rw [← pc k (by omega), ← ch_cong hA hB (n2 k hk)]
/-- every patch has its steps -/
theorem pos_ex {A B : Nat → Int} {m n : Nat} (hn : n ≤ 120) : ∃ N, pos A B m n N = n ∧ ∀ k, k < N → pos A B m n k < n := by
  have go : ∀ (d k : Nat), n - pos A B m n k ≤ d → pos A B m n k ≤ n → (∀ k', k' < k → pos A B m n k' < n) → ∃ N, pos A B m n N = n ∧ ∀ k, k < N → pos A B m n k < n := by
    intro d
    induction d with
    | zero => intro k h1 h2 h3; exact ⟨k, by omega, h3⟩
    | succ d ih =>
      intro k h1 h2 h3
      by_cases e : pos A B m n k = n
      · exact ⟨k, e, h3⟩
      · have hok := ch_ok (A := A) (B := B) (m := m) hn (show pos A B m n k < n by omega)
        refine ih (k + 1) (by rw [pos]; omega) (by rw [pos]; omega) (fun k' hk' => ?_)
        by_cases w : k' = k
        · rw [w]; omega
        · exact h3 k' (by omega)
  exact go n 0 (by omega) (Nat.zero_le _) (fun k' h => absurd h (by omega))
/-- the two traces of a patch -/
theorem VR.src (h : VR I) {a b : Nat} (ha : a < 5) (hb : b < 5) {x : Nat} (hx : x < mN I b) : sV I a b x = sM I a b x ∧ (sM I a b x ≠ -1 → bV I a b x = bM I a b x) ∧ (sM I a b x = -1 → bV I a b x = mBy I b x) ∧ (sM I a b x = -1 ∨ (0 ≤ sM I a b x ∧ sM I a b x < mN I a)) ∧ 0 ≤ bV I a b x ∧ bV I a b x < 256 := by
  have hna := (h.1.n ha).2
  have hnb := (h.1.n hb).2
  obtain ⟨N, n1, n2⟩ := pos_ex (A := mBy I a) (B := mBy I b) (m := mN I a) hnb
  have e := src_cong (m := mN I a) (h.b ha) (h.b hb) hx
  have si := src_in (A := mBy I a) (B := mBy I b) (m := mN I a) hnb n2 n1 hx
  have sm := sM_in (a := 0) (b := 0) (A := mBy I a) (B := mBy I b) (m := mN I a) hnb hna n1 n2 hx
  have e1 : sV I a b x = sM I a b x := by unfold sV sM; rw [h.nn ha, h.nn hb]; exact e.1
  have e2 : bV I a b x = pluF (mBy I a) (mBy I b) (mN I a) (mN I b) x := by unfold bV; rw [h.nn ha, h.nn hb]; exact e.2
  have hby : 0 ≤ mBy I b x ∧ mBy I b x < 256 := ⟨Int.emod_nonneg _ (by decide), Int.emod_lt_of_pos _ (by decide)⟩
  refine ⟨e1, fun w => e2.trans (sm.2.2.2.2 w), fun w => ?_, ?_, ?_⟩
  · rcases si with q | q
    · exact e2.trans q.2
    · have w : srcF (mBy I a) (mBy I b) (mN I a) (mN I b) x = -1 := w
      exact absurd q.1 (by omega)
  · rcases si with q | q
    · exact Or.inl q.1
    · exact Or.inr ⟨q.1, q.2.1⟩
  · rw [e2]
    rcases si with q | q
    · rw [q.2]; exact hby
    · exact q.2.2
theorem VR.kp (h : VR I) {a b : Nat} (ha : a < 5) (hb : b < 5) (w : Int) : kpV I a b w = kpM I a b w := by
  funext p
  show kpt (sV I a b) (bV I a b) w (vN I b) p = kpt (sM I a b) (bM I a b) w (mN I b) p
  rw [h.nn hb]
  refine kpt_cong (fun q hq => ?_)
  have s := h.src ha hb hq
  exact ⟨s.1, fun w => s.2.1 (by rw [← s.1]; omega)⟩
theorem VR.wy (h : VR I) {a b : Nat} (ha : a < 5) (hb : b < 5) : wyV I a b = wyM I a b := by
  have k0 := h.kp ha hb 0
  have k1 := h.kp ha hb 1
  show (if cn (kpV I a b 1) 120 < cn (kpV I a b 0) 120 then 1 else 0) = if cn (kpM I a b 1) 120 < cn (kpM I a b 0) 120 then 1 else 0
  rw [k0, k1]
theorem vB_cong (e : ∀ k, 18 ≤ k → k ≤ 27 → J k = I k) {v : Nat} (hv : v < 5) : vB J v = vB I v ∧ vN J v = vN I v := by
  unfold vB vN
  rw [e (19 + 2 * v) (by omega) (by omega), e (18 + 2 * v) (by omega) (by omega)]
  exact ⟨rfl, rfl⟩
theorem kpV_cong (e : ∀ k, 18 ≤ k → k ≤ 27 → J k = I k) {a b : Nat} (ha : a < 5) (hb : b < 5) (w : Int) : kpV J a b w = kpV I a b w := by
  have h1 := vB_cong e ha
  have h2 := vB_cong e hb
  show kpt (srcF (vB J a) (vB J b) (vN J a) (vN J b)) (pluF (vB J a) (vB J b) (vN J a) (vN J b)) w (vN J b) = _
  rw [h1.1, h1.2, h2.1, h2.2]
theorem VR.grt (h : VR I) : grV I = grM I := by
  have go : ∀ k, k ≤ 5 → gre (fun v => I (18 + 2 * v) 1) k = gre (I 57) k := by
    intro k
    induction k with
    | zero => intro _; rfl
    | succ k ih =>
      intro hk
      rw [gre, gre, ih (by omega)]
      have := (h.2 k (by omega)).1
      show (if 0 < I (18 + 2 * k) 1 then (k : Int) else gre (I 57) k) = _
      rw [← this]
  exact go 5 (Nat.le_refl _)
end SIM
