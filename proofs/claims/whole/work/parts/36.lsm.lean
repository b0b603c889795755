/-! least costs: what the longest runs are good for -/
section LSM
variable {A B : Nat → Int} {m n : Nat}
theorem c1_le (f : Nat → Int) (i : Nat) (c : Ch) (cr cf sr sf g : Int) : (c2 f i c cr cf sr sf g).1 ≤ c.1 ∧ (0 < cr → (c2 f i c cr cf sr sf g).1 ≤ 4 + f (i + cr.toNat)) ∧ (0 < sr → (c2 f i c cr cf sr sf g).1 ≤ 5 + f (i + sr.toNat)) := by
  simp only [c2]
  have t1 := try1_le c 1 sr sf g (5 + f (i + sr.toNat))
  by_cases e1 : 0 < sr
  · rw [if_pos e1]
    have t2 := try1_le (try1 c 1 sr sf g (5 + f (i + sr.toNat))) 0 cr cf 0 (4 + f (i + cr.toNat))
    by_cases e2 : 0 < cr
    · rw [if_pos e2]; exact ⟨by omega, fun _ => by omega, fun _ => by omega⟩
    · rw [if_neg e2]; exact ⟨by omega, fun h => absurd h e2, fun _ => by omega⟩
  · rw [if_neg e1]
    have t2 := try1_le c 0 cr cf 0 (4 + f (i + cr.toNat))
    by_cases e2 : 0 < cr
    · rw [if_pos e2]; exact ⟨by omega, fun _ => by omega, fun h => absurd h e1⟩
    · rw [if_neg e2]; exact ⟨by omega, fun h => absurd h e2, fun h => absurd h e1⟩
theorem ls_add {i k : Nat} (hi : i < n) (h1 : 1 ≤ k) (h2 : k ≤ 30) (h3 : i + k ≤ n) : ls A B m n i ≤ 1 + (k : Int) + ls A B m n (i + k) := by
  rw [ls_eq hi, ch, stp]
  have h := (c1_le (ls A B m n) i (adC (ls A B m n) i (1000000, 0, 0, 0, 0) (min 30 (n - i))) (cpy A B m n i).1 (cpy A B m n i).2 (shf A B m n i).1 (shf A B m n i).2 (ap A B i (shf A B m n i).2)).1
  have h4 := (adC_le (ls A B m n) i (1000000, 0, 0, 0, 0) (min 30 (n - i))).2 (k - 1) (by omega)
  rw [show i + (k - 1) + 1 = i + k by omega] at h4
  omega
theorem ls_cpy {i : Nat} (hi : i < n) (h : 0 < (cpy A B m n i).1) : ls A B m n i ≤ 4 + ls A B m n (i + (cpy A B m n i).1.toNat) := by
  have e := ls_eq (A := A) (B := B) (m := m) hi
  rw [ch, stp] at e
  rw [e]
  exact (c1_le (ls A B m n) i (adC (ls A B m n) i (1000000, 0, 0, 0, 0) (min 30 (n - i))) (cpy A B m n i).1 (cpy A B m n i).2 (shf A B m n i).1 (shf A B m n i).2 (ap A B i (shf A B m n i).2)).2.1 h
theorem ls_shf {i : Nat} (hi : i < n) (h : 0 < (shf A B m n i).1) : ls A B m n i ≤ 5 + ls A B m n (i + (shf A B m n i).1.toNat) := by
  have e := ls_eq (A := A) (B := B) (m := m) hi
  rw [ch, stp] at e
  rw [e]
  exact (c1_le (ls A B m n) i (adC (ls A B m n) i (1000000, 0, 0, 0, 0) (min 30 (n - i))) (cpy A B m n i).1 (cpy A B m n i).2 (shf A B m n i).1 (shf A B m n i).2 (ap A B i (shf A B m n i).2)).2.2 h
/-- a run goes on one byte later -/
theorem rn_on {i p : Nat} (hi : i < n) (h : 1 < rn A B m n i p) : i + 1 < n ∧ p + 1 < m ∧ ap A B (i + 1) (p + 1) = ap A B i p ∧ rn A B m n (i + 1) (p + 1) = rn A B m n i p - 1 := by
  rw [rn_eq hi] at h
  by_cases e1 : p < m
  · rw [if_pos e1] at h
    by_cases e2 : i + 1 < n ∧ p + 1 < m ∧ ap A B (i + 1) (p + 1) = ap A B i p
    · refine ⟨e2.1, e2.2.1, e2.2.2, ?_⟩
      rw [rn_eq hi, if_pos e1, if_pos e2]
      omega
    · rw [if_neg e2] at h; exact absurd h (by omega)
  · rw [if_neg e1] at h; exact absurd h (by omega)
theorem cpy_ge {i p : Nat} (hp : p < m) (h : ap A B i p = 0) : rn A B m n i p ≤ (cpy A B m n i).1 := (mx_in (isC A B i) (rn A B m n i) m).2.2 p hp (decide_eq_true h)
theorem shf_ge {i p : Nat} (hp : p < m) (h : ap A B i p ≠ 0) : rn A B m n i p ≤ (shf A B m n i).1 := (mx_in (isS A B i) (rn A B m n i) m).2.2 p hp (decide_eq_true h)
/-- a rest that loses its first bytes never costs more -/
theorem ls_mono (hn : n ≤ 120) : ∀ (d i : Nat), i + d = n → ∀ j, i ≤ j → j ≤ n → ls A B m n j ≤ ls A B m n i
  | 0, i, hi, j, h1, h2 => by rw [show j = i by omega]; exact Int.le_refl _
  | d + 1, i, hi, j, h1, h2 => by
    have ih := ls_mono hn d (i + 1) (by omega)
    have hin : i < n := by omega
    have key : ls A B m n (i + 1) ≤ ls A B m n i := by
      have hl := ls_in A B m n hn (n - (i + 1)) (i + 1) (by omega)
      rcases ch_in (A := A) (B := B) (m := m) hin (by omega) with ⟨j, hj, e⟩ | ⟨h0, e⟩ | ⟨h0, e⟩
      · rw [ls_eq hin, e]
        show ls A B m n (i + 1) ≤ 1 + ((j : Int) + 1) + ls A B m n (i + j + 1)
        rcases Nat.eq_zero_or_pos j with q | q
        · rw [q, Nat.add_zero]; omega
        · have := ls_add (A := A) (B := B) (m := m) (n := n) (i := i + 1) (k := j) (by omega) (by omega) (by omega) (by omega)
          rw [show i + 1 + j = i + j + 1 by omega] at this
          omega
      · rw [ls_eq hin, e]
        show ls A B m n (i + 1) ≤ 5 + ls A B m n (i + (shf A B m n i).1.toNat)
        have b := shf_in A B m n i
        have c := b.2.2 h0
        rcases Int.lt_or_le 1 (shf A B m n i).1 with q | q
        · rw [← c.2.2] at q
          obtain ⟨r1, r2, r3, r4⟩ := rn_on hin q
          have g := shf_ge (A := A) (B := B) (n := n) r2 (by rw [r3]; exact c.2.1)
          have b2 := shf_in A B m n (i + 1)
          have := ls_shf (A := A) (B := B) (m := m) (n := n) (i := i + 1) r1 (by omega)
          have := ih (i + 1 + (shf A B m n (i + 1)).1.toNat) (by omega) (by omega)
          have w := ls_mono hn (n - (i + (shf A B m n i).1.toNat)) (i + (shf A B m n i).1.toNat) (by omega) (i + 1 + (shf A B m n (i + 1)).1.toNat) (by omega) (by omega)
          omega
        · rw [show i + (shf A B m n i).1.toNat = i + 1 by omega]; omega
      · rw [ls_eq hin, e]
        show ls A B m n (i + 1) ≤ 4 + ls A B m n (i + (cpy A B m n i).1.toNat)
        have b := cpy_in A B m n i
        have c := b.2.2 h0
        rcases Int.lt_or_le 1 (cpy A B m n i).1 with q | q
        · rw [← c.2.2] at q
          obtain ⟨r1, r2, r3, r4⟩ := rn_on hin q
          have g := cpy_ge (A := A) (B := B) (n := n) r2 (by rw [r3]; exact c.2.1)
          have b2 := cpy_in A B m n (i + 1)
          have := ls_cpy (A := A) (B := B) (m := m) (n := n) (i := i + 1) r1 (by omega)
          have w := ls_mono hn (n - (i + (cpy A B m n i).1.toNat)) (i + (cpy A B m n i).1.toNat) (by omega) (i + 1 + (cpy A B m n (i + 1)).1.toNat) (by omega) (by omega)
          omega
        · rw [show i + (cpy A B m n i).1.toNat = i + 1 by omega]; omega
    rcases Nat.eq_or_lt_of_le h1 with q | q
    · rw [q]; exact Int.le_refl _
    · exact Int.le_trans (ih j q h2) key
theorem ls_mon {i j : Nat} (hn : n ≤ 120) (h1 : i ≤ j) (h2 : j ≤ n) : ls A B m n j ≤ ls A B m n i := ls_mono hn (n - i) i (by omega) j h1 h2
/-- the last of the adds that cost least -/
theorem adC_last (f : Nat → Int) (i : Nat) (c : Ch) : ∀ k, (adC f i c k = c ∧ ∀ j : Nat, j < k → c.1 < 1 + ((j : Int) + 1) + f (i + j + 1)) ∨ ∃ j : Nat, j < k ∧ adC f i c k = (1 + ((j : Int) + 1) + f (i + j + 1), 2, (j : Int) + 1, (i : Int), 0) ∧ ∀ j' : Nat, j < j' → j' < k → (adC f i c k).1 < 1 + ((j' : Int) + 1) + f (i + j' + 1)
  | 0 => Or.inl ⟨rfl, fun j h => absurd h (by omega)⟩
  | k + 1 => by
    rw [adC, try1]
    by_cases e : 1 + ((k : Int) + 1) + f (i + k + 1) ≤ (adC f i c k).1
    · rw [if_pos e]
      exact Or.inr ⟨k, by omega, rfl, fun j' h1 h2 => absurd h1 (by omega)⟩
    · rw [if_neg e]
      rcases adC_last f i c k with ⟨h, g⟩ | ⟨j, hj, h, g⟩
      · refine Or.inl ⟨h, fun j hj => ?_⟩
        rcases Nat.lt_or_ge j k with q | q
        · exact g j q
        · rw [show j = k by omega]; rw [h] at e; omega
      · refine Or.inr ⟨j, by omega, h, fun j' h1 h2 => ?_⟩
        rcases Nat.lt_or_ge j' k with q | q
        · exact g j' h1 q
        · rw [show j' = k by omega]; omega
abbrev gC (A B : Nat → Int) (m n i : Nat) : Prop := 0 < (cpy A B m n i).1 ∧ 4 + ls A B m n (i + (cpy A B m n i).1.toNat) = ls A B m n i
abbrev gS (A B : Nat → Int) (m n i : Nat) : Prop := 0 < (shf A B m n i).1 ∧ 5 + ls A B m n (i + (shf A B m n i).1.toNat) = ls A B m n i
theorem ch_C {i : Nat} (hi : i < n) (h : gC A B m n i) : ch A B m n i = (ls A B m n i, 0, (cpy A B m n i).1, ((cpy A B m n i).2 : Int), 0) := by
  have e0 := ls_eq (A := A) (B := B) (m := m) hi
  obtain ⟨h0, h1⟩ := h
  rw [ch, stp, c2] at e0 ⊢
  rw [if_pos h0, h1] at e0 ⊢
  generalize (if 0 < (shf A B m n i).1 then try1 (adC (ls A B m n) i (1000000, 0, 0, 0, 0) (min 30 (n - i))) 1 (shf A B m n i).1 (shf A B m n i).2 (ap A B i (shf A B m n i).2) (5 + ls A B m n (i + (shf A B m n i).1.toNat)) else adC (ls A B m n) i (1000000, 0, 0, 0, 0) (min 30 (n - i))) = c1 at e0 ⊢
  unfold try1 at e0 ⊢
  by_cases q : ls A B m n i ≤ c1.1
  · rw [if_pos q]
  · rw [if_neg q] at e0; exact absurd e0 (by omega)
theorem ch_nC {i : Nat} (hi : i < n) (h : ¬ gC A B m n i) : ch A B m n i = (if 0 < (shf A B m n i).1 then try1 (adC (ls A B m n) i (1000000, 0, 0, 0, 0) (min 30 (n - i))) 1 (shf A B m n i).1 (shf A B m n i).2 (ap A B i (shf A B m n i).2) (5 + ls A B m n (i + (shf A B m n i).1.toNat)) else adC (ls A B m n) i (1000000, 0, 0, 0, 0) (min 30 (n - i))) := by
  have e0 := ls_eq (A := A) (B := B) (m := m) hi
  rw [ch, stp, c2] at e0 ⊢
  generalize (if 0 < (shf A B m n i).1 then try1 (adC (ls A B m n) i (1000000, 0, 0, 0, 0) (min 30 (n - i))) 1 (shf A B m n i).1 (shf A B m n i).2 (ap A B i (shf A B m n i).2) (5 + ls A B m n (i + (shf A B m n i).1.toNat)) else adC (ls A B m n) i (1000000, 0, 0, 0, 0) (min 30 (n - i))) = c1 at e0 ⊢
  by_cases q0 : 0 < (cpy A B m n i).1
  · rw [if_pos q0] at e0 ⊢
    unfold try1 at e0 ⊢
    by_cases q : 4 + ls A B m n (i + (cpy A B m n i).1.toNat) ≤ c1.1
    · rw [if_pos q] at e0
      exact absurd ⟨q0, e0.symm⟩ h
    · rw [if_neg q]
  · rw [if_neg q0]
theorem ch_S {i : Nat} (hi : i < n) (h : ¬ gC A B m n i) (h2 : gS A B m n i) : ch A B m n i = (ls A B m n i, 1, (shf A B m n i).1, ((shf A B m n i).2 : Int), ap A B i (shf A B m n i).2) := by
  have e0 := ls_eq (A := A) (B := B) (m := m) hi
  rw [ch_nC hi h] at e0 ⊢
  obtain ⟨h0, h1⟩ := h2
  rw [if_pos h0, h1] at e0 ⊢
  generalize adC (ls A B m n) i (1000000, 0, 0, 0, 0) (min 30 (n - i)) = c1 at e0 ⊢
  unfold try1 at e0 ⊢
  by_cases q : ls A B m n i ≤ c1.1
  · rw [if_pos q]
  · rw [if_neg q] at e0; exact absurd e0 (by omega)
theorem ch_A {i : Nat} (hn : n ≤ 120) (hi : i < n) (h : ¬ gC A B m n i) (h2 : ¬ gS A B m n i) : ∃ k : Nat, 1 ≤ k ∧ k ≤ 30 ∧ i + k ≤ n ∧ ch A B m n i = (ls A B m n i, 2, (k : Int), (i : Int), 0) ∧ 1 + (k : Int) + ls A B m n (i + k) = ls A B m n i ∧ ∀ k' : Nat, k < k' → k' ≤ 30 → i + k' ≤ n → 1 + (k' : Int) + ls A B m n (i + k') ≠ ls A B m n i := by
  have e0 := ls_eq (A := A) (B := B) (m := m) hi
  have hl := ls_in A B m n hn (n - (i + 1)) (i + 1) (by omega)
  have e1 : ch A B m n i = adC (ls A B m n) i (1000000, 0, 0, 0, 0) (min 30 (n - i)) := by
    have e2 := ch_nC hi h
    rw [e2] at e0
    rw [e2]
    by_cases q0 : 0 < (shf A B m n i).1
    · rw [if_pos q0] at e0 ⊢
      unfold try1 at e0 ⊢
      by_cases q : 5 + ls A B m n (i + (shf A B m n i).1.toNat) ≤ (adC (ls A B m n) i (1000000, 0, 0, 0, 0) (min 30 (n - i))).1
      · rw [if_pos q] at e0
        exact absurd ⟨q0, e0.symm⟩ h2
      · rw [if_neg q]
    · rw [if_neg q0]
  rw [e1] at e0
  rcases adC_last (ls A B m n) i (1000000, 0, 0, 0, 0) (min 30 (n - i)) with ⟨-, g⟩ | ⟨j, hj, e, g⟩
  · have := g 0 (by omega)
    rw [Nat.add_zero] at this
    simp only at this
    omega
  · rw [e] at e0
    simp only at e0
    refine ⟨j + 1, by omega, by omega, by omega, ?_, ?_, fun k' h1 h3 h4 => ?_⟩
    · rw [e1, e, ← e0]; rfl
    · rw [show i + (j + 1) = i + j + 1 by omega, e0]; omega
    · have := g (k' - 1) (by omega) (by omega)
      rw [e] at this
      simp only at this
      rw [show i + (k' - 1) + 1 = i + k' by omega] at this
      omega
end LSM
/-! only the bytes that are there matter -/
section CNG
variable {A B A' B' : Nat → Int} {m n : Nat}
theorem rnd_cong (hA : ∀ p, p < m → A p = A' p) (hB : ∀ i, i < n → B i = B' i) : ∀ d p, d ≤ n → rnd A B m n d p = rnd A' B' m n d p
  | 0, _, _ => rfl
  | d + 1, p, hd => by
    simp only [rnd]
    by_cases e : p < m
    · rw [if_pos e, if_pos e, rnd_cong hA hB d (p + 1) (by omega)]
      have e1 : ap A B (n - (d + 1)) p = ap A' B' (n - (d + 1)) p := by rw [ap, ap, hA p e, hB _ (by omega)]
      by_cases e2 : 0 < d ∧ p + 1 < m
      · have e3 : ap A B (n - d) (p + 1) = ap A' B' (n - d) (p + 1) := by rw [ap, ap, hA _ e2.2, hB _ (by omega)]
        rw [e1, e3]
      · rw [if_neg (fun q => e2 ⟨q.1, q.2.1⟩), if_neg (fun q => e2 ⟨q.1, q.2.1⟩)]
    · rw [if_neg e, if_neg e]
theorem mx_cong {c c' : Nat → Bool} {r r' : Nat → Int} : ∀ {p : Nat}, (∀ q, q < p → c q = c' q ∧ r q = r' q) → mx c r p = mx c' r' p
  | 0, _ => rfl
  | p + 1, h => by
    rw [mx, mx, mx_cong (fun q hq => h q (by omega)), (h p (by omega)).1, (h p (by omega)).2]
theorem cpy_cong (hA : ∀ p, p < m → A p = A' p) (hB : ∀ i, i < n → B i = B' i) {i : Nat} (hi : i < n) : cpy A B m n i = cpy A' B' m n i := mx_cong (fun q hq => ⟨by rw [isC, isC, ap, ap, hA q hq, hB i hi], rnd_cong hA hB _ _ (by omega)⟩)
theorem shf_cong (hA : ∀ p, p < m → A p = A' p) (hB : ∀ i, i < n → B i = B' i) {i : Nat} (hi : i < n) : shf A B m n i = shf A' B' m n i := mx_cong (fun q hq => ⟨by rw [isS, isS, ap, ap, hA q hq, hB i hi], rnd_cong hA hB _ _ (by omega)⟩)
theorem stp_cng (hA : ∀ p, p < m → A p = A' p) (hB : ∀ i, i < n → B i = B' i) {i : Nat} (hi : i < n) (f : Nat → Int) : stp A B m n f i = stp A' B' m n f i := by
  rw [stp, stp, cpy_cong hA hB hi, shf_cong hA hB hi]
  simp only [c2]
  have hs := shf_in A' B' m n i
  by_cases e : 0 < (shf A' B' m n i).1
  · have h2 := (hs.2.2 e).1
    rw [if_pos e, if_pos e, show ap A B i (shf A' B' m n i).2 = ap A' B' i (shf A' B' m n i).2 by rw [ap, ap, hA _ h2, hB i hi]]
  · rw [if_neg e, if_neg e]
theorem lsP_cong (hA : ∀ p, p < m → A p = A' p) (hB : ∀ i, i < n → B i = B' i) : ∀ d, d ≤ n → lsP A B m n d = lsP A' B' m n d
  | 0, _ => rfl
  | d + 1, hd => by
    funext j
    simp only [lsP]
    rw [lsP_cong hA hB d (by omega), stp_cng hA hB (by omega)]
theorem ls_cong (hA : ∀ p, p < m → A p = A' p) (hB : ∀ i, i < n → B i = B' i) : ls A B m n = ls A' B' m n := by
  funext i
  rw [ls, ls, lsP_cong hA hB n (Nat.le_refl _)]
theorem ch_cong (hA : ∀ p, p < m → A p = A' p) (hB : ∀ i, i < n → B i = B' i) {i : Nat} (hi : i < n) : ch A B m n i = ch A' B' m n i := by
  rw [ch, ch, ls_cong hA hB, stp_cng hA hB hi]
theorem pos_cong (hA : ∀ p, p < m → A p = A' p) (hB : ∀ i, i < n → B i = B' i) {N : Nat} (hN : ∀ k, k < N → pos A B m n k < n) : ∀ k, k ≤ N → pos A B m n k = pos A' B' m n k
  | 0, _ => rfl
  | k + 1, hk => by rw [pos, pos, ← pos_cong hA hB hN k (by omega), ch_cong hA hB (hN k (by omega))]
theorem sgm_cong (hA : ∀ p, p < m → A p = A' p) (hB : ∀ i, i < n → B i = B' i) : ∀ x, x ≤ n → sgm A B m n x = sgm A' B' m n x ∧ sgm A B m n x ≤ x
  | 0, _ => ⟨by simp only [sgm], by simp only [sgm]; exact Nat.le_refl _⟩
  | x + 1, hx => by
    have ih := sgm_cong hA hB x (by omega)
    have e : sgm A B m n (x + 1) = sgm A' B' m n (x + 1) := by
      rw [sgm, sgm, ← ih.1, ch_cong hA hB (show sgm A B m n x < n by omega)]
    refine ⟨e, ?_⟩
    rw [sgm]
    split <;> omega
theorem src_cong (hA : ∀ p, p < m → A p = A' p) (hB : ∀ i, i < n → B i = B' i) {x : Nat} (hx : x < n) : srcF A B m n x = srcF A' B' m n x ∧ pluF A B m n x = pluF A' B' m n x := by
  have h := sgm_cong hA hB x (by omega)
  rw [srcF, srcF, pluF, pluF, ← h.1, ch_cong hA hB (show sgm A B m n x < n by omega), hB x hx]
  exact ⟨rfl, rfl⟩
end CNG
