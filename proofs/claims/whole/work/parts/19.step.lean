theorem mI_off {I : Nat → Nat → Int} {a i b j : Nat} {z : Int} (h : j ≠ i) : mI I a i z b j = I b j := by
  by_cases e : b = a
  · subst e; exact mI_nj h
  · rw [mI_ne e]
/-- a step that is tried: cost, kind, length, place, shift -/
abbrev Ch : Type := Int × Int × Int × Int × Int
def try1 (c : Ch) (kd n p d tot : Int) : Ch := if tot ≤ c.1 then (tot, kd, n, p, d) else c
def adC (f : Nat → Int) (i : Nat) (c : Ch) : Nat → Ch
  | 0 => c
  | k + 1 => try1 (adC f i c k) 2 ((k : Int) + 1) i 0 (1 + ((k : Int) + 1) + f (i + k + 1))
def c2 (f : Nat → Int) (i : Nat) (c : Ch) (cr cf sr sf g : Int) : Ch :=
  let c1 := if 0 < sr then try1 c 1 sr sf g (5 + f (i + sr.toNat)) else c
  if 0 < cr then try1 c1 0 cr cf 0 (4 + f (i + cr.toNat)) else c1
theorem adC_cong {f g : Nat → Int} {i : Nat} {c : Ch} : ∀ {k : Nat}, (∀ j, i < j → j ≤ i + k → f j = g j) → adC f i c k = adC g i c k
  | 0, _ => rfl
  | k + 1, h => by
    rw [adC, adC, adC_cong (fun j h1 h2 => h j h1 (by omega)), h (i + k + 1) (by omega) (by omega)]
theorem adC_stale {f : Nat → Int} {i : Nat} {c c' : Ch} (hc : c.1 = 1000000) (hc' : c'.1 = 1000000) (h : f (i + 1) ≤ 999998) : ∀ k, adC f i c (k + 1) = adC f i c' (k + 1)
  | 0 => by
    simp only [adC, try1, hc, hc', Nat.add_zero]
    rw [if_pos (by omega), if_pos (by omega)]
  | k + 1 => by rw [adC, adC_stale hc hc' h k]; rfl
def stp (A B : Nat → Int) (m n : Nat) (f : Nat → Int) (i : Nat) : Ch :=
  c2 f i (adC f i (1000000, 0, 0, 0, 0) (min 30 (n - i))) (cpy A B m n i).1 (cpy A B m n i).2 (shf A B m n i).1 (shf A B m n i).2 (ap A B i (shf A B m n i).2)
theorem cpy_in (A B : Nat → Int) (m n i : Nat) : 0 ≤ (cpy A B m n i).1 ∧ (cpy A B m n i).1 ≤ (n - i : Nat) ∧ (0 < (cpy A B m n i).1 → (cpy A B m n i).2 < m ∧ ap A B i (cpy A B m n i).2 = 0 ∧ rn A B m n i (cpy A B m n i).2 = (cpy A B m n i).1) := by
  have h := mx_in (isC A B i) (rn A B m n i) m
  have key : 0 < (cpy A B m n i).1 → (cpy A B m n i).2 < m ∧ ap A B i (cpy A B m n i).2 = 0 ∧ rn A B m n i (cpy A B m n i).2 = (cpy A B m n i).1 := fun h0 => by
    obtain ⟨a, b, c, -⟩ := h.2.1 h0
    exact ⟨a, of_decide_eq_true b, c⟩
  refine ⟨h.1, ?_, key⟩
  rcases Int.lt_or_le 0 (cpy A B m n i).1 with e | e
  · have := (rn_in A B m n i (cpy A B m n i).2).2.1
    rw [(key e).2.2] at this
    exact this
  · omega
theorem shf_in (A B : Nat → Int) (m n i : Nat) : 0 ≤ (shf A B m n i).1 ∧ (shf A B m n i).1 ≤ (n - i : Nat) ∧ (0 < (shf A B m n i).1 → (shf A B m n i).2 < m ∧ ap A B i (shf A B m n i).2 ≠ 0 ∧ rn A B m n i (shf A B m n i).2 = (shf A B m n i).1) := by
  have h := mx_in (isS A B i) (rn A B m n i) m
  have key : 0 < (shf A B m n i).1 → (shf A B m n i).2 < m ∧ ap A B i (shf A B m n i).2 ≠ 0 ∧ rn A B m n i (shf A B m n i).2 = (shf A B m n i).1 := fun h0 => by
    obtain ⟨a, b, c, -⟩ := h.2.1 h0
    exact ⟨a, of_decide_eq_true b, c⟩
  refine ⟨h.1, ?_, key⟩
  rcases Int.lt_or_le 0 (shf A B m n i).1 with e | e
  · have := (rn_in A B m n i (shf A B m n i).2).2.1
    rw [(key e).2.2] at this
    exact this
  · omega
theorem stp_cong {A B : Nat → Int} {m n : Nat} {f g : Nat → Int} {i : Nat} (hi : i < n) (h : ∀ j, i < j → j ≤ n → f j = g j) : stp A B m n f i = stp A B m n g i := by
  unfold stp
  rw [adC_cong (g := g) (fun j h1 h2 => h j h1 (by omega))]
  have hc := cpy_in A B m n i
  have hs := shf_in A B m n i
  simp only [c2]
  by_cases e1 : 0 < (shf A B m n i).1
  · rw [if_pos e1, if_pos e1, h _ (by omega) (by omega)]
    by_cases e2 : 0 < (cpy A B m n i).1
    · rw [if_pos e2, if_pos e2, h _ (by omega) (by omega)]
    · rw [if_neg e2, if_neg e2]
  · rw [if_neg e1, if_neg e1]
    by_cases e2 : 0 < (cpy A B m n i).1
    · rw [if_pos e2, if_pos e2, h _ (by omega) (by omega)]
    · rw [if_neg e2, if_neg e2]
def lsP (A B : Nat → Int) (m n : Nat) : Nat → Nat → Int
  | 0 => fun _ => 0
  | d + 1 => fun j => if j + (d + 1) = n then (stp A B m n (lsP A B m n d) (n - (d + 1))).1 else lsP A B m n d j
theorem lsP_keep (A B : Nat → Int) (m n : Nat) {j d : Nat} (h : n ≤ j + d) : ∀ e, lsP A B m n (d + e) j = lsP A B m n d j
  | 0 => rfl
  | e + 1 => by
    rw [show d + (e + 1) = (d + e) + 1 by omega]
    simp only [lsP]
    rw [if_neg (by omega)]
    exact lsP_keep A B m n h e
/-- the least cost of the new bytes from i on -/
def ls (A B : Nat → Int) (m n i : Nat) : Int := lsP A B m n n i
/-- what is chosen there -/
def ch (A B : Nat → Int) (m n i : Nat) : Ch := stp A B m n (ls A B m n) i
theorem ls_n (A B : Nat → Int) (m n : Nat) : ls A B m n n = 0 := by
  have := lsP_keep A B m n (j := n) (d := 0) (by omega) n
  rw [Nat.zero_add] at this
  exact this
theorem ls_eq {A B : Nat → Int} {m n i : Nat} (h : i < n) : ls A B m n i = (ch A B m n i).1 := by
  obtain ⟨d, hd⟩ : ∃ d, n = i + (d + 1) := ⟨n - i - 1, by omega⟩
  have e1 : ls A B m n i = lsP A B m n (d + 1) i := by
    have := lsP_keep A B m n (j := i) (d := d + 1) (by omega) i
    unfold ls
    rw [← this]
    congr 1
    omega
  rw [e1]
  simp only [lsP]
  rw [if_pos hd.symm, show n - (d + 1) = i by omega, ch]
  rw [stp_cong h (fun j h1 h2 => ?_)]
  have := lsP_keep A B m n (j := j) (d := d) (by omega) (n - d)
  rw [← this, ls]
  congr 1
  omega
theorem try1_le (c : Ch) (kd n p d tot : Int) : (try1 c kd n p d tot).1 ≤ c.1 ∧ (try1 c kd n p d tot).1 ≤ tot := by
  unfold try1
  split
  · exact ⟨by simp only; omega, by simp only; omega⟩
  · exact ⟨by omega, by omega⟩
theorem adC_le (f : Nat → Int) (i : Nat) (c : Ch) : ∀ k, (adC f i c k).1 ≤ c.1 ∧ ∀ j, j < k → (adC f i c k).1 ≤ 1 + ((j : Int) + 1) + f (i + j + 1)
  | 0 => ⟨by simp [adC], fun j h => absurd h (by omega)⟩
  | k + 1 => by
    have ih := adC_le f i c k
    have t := try1_le (adC f i c k) 2 ((k : Int) + 1) i 0 (1 + ((k : Int) + 1) + f (i + k + 1))
    rw [adC]
    refine ⟨by omega, fun j hj => ?_⟩
    rcases Nat.lt_or_ge j k with e | e
    · have := ih.2 j e; omega
    · have : j = k := by omega
      subst this; omega
/-- where the choice comes from -/
theorem adC_of (f : Nat → Int) (i : Nat) (c : Ch) : ∀ k, adC f i c k = c ∨ ∃ j, j < k ∧ adC f i c k = (1 + ((j : Int) + 1) + f (i + j + 1), 2, (j : Int) + 1, (i : Int), 0)
  | 0 => Or.inl rfl
  | k + 1 => by
    rw [adC, try1]
    split
    · exact Or.inr ⟨k, by omega, rfl⟩
    · rcases adC_of f i c k with h | ⟨j, hj, h⟩
      · exact Or.inl h
      · exact Or.inr ⟨j, by omega, h⟩
theorem adC_pos {f : Nat → Int} {i : Nat} {c : Ch} {k : Nat} (hk : 0 < k) (hc : c.1 = 1000000) (h : f (i + 1) ≤ 999990) : ∃ j, j < k ∧ adC f i c k = (1 + ((j : Int) + 1) + f (i + j + 1), 2, (j : Int) + 1, (i : Int), 0) := by
  rcases adC_of f i c k with e | e
  · have := (adC_le f i c k).2 0 hk
    rw [e, hc, Nat.add_zero] at this
    omega
  · exact e
theorem ch_in {A B : Nat → Int} {m n i : Nat} (hi : i < n) (h : ls A B m n (i + 1) ≤ 999990) :
    (∃ j : Nat, j < min 30 (n - i) ∧ ch A B m n i = (1 + ((j : Int) + 1) + ls A B m n (i + j + 1), 2, (j : Int) + 1, (i : Int), 0)) ∨
    (0 < (shf A B m n i).1 ∧ ch A B m n i = (5 + ls A B m n (i + (shf A B m n i).1.toNat), 1, (shf A B m n i).1, ((shf A B m n i).2 : Int), ap A B i (shf A B m n i).2)) ∨
    (0 < (cpy A B m n i).1 ∧ ch A B m n i = (4 + ls A B m n (i + (cpy A B m n i).1.toNat), 0, (cpy A B m n i).1, ((cpy A B m n i).2 : Int), 0)) := by
  obtain ⟨j, hj, e⟩ := adC_pos (f := ls A B m n) (i := i) (c := (1000000, 0, 0, 0, 0)) (k := min 30 (n - i)) (by omega) rfl h
  have tor : ∀ (c : Ch) (kd n p d tot : Int), try1 c kd n p d tot = (tot, kd, n, p, d) ∨ try1 c kd n p d tot = c := fun c kd n p d tot => by
    unfold try1
    split
    · exact Or.inl rfl
    · exact Or.inr rfl
  unfold ch stp c2
  rw [e]
  simp only
  by_cases e1 : 0 < (shf A B m n i).1
  · rw [if_pos e1]
    by_cases e2 : 0 < (cpy A B m n i).1
    · rw [if_pos e2]
      rcases tor (try1 (1 + ((j : Int) + 1) + ls A B m n (i + j + 1), 2, (j : Int) + 1, (i : Int), 0) 1 (shf A B m n i).1 (shf A B m n i).2 (ap A B i (shf A B m n i).2) (5 + ls A B m n (i + (shf A B m n i).1.toNat))) 0 (cpy A B m n i).1 (cpy A B m n i).2 0 (4 + ls A B m n (i + (cpy A B m n i).1.toNat)) with h1 | h1
      · exact Or.inr (Or.inr ⟨e2, h1⟩)
      · rw [h1]
        rcases tor (1 + ((j : Int) + 1) + ls A B m n (i + j + 1), 2, (j : Int) + 1, (i : Int), 0) 1 (shf A B m n i).1 (shf A B m n i).2 (ap A B i (shf A B m n i).2) (5 + ls A B m n (i + (shf A B m n i).1.toNat)) with h2 | h2
        · exact Or.inr (Or.inl ⟨e1, h2⟩)
        · exact Or.inl ⟨j, hj, h2⟩
    · rw [if_neg e2]
      rcases tor (1 + ((j : Int) + 1) + ls A B m n (i + j + 1), 2, (j : Int) + 1, (i : Int), 0) 1 (shf A B m n i).1 (shf A B m n i).2 (ap A B i (shf A B m n i).2) (5 + ls A B m n (i + (shf A B m n i).1.toNat)) with h2 | h2
      · exact Or.inr (Or.inl ⟨e1, h2⟩)
      · exact Or.inl ⟨j, hj, h2⟩
  · rw [if_neg e1]
    by_cases e2 : 0 < (cpy A B m n i).1
    · rw [if_pos e2]
      rcases tor (1 + ((j : Int) + 1) + ls A B m n (i + j + 1), 2, (j : Int) + 1, (i : Int), 0) 0 (cpy A B m n i).1 (cpy A B m n i).2 0 (4 + ls A B m n (i + (cpy A B m n i).1.toNat)) with h1 | h1
      · exact Or.inr (Or.inr ⟨e2, h1⟩)
      · exact Or.inl ⟨j, hj, h1⟩
    · rw [if_neg e2]
      exact Or.inl ⟨j, hj, rfl⟩
theorem ch_le {A B : Nat → Int} {m n i : Nat} (hi : i < n) : (ch A B m n i).1 ≤ 2 + ls A B m n (i + 1) := by
  have h := (adC_le (ls A B m n) i (1000000, 0, 0, 0, 0) (min 30 (n - i))).2 0 (by omega)
  rw [Nat.add_zero] at h
  unfold ch stp c2
  have t := fun c kd n p d tot => (try1_le c kd n p d tot).1
  simp only
  split
  · refine Int.le_trans (t _ _ _ _ _ _) ?_
    split
    · exact Int.le_trans (t _ _ _ _ _ _) (by omega)
    · omega
  · split
    · exact Int.le_trans (t _ _ _ _ _ _) (by omega)
    · omega
theorem ls_in (A B : Nat → Int) (m n : Nat) (hn : n ≤ 120) : ∀ d i, i + d = n → 0 ≤ ls A B m n i ∧ ls A B m n i ≤ 2 * d
  | 0, i, h => by
    have : i = n := by omega
    subst this
    rw [ls_n]; exact ⟨by omega, by omega⟩
  | d + 1, i, h => by
    have key : ∀ j, i < j → j ≤ n → 0 ≤ ls A B m n j ∧ ls A B m n j ≤ 2 * (n - j : Nat) := fun j h1 h2 => by
      have := ls_in A B m n hn (n - j) j (by omega)
      exact this
    have h1 := key (i + 1) (by omega) (by omega)
    rw [ls_eq (by omega)]
    have hle := ch_le (A := A) (B := B) (m := m) (n := n) (i := i) (by omega)
    refine ⟨?_, by omega⟩
    rcases ch_in (A := A) (B := B) (m := m) (n := n) (i := i) (by omega) (by omega) with ⟨j, hj, e⟩ | ⟨h0, e⟩ | ⟨h0, e⟩
    · rw [e]; have := key (i + j + 1) (by omega) (by omega); simp only; omega
    · have b := shf_in A B m n i
      rw [e]; have := key (i + (shf A B m n i).1.toNat) (by omega) (by omega); simp only; omega
    · have b := cpy_in A B m n i
      rw [e]; have := key (i + (cpy A B m n i).1.toNat) (by omega) (by omega); simp only; omega
  termination_by d => d

section STP
variable {T L : Nat → Nat} {P : Nat → Nat → Option Nat} {I : Nat → Nat → Int} {hn : Nat}
def mem5 (J : Nat → Nat → Int) (i : Nat) : Ch := (J 13 i, J 14 i, J 15 i, J 16 i, J 17 i)
/-- only the planner's choice at i has changed: it is c -/
def tPost (I : Nat → Nat → Int) (i : Nat) (c : Ch) (J : Nat → Nat → Int) : Prop := (∀ b, b < 13 ∨ 17 < b → J b = I b) ∧ (∀ b j, 13 ≤ b → b ≤ 17 → j ≠ i → J b j = I b j) ∧ mem5 J i = c

set_option maxHeartbeats 4000000 in
set_option maxRecDepth 100000 in
theorem k_tryStep {i : Nat} {kd n p d : Int} (hW : Wd T L P) (hk : kd = 0 ∨ kd = 1 ∨ kd = 2) (h1 : 1 ≤ n) (h2 : (i : Int) + n ≤ 120) (h3 : 0 ≤ I 13 (i + n.toNat)) (h4 : I 13 (i + n.toNat) ≤ 1000) : iX4_tryStep [.inr (some 10), .inl (i : Int), .inl kd, .inl n, .inl p, .inl d] T L P I hn (fun r J => r = none ∧ tPost I i (try1 (mem5 I i) kd n p d (spr kd n + I 13 (i + n.toNat))) J) := by
  refine CT.by (by decide) (Nat.le_of_ble_eq_true rfl) fun X Y Q hQ K hv => ?_
  have l13 : L 13 = 121 := hW.2.1 13 121 rfl (by decide)
  have l14 : L 14 = 120 := hW.2.1 14 120 rfl (by decide)
  have l15 : L 15 = 120 := hW.2.1 15 120 rfl (by decide)
  have l16 : L 16 = 120 := hW.2.1 16 120 rfl (by decide)
  have l17 : L 17 = 120 := hW.2.1 17 120 rfl (by decide)
  have ei : ((i : Int) + n).toNat = i + n.toNat := by omega
  have hsp : 0 ≤ spr kd n ∧ spr kd n ≤ 121 := by
    unfold spr
    rcases hk with rfl | rfl | rfl <;> simp <;> omega
  refine r_iload_n K dX4_tryStep_0 rfl ?_
  refine r_iload_n K dX4_tryStep_1 rfl ?_
  refine rcS2p K dX4_tryStep_2 c_X4_82 s_X7_stepPrice (k_stepPrice hk (by omega) (by omega)) (by decide) (Nat.le_of_ble_eq_true rfl) ?_
  refine r_aload_n K dX4_tryStep_5 rfl ?_
  refine r_getR K dX4_tryStep_6 f_X4_18 rfl (by first | assumption | exact hW.1 _ _ rfl | exact hW.2.2.1 _ _ _ rfl) (by first | assumption | exact hW.1 _ _ rfl | exact hW.2.2.1 _ _ _ rfl) ?_
  try simp only [Int.toNat_natCast, ei]
  refine r_iload_n K dX4_tryStep_9 rfl ?_
  refine r_iload_n K dX4_tryStep_10 rfl ?_
  refine r_iadd K dX4_tryStep_11 ?_
  refine r_iald K dX4_tryStep_12 (by first | assumption | exact hW.1 _ _ rfl | exact hW.2.2.1 _ _ _ rfl) (by omega) (by omega) ?_
  try simp only [Int.toNat_natCast, ei]
  refine r_iadd K dX4_tryStep_13 ?_
  refine r_istore K dX4_tryStep_14 (by decide) ?_
  refine r_iload K dX4_tryStep_16 rfl ?_
  refine r_aload_n K dX4_tryStep_18 rfl ?_
  refine r_getR K dX4_tryStep_19 f_X4_18 rfl (by first | assumption | exact hW.1 _ _ rfl | exact hW.2.2.1 _ _ _ rfl) (by first | assumption | exact hW.1 _ _ rfl | exact hW.2.2.1 _ _ _ rfl) ?_
  try simp only [Int.toNat_natCast, ei]
  refine r_iload_n K dX4_tryStep_22 rfl ?_
  refine r_iald K dX4_tryStep_23 (by first | assumption | exact hW.1 _ _ rfl | exact hW.2.2.1 _ _ _ rfl) (by omega) (by omega) ?_
  try simp only [Int.toNat_natCast, ei]
  refine r_icmp_gt K 65 dX4_tryStep_24 (by decide) (fun c24 => ?_) (fun c24 => ?_)
  · exact q_vret K hQ rfl dX4_tryStep_65 (Nat.le_refl _) (Nat.le_refl _) ⟨rfl, rfl, rfl, rfl, rfl, fun _ _ => rfl, fun _ _ _ _ _ => rfl, by rw [try1, if_neg (by simp only [mem5]; omega)]⟩
  · refine r_aload_n K dX4_tryStep_27 rfl ?_
    refine r_getR K dX4_tryStep_28 f_X4_18 rfl (by first | assumption | exact hW.1 _ _ rfl | exact hW.2.2.1 _ _ _ rfl) (by first | assumption | exact hW.1 _ _ rfl | exact hW.2.2.1 _ _ _ rfl) ?_
    try simp only [Int.toNat_natCast, ei]
    refine r_iload_n K dX4_tryStep_31 rfl ?_
    refine r_iload K dX4_tryStep_32 rfl ?_
    refine r_iast K dX4_tryStep_34 (by first | assumption | exact hW.1 _ _ rfl | exact hW.2.2.1 _ _ _ rfl) (by omega) (by omega) ?_
    refine r_aload_n K dX4_tryStep_35 rfl ?_
    refine r_getR K dX4_tryStep_36 f_X4_21 rfl (by first | assumption | exact hW.1 _ _ rfl | exact hW.2.2.1 _ _ _ rfl) (by first | assumption | exact hW.1 _ _ rfl | exact hW.2.2.1 _ _ _ rfl) ?_
    try simp only [Int.toNat_natCast, ei]
    refine r_iload_n K dX4_tryStep_39 rfl ?_
    refine r_iload_n K dX4_tryStep_40 rfl ?_
    refine r_iast K dX4_tryStep_41 (by first | assumption | exact hW.1 _ _ rfl | exact hW.2.2.1 _ _ _ rfl) (by omega) (by omega) ?_
    refine r_aload_n K dX4_tryStep_42 rfl ?_
    refine r_getR K dX4_tryStep_43 f_X4_24 rfl (by first | assumption | exact hW.1 _ _ rfl | exact hW.2.2.1 _ _ _ rfl) (by first | assumption | exact hW.1 _ _ rfl | exact hW.2.2.1 _ _ _ rfl) ?_
    try simp only [Int.toNat_natCast, ei]
    refine r_iload_n K dX4_tryStep_46 rfl ?_
    refine r_iload_n K dX4_tryStep_47 rfl ?_
    refine r_iast K dX4_tryStep_48 (by first | assumption | exact hW.1 _ _ rfl | exact hW.2.2.1 _ _ _ rfl) (by omega) (by omega) ?_
    refine r_aload_n K dX4_tryStep_49 rfl ?_
    refine r_getR K dX4_tryStep_50 f_X4_27 rfl (by first | assumption | exact hW.1 _ _ rfl | exact hW.2.2.1 _ _ _ rfl) (by first | assumption | exact hW.1 _ _ rfl | exact hW.2.2.1 _ _ _ rfl) ?_
    try simp only [Int.toNat_natCast, ei]
    refine r_iload_n K dX4_tryStep_53 rfl ?_
    refine r_iload K dX4_tryStep_54 rfl ?_
    refine r_iast K dX4_tryStep_56 (by first | assumption | exact hW.1 _ _ rfl | exact hW.2.2.1 _ _ _ rfl) (by omega) (by omega) ?_
    refine r_aload_n K dX4_tryStep_57 rfl ?_
    refine r_getR K dX4_tryStep_58 f_X4_30 rfl (by first | assumption | exact hW.1 _ _ rfl | exact hW.2.2.1 _ _ _ rfl) (by first | assumption | exact hW.1 _ _ rfl | exact hW.2.2.1 _ _ _ rfl) ?_
    try simp only [Int.toNat_natCast, ei]
    refine r_iload_n K dX4_tryStep_61 rfl ?_
    refine r_iload K dX4_tryStep_62 rfl ?_
    refine r_iast K dX4_tryStep_64 (by first | assumption | exact hW.1 _ _ rfl | exact hW.2.2.1 _ _ _ rfl) (by omega) (by omega) ?_
    exact q_vret K hQ rfl dX4_tryStep_65 (Nat.le_refl _) (Nat.le_refl _) (⟨rfl, rfl, rfl, rfl, rfl, fun b hb => by
      rw [mI_ne (by omega), mI_ne (by omega), mI_ne (by omega), mI_ne (by omega), mI_ne (by omega)], fun b j h1 h2 hj => by
      simp only [Int.toNat_natCast]
      rw [mI_off hj, mI_off hj, mI_off hj, mI_off hj, mI_off hj], by
      rw [try1, if_pos (by simp only [mem5]; omega)]
      simp only [mem5, mI_row, mI_ne, ne_eq, not_false_eq_true, Nat.reduceEqDiff, Int.toNat_natCast, if_true]⟩)
end STP
