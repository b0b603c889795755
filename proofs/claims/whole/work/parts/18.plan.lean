/-! the planner's mathematics -/
theorem zAnd_255 {x : Int} (h : rg x) : zAnd x 255 = x % 256 := by
  have e : (Int32.ofInt x &&& Int32.ofInt 255) = nI ((Int32.ofInt x).toBitVec.toNat % 2 ^ 8) := pk_and _ 8 (by decide)
  unfold zAnd
  rw [e, nI_toInt (by omega)]
  have e2 : ((Int32.ofInt x).toBitVec.toNat : Int) = x % 4294967296 := by
    have : (Int32.ofInt x).toBitVec = BitVec.ofInt 32 x := rfl
    rw [this, BitVec.toNat_ofInt]
    omega
  omega
def ap (A B : Nat → Int) (i p : Nat) : Int := (B i - A p) % 256
def rnd (A B : Nat → Int) (m n : Nat) : Nat → Nat → Int
  | 0, _ => 0
  | d + 1, p => if p < m then (if 0 < d ∧ p + 1 < m ∧ ap A B (n - d) (p + 1) = ap A B (n - (d + 1)) p then 1 + rnd A B m n d (p + 1) else 1) else 0
/-- how many bytes from new byte i and old byte p on differ by the same gap -/
def rn (A B : Nat → Int) (m n i p : Nat) : Int := rnd A B m n (n - i) p
theorem rn_eq {A B : Nat → Int} {m n i p : Nat} (h : i < n) : rn A B m n i p = if p < m then (if i + 1 < n ∧ p + 1 < m ∧ ap A B (i + 1) (p + 1) = ap A B i p then 1 + rn A B m n (i + 1) (p + 1) else 1) else 0 := by
  obtain ⟨d, hd⟩ : ∃ d, n - i = d + 1 := ⟨n - i - 1, by omega⟩
  unfold rn
  rw [hd, show n - (i + 1) = d by omega]
  simp only [rnd]
  rw [show n - (d + 1) = i by omega]
  by_cases h0 : 0 < d
  · rw [show n - d = i + 1 by omega]
    have : (0 < d ∧ p + 1 < m ∧ ap A B (i + 1) (p + 1) = ap A B i p) ↔ (i + 1 < n ∧ p + 1 < m ∧ ap A B (i + 1) (p + 1) = ap A B i p) := by
      constructor
      · rintro ⟨a, b⟩; exact ⟨by omega, b⟩
      · rintro ⟨a, b⟩; exact ⟨by omega, b⟩
    simp only [this]
  · have z : d = 0 := by omega
    subst z
    simp only [Nat.lt_irrefl, false_and, if_false]
    rw [if_neg (c := i + 1 < n ∧ p + 1 < m ∧ ap A B (i + 1) (p + 1) = ap A B i p) (fun h => by omega)]
theorem rnd_in (A B : Nat → Int) (m n : Nat) : ∀ d p, 0 ≤ rnd A B m n d p ∧ rnd A B m n d p ≤ d ∧ (p ≤ m → rnd A B m n d p ≤ (m : Int) - p)
  | 0, p => by simp only [rnd]; omega
  | d + 1, p => by
    have ih := rnd_in A B m n d (p + 1)
    simp only [rnd]
    split
    · split
      · refine ⟨by omega, by omega, fun _ => ?_⟩
        have := ih.2.2 (by omega)
        omega
      · exact ⟨by omega, by omega, fun _ => by omega⟩
    · exact ⟨by omega, by omega, fun _ => by omega⟩
theorem rn_in (A B : Nat → Int) (m n i p : Nat) : 0 ≤ rn A B m n i p ∧ rn A B m n i p ≤ (n - i : Nat) ∧ (p ≤ m → rn A B m n i p ≤ (m : Int) - p) := rnd_in A B m n (n - i) p
/-- the first place of the longest run among those that c takes -/
def mx (c : Nat → Bool) (r : Nat → Int) : Nat → Int × Nat
  | 0 => (0, 0)
  | p + 1 => if c p = true ∧ (mx c r p).1 < r p then (r p, p) else mx c r p
theorem mx_in (c : Nat → Bool) (r : Nat → Int) : ∀ p, 0 ≤ (mx c r p).1 ∧ (0 < (mx c r p).1 → (mx c r p).2 < p ∧ c (mx c r p).2 = true ∧ r (mx c r p).2 = (mx c r p).1 ∧ ∀ q, q < (mx c r p).2 → c q = true → r q < (mx c r p).1) ∧ ∀ q, q < p → c q = true → r q ≤ (mx c r p).1
  | 0 => ⟨by simp [mx], fun h => absurd h (by simp [mx]), fun q h => absurd h (by omega)⟩
  | p + 1 => by
    have ih := mx_in c r p
    simp only [mx]
    split
    · rename_i h
      refine ⟨by simp only; omega, fun _ => ⟨by simp only; omega, h.1, rfl, fun q hq hc => ?_⟩, fun q hq hc => ?_⟩
      · simp only at hq ⊢
        have := ih.2.2 q hq hc
        omega
      · simp only
        rcases Nat.lt_or_ge q p with e | e
        · have := ih.2.2 q e hc; omega
        · have : q = p := by omega
          subst this; omega
    · rename_i h
      refine ⟨ih.1, fun h0 => ?_, fun q hq hc => ?_⟩
      · obtain ⟨a, b, c', d⟩ := ih.2.1 h0
        exact ⟨by omega, b, c', d⟩
      · rcases Nat.lt_or_ge q p with e | e
        · exact ih.2.2 q e hc
        · have : q = p := by omega
          subst this
          rcases Int.lt_or_le (mx c r q).1 (r q) with e2 | e2
          · exact absurd ⟨hc, e2⟩ h
          · exact e2
def isC (A B : Nat → Int) (i : Nat) : Nat → Bool := fun p => decide (ap A B i p = 0)
def isS (A B : Nat → Int) (i : Nat) : Nat → Bool := fun p => decide (ap A B i p ≠ 0)
def cpy (A B : Nat → Int) (m n i : Nat) : Int × Nat := mx (isC A B i) (rn A B m n i) m
def shf (A B : Nat → Int) (m n i : Nat) : Int × Nat := mx (isS A B i) (rn A B m n i) m
section PLN
variable {T L : Nat → Nat} {P : Nat → Nat → Option Nat} {I : Nat → Nat → Int} {hn o ov f fv m n i : Nat}
/-- the planner's row behind p places, at new byte i -/
def fInv (I : Nat → Nat → Int) (A B : Nat → Int) (m n i p : Nat) (J : Nat → Nat → Int) : Prop :=
  (∀ b, b ≠ 10 → b ≠ 11 → b ≠ 12 → J b = I b) ∧ (∀ j, j < 7 ∨ 10 < j → J 10 j = I 10 j) ∧ (∀ q, q < p → J 12 q = ap A B i q ∧ J 11 q = rn A B m n i q) ∧ (∀ q, p ≤ q → J 12 q = I 12 q ∧ J 11 q = I 11 q) ∧
  J 10 7 = (mx (isC A B i) (rn A B m n i) p).1 ∧ (0 < J 10 7 → J 10 8 = (mx (isC A B i) (rn A B m n i) p).2) ∧ J 10 9 = (mx (isS A B i) (rn A B m n i) p).1 ∧ (0 < J 10 9 → J 10 10 = (mx (isS A B i) (rn A B m n i) p).2)

theorem fStep {A B : Nat → Int} {p : Nat} {J J1 : Nat → Nat → Int} (hJ : fInv I A B m n i p J) (a1 : ∀ b, b ≠ 10 → b ≠ 11 → b ≠ 12 → J1 b = J b) (a2 : ∀ j, j < 7 ∨ 10 < j → J1 10 j = J 10 j) (a3 : ∀ q, J1 12 q = if q = p then ap A B i p else J 12 q) (a4 : ∀ q, J1 11 q = if q = p then rn A B m n i p else J 11 q)
    (a5 : (ap A B i p = 0 ∧ J 10 7 < rn A B m n i p ∧ J1 10 7 = rn A B m n i p ∧ J1 10 8 = p ∧ J1 10 9 = J 10 9 ∧ J1 10 10 = J 10 10) ∨ (ap A B i p ≠ 0 ∧ J 10 9 < rn A B m n i p ∧ J1 10 9 = rn A B m n i p ∧ J1 10 10 = p ∧ J1 10 7 = J 10 7 ∧ J1 10 8 = J 10 8) ∨ ((ap A B i p ≠ 0 ∨ rn A B m n i p ≤ J 10 7) ∧ (ap A B i p = 0 ∨ rn A B m n i p ≤ J 10 9) ∧ J1 10 7 = J 10 7 ∧ J1 10 8 = J 10 8 ∧ J1 10 9 = J 10 9 ∧ J1 10 10 = J 10 10)) : fInv I A B m n i (p + 1) J1 := by
  obtain ⟨f1, f2, f3, f4, f5, f6, f7, f8⟩ := hJ
  refine ⟨fun b h1 h2 h3 => (a1 b h1 h2 h3).trans (f1 b h1 h2 h3), fun j hj => (a2 j hj).trans (f2 j hj), fun q hq => ?_, fun q hq => ?_, ?_⟩
  · rw [a3, a4]
    by_cases e : q = p
    · rw [if_pos e, if_pos e, e]; exact ⟨rfl, rfl⟩
    · rw [if_neg e, if_neg e]; exact f3 q (by omega)
  · rw [a3, a4, if_neg (by omega), if_neg (by omega)]; exact f4 q (by omega)
  · have ec : (isC A B i p = true ∧ (mx (isC A B i) (rn A B m n i) p).1 < rn A B m n i p) ↔ (ap A B i p = 0 ∧ J 10 7 < rn A B m n i p) := by rw [f5]; simp [isC]
    have es : (isS A B i p = true ∧ (mx (isS A B i) (rn A B m n i) p).1 < rn A B m n i p) ↔ (ap A B i p ≠ 0 ∧ J 10 9 < rn A B m n i p) := by rw [f7]; simp [isS]
    simp only [mx]
    rcases a5 with ⟨g1, g2, g3, g4, g5, g6⟩ | ⟨g1, g2, g3, g4, g5, g6⟩ | ⟨g1, g2, g3, g4, g5, g6⟩
    · rw [if_pos (ec.mpr ⟨g1, g2⟩), if_neg (fun h => (es.mp h).1 g1), g3, g4, g5, g6]
      exact ⟨rfl, fun _ => rfl, f7, f8⟩
    · rw [if_pos (es.mpr ⟨g1, g2⟩), if_neg (fun h => g1 (ec.mp h).1), g3, g4, g5, g6]
      exact ⟨f5, f6, rfl, fun _ => rfl⟩
    · rw [if_neg (fun h => by have := ec.mp h; omega), if_neg (fun h => by have := es.mp h; omega), g3, g4, g5, g6]
      exact ⟨f5, f6, f7, f8⟩
set_option maxHeartbeats 4000000 in
set_option maxRecDepth 100000 in
theorem k_findRuns (hW : Wd T L P) (ho : T o = 0) (po : P o 0 = some ov) (hov : T ov = 10) (lov : m ≤ L ov) (co : I o 1 = m) (hm : m ≤ 120) (hf : T f = 0) (pf : P f 0 = some fv) (hfv : T fv = 10) (lfv : n ≤ L fv) (cf : I f 1 = n) (hn0 : n ≤ 120) (hi : i < n) (no : o ≠ 10) (nf : f ≠ 10) (no1 : o ≠ 11) (no2 : o ≠ 12) (nf1 : f ≠ 11) (nf2 : f ≠ 12) (hov10 : ov ≠ 10) (nov1 : ov ≠ 11) (nov2 : ov ≠ 12) (hfv10 : fv ≠ 10) (nfv1 : fv ≠ 11) (nfv2 : fv ≠ 12)
    (hA0 : ∀ j, j < m → 0 ≤ I ov j ∧ I ov j < 256) (hB0 : ∀ j, j < n → 0 ≤ I fv j ∧ I fv j < 256) (hpre : i + 1 < n → ∀ q, q < m → I 12 q = ap (I ov) (I fv) (i + 1) q ∧ I 11 q = rn (I ov) (I fv) m n (i + 1) q) :
    iX4_findRuns [.inr (some 10), .inr (some o), .inr (some f), .inl (i : Int)] T L P I hn (fun r J => r = none ∧ fInv I (I ov) (I fv) m n i m J) := by
  refine CT.by (by decide) (Nat.le_of_ble_eq_true rfl) fun X Y Q hQ K hv => ?_
  have l11 : L 11 = 120 := hW.2.1 11 120 rfl (by decide)
  have l12 : L 12 = 120 := hW.2.1 12 120 rfl (by decide)
  have hB := hB0 i hi
  have loop : ∀ (d p : Nat) (z : Int) (J : Nat → Nat → Int) (lst : Int) (g7 g8 g9 : Option PV), z = p → m - p = d → p ≤ m → (lst = 0 ∧ i + 1 < n ∨ lst = 1 ∧ n ≤ i + 1) → fInv I (I ov) (I fv) m n i p J → RR X Y Q 0 0 38 [some (.inr (some 10)), some (.inr (some o)), some (.inr (some f)), some (.inl (i : Int)), some (.inl lst), some (.inl (I fv i)), some (.inl z), g7, g8, g9] [] T L P J hn := by
    intro d
    induction d using Nat.strongRecOn with
    | ind d ih =>
      intro p z J lst g7 g8 g9 hz hd hp hlst hJ
      subst hz
      have ep : ((p : Int) + 1).toNat = p + 1 := by omega
      obtain ⟨hf1, hf2, hf3, hf4, hf5, hf6, hf7, hf8⟩ := id hJ
      have jo : J o 1 = m := by rw [hf1 o no no1 no2]; exact co
      have jov : J ov = I ov := hf1 ov hov10 nov1 nov2
      have j195 : ∀ (J1 : Nat → Nat → Int) (g7 g8 g9 : Option PV), fInv I (I ov) (I fv) m n i (p + 1) J1 → p < m → RR X Y Q 0 0 195 [some (.inr (some 10)), some (.inr (some o)), some (.inr (some f)), some (.inl (i : Int)), some (.inl lst), some (.inl (I fv i)), some (.inl (p : Int)), g7, g8, g9] [] T L P J1 hn := by
        intro J1 g7 g8 g9 hJ1 hpm
        refine r_iinc K dX4_findRuns_195 (by decide) rfl ?_
        refine r_goto K 38 dX4_findRuns_198 (by decide) ?_
        exact ih _ (by omega) (p + 1) _ J1 lst g7 g8 g9 (by omega) rfl (by omega) hlst hJ1
      have j120 : p < m → ∀ (g8 g9 : Option PV), RR X Y Q 0 0 120 [some (.inr (some 10)), some (.inr (some o)), some (.inr (some f)), some (.inl (i : Int)), some (.inl lst), some (.inl (I fv i)), some (.inl (p : Int)), some (.inl (ap (I ov) (I fv) i p)), g8, g9] [.inl (rn (I ov) (I fv) m n i p)] T L P J hn := by
        intro hpm g8 g9
        have hrr := rn_in (I ov) (I fv) m n i p
        have h0 := mx_in (isC (I ov) (I fv) i) (rn (I ov) (I fv) m n i) p
        have h1 := mx_in (isS (I ov) (I fv) i) (rn (I ov) (I fv) m n i) p
        refine r_istore K dX4_findRuns_120 (by decide) ?_
        refine r_aload_n K dX4_findRuns_122 rfl ?_
        refine r_getR K dX4_findRuns_123 f_X4_15 rfl (by first | assumption | exact hW.1 _ _ rfl | exact hW.2.2.1 _ _ _ rfl) (by first | assumption | exact hW.1 _ _ rfl | exact hW.2.2.1 _ _ _ rfl) ?_
        try simp only [mI_row, mI_ne, mR_eq, mR_ne, ne_eq, not_false_eq_true, Int.toNat_natCast, ep, no, nf, nov1, nov2, nfv1, nfv2, Nat.reduceEqDiff, reduceCtorEq]
        refine r_iload K dX4_findRuns_126 rfl ?_
        refine r_iload K dX4_findRuns_128 rfl ?_
        refine r_iast K dX4_findRuns_130 (by first | assumption | exact hW.1 _ _ rfl | exact hW.2.2.1 _ _ _ rfl) (by omega) (by omega) ?_
        refine r_aload_n K dX4_findRuns_131 rfl ?_
        refine r_getR K dX4_findRuns_132 f_X4_9 rfl (by first | assumption | exact hW.1 _ _ rfl | exact hW.2.2.1 _ _ _ rfl) (by first | assumption | exact hW.1 _ _ rfl | exact hW.2.2.1 _ _ _ rfl) ?_
        try simp only [mI_row, mI_ne, mR_eq, mR_ne, ne_eq, not_false_eq_true, Int.toNat_natCast, ep, no, nf, nov1, nov2, nfv1, nfv2, Nat.reduceEqDiff, reduceCtorEq]
        refine r_iload K dX4_findRuns_135 rfl ?_
        refine r_iload K dX4_findRuns_137 rfl ?_
        refine r_iast K dX4_findRuns_139 (by first | assumption | exact hW.1 _ _ rfl | exact hW.2.2.1 _ _ _ rfl) (by omega) (by omega) ?_
        refine r_iload K dX4_findRuns_140 rfl ?_
        refine r_if_ne K 169 dX4_findRuns_142 (by decide) (fun c142 => ?_) (fun c142 => ?_)
        · refine r_iload K dX4_findRuns_169 rfl ?_
          refine r_if_eq K 195 dX4_findRuns_171 (by decide) (fun c171 => ?_) (fun c171 => ?_)
          · first
              | (exfalso; omega)
              | (refine j195 _ _ _ _ (fStep hJ (fun b h1 h2 h3 => ?_) (fun j hj => ?_) (fun q => ?_) (fun q => ?_) ?_) hpm
                 · simp only [mI_ne, ne_eq, h1, h2, h3, not_false_eq_true]
                 · simp only [mI_row, mI_ne, ne_eq, not_false_eq_true, Nat.reduceEqDiff]
                   try (rw [if_neg (by omega)])
                   try (rw [if_neg (by omega)])
                 · simp only [mI_row, mI_ne, ne_eq, not_false_eq_true, Nat.reduceEqDiff, Int.toNat_natCast]
                 · simp only [mI_row, mI_ne, ne_eq, not_false_eq_true, Nat.reduceEqDiff, Int.toNat_natCast]
                 · simp only [mI_row, mI_ne, ne_eq, not_false_eq_true, Nat.reduceEqDiff, if_true, if_false, ↓reduceIte, and_true, true_and, and_self]
                   omega)
          · refine r_iload K dX4_findRuns_174 rfl ?_
            refine r_aload_n K dX4_findRuns_176 rfl ?_
            refine r_getI K dX4_findRuns_177 f_X4_62 rfl (by first | assumption | exact hW.1 _ _ rfl | exact hW.2.2.1 _ _ _ rfl) ?_
            try simp only [mI_row, mI_ne, mR_eq, mR_ne, ne_eq, not_false_eq_true, Int.toNat_natCast, ep, no, nf, nov1, nov2, nfv1, nfv2, Nat.reduceEqDiff, reduceCtorEq]
            refine r_icmp_le K 195 dX4_findRuns_180 (by decide) (fun c180 => ?_) (fun c180 => ?_)
            · first
                | (exfalso; omega)
                | (refine j195 _ _ _ _ (fStep hJ (fun b h1 h2 h3 => ?_) (fun j hj => ?_) (fun q => ?_) (fun q => ?_) ?_) hpm
                   · simp only [mI_ne, ne_eq, h1, h2, h3, not_false_eq_true]
                   · simp only [mI_row, mI_ne, ne_eq, not_false_eq_true, Nat.reduceEqDiff]
                     try (rw [if_neg (by omega)])
                     try (rw [if_neg (by omega)])
                   · simp only [mI_row, mI_ne, ne_eq, not_false_eq_true, Nat.reduceEqDiff, Int.toNat_natCast]
                   · simp only [mI_row, mI_ne, ne_eq, not_false_eq_true, Nat.reduceEqDiff, Int.toNat_natCast]
                   · simp only [mI_row, mI_ne, ne_eq, not_false_eq_true, Nat.reduceEqDiff, if_true, if_false, ↓reduceIte, and_true, true_and, and_self]
                     omega)
            · refine r_aload_n K dX4_findRuns_183 rfl ?_
              refine r_iload K dX4_findRuns_184 rfl ?_
              refine r_putI K dX4_findRuns_186 f_X4_62 rfl rfl (Or.inl rfl) (by first | assumption | exact hW.1 _ _ rfl | exact hW.2.2.1 _ _ _ rfl) ?_
              refine r_aload_n K dX4_findRuns_189 rfl ?_
              refine r_iload K dX4_findRuns_190 rfl ?_
              refine r_putI K dX4_findRuns_192 f_X4_68 rfl rfl (Or.inl rfl) (by first | assumption | exact hW.1 _ _ rfl | exact hW.2.2.1 _ _ _ rfl) ?_
              first
                | (exfalso; omega)
                | (refine j195 _ _ _ _ (fStep hJ (fun b h1 h2 h3 => ?_) (fun j hj => ?_) (fun q => ?_) (fun q => ?_) ?_) hpm
                   · simp only [mI_ne, ne_eq, h1, h2, h3, not_false_eq_true]
                   · simp only [mI_row, mI_ne, ne_eq, not_false_eq_true, Nat.reduceEqDiff]
                     try (rw [if_neg (by omega)])
                     try (rw [if_neg (by omega)])
                   · simp only [mI_row, mI_ne, ne_eq, not_false_eq_true, Nat.reduceEqDiff, Int.toNat_natCast]
                   · simp only [mI_row, mI_ne, ne_eq, not_false_eq_true, Nat.reduceEqDiff, Int.toNat_natCast]
                   · simp only [mI_row, mI_ne, ne_eq, not_false_eq_true, Nat.reduceEqDiff, if_true, if_false, ↓reduceIte, and_true, true_and, and_self]
                     omega)
        · refine r_iload K dX4_findRuns_145 rfl ?_
          refine r_aload_n K dX4_findRuns_147 rfl ?_
          refine r_getI K dX4_findRuns_148 f_X4_59 rfl (by first | assumption | exact hW.1 _ _ rfl | exact hW.2.2.1 _ _ _ rfl) ?_
          try simp only [mI_row, mI_ne, mR_eq, mR_ne, ne_eq, not_false_eq_true, Int.toNat_natCast, ep, no, nf, nov1, nov2, nfv1, nfv2, Nat.reduceEqDiff, reduceCtorEq]
          refine r_icmp_le K 169 dX4_findRuns_151 (by decide) (fun c151 => ?_) (fun c151 => ?_)
          · refine r_iload K dX4_findRuns_169 rfl ?_
            refine r_if_eq K 195 dX4_findRuns_171 (by decide) (fun c171 => ?_) (fun c171 => ?_)
            · first
                | (exfalso; omega)
                | (refine j195 _ _ _ _ (fStep hJ (fun b h1 h2 h3 => ?_) (fun j hj => ?_) (fun q => ?_) (fun q => ?_) ?_) hpm
                   · simp only [mI_ne, ne_eq, h1, h2, h3, not_false_eq_true]
                   · simp only [mI_row, mI_ne, ne_eq, not_false_eq_true, Nat.reduceEqDiff]
                     try (rw [if_neg (by omega)])
                     try (rw [if_neg (by omega)])
                   · simp only [mI_row, mI_ne, ne_eq, not_false_eq_true, Nat.reduceEqDiff, Int.toNat_natCast]
                   · simp only [mI_row, mI_ne, ne_eq, not_false_eq_true, Nat.reduceEqDiff, Int.toNat_natCast]
                   · simp only [mI_row, mI_ne, ne_eq, not_false_eq_true, Nat.reduceEqDiff, if_true, if_false, ↓reduceIte, and_true, true_and, and_self]
                     omega)
            · refine r_iload K dX4_findRuns_174 rfl ?_
              refine r_aload_n K dX4_findRuns_176 rfl ?_
              refine r_getI K dX4_findRuns_177 f_X4_62 rfl (by first | assumption | exact hW.1 _ _ rfl | exact hW.2.2.1 _ _ _ rfl) ?_
              try simp only [mI_row, mI_ne, mR_eq, mR_ne, ne_eq, not_false_eq_true, Int.toNat_natCast, ep, no, nf, nov1, nov2, nfv1, nfv2, Nat.reduceEqDiff, reduceCtorEq]
              refine r_icmp_le K 195 dX4_findRuns_180 (by decide) (fun c180 => ?_) (fun c180 => ?_)
              · first
                  | (exfalso; omega)
                  | (refine j195 _ _ _ _ (fStep hJ (fun b h1 h2 h3 => ?_) (fun j hj => ?_) (fun q => ?_) (fun q => ?_) ?_) hpm
                     · simp only [mI_ne, ne_eq, h1, h2, h3, not_false_eq_true]
                     · simp only [mI_row, mI_ne, ne_eq, not_false_eq_true, Nat.reduceEqDiff]
                       try (rw [if_neg (by omega)])
                       try (rw [if_neg (by omega)])
                     · simp only [mI_row, mI_ne, ne_eq, not_false_eq_true, Nat.reduceEqDiff, Int.toNat_natCast]
                     · simp only [mI_row, mI_ne, ne_eq, not_false_eq_true, Nat.reduceEqDiff, Int.toNat_natCast]
                     · simp only [mI_row, mI_ne, ne_eq, not_false_eq_true, Nat.reduceEqDiff, if_true, if_false, ↓reduceIte, and_true, true_and, and_self]
                       omega)
              · refine r_aload_n K dX4_findRuns_183 rfl ?_
                refine r_iload K dX4_findRuns_184 rfl ?_
                refine r_putI K dX4_findRuns_186 f_X4_62 rfl rfl (Or.inl rfl) (by first | assumption | exact hW.1 _ _ rfl | exact hW.2.2.1 _ _ _ rfl) ?_
                refine r_aload_n K dX4_findRuns_189 rfl ?_
                refine r_iload K dX4_findRuns_190 rfl ?_
                refine r_putI K dX4_findRuns_192 f_X4_68 rfl rfl (Or.inl rfl) (by first | assumption | exact hW.1 _ _ rfl | exact hW.2.2.1 _ _ _ rfl) ?_
                first
                  | (exfalso; omega)
                  | (refine j195 _ _ _ _ (fStep hJ (fun b h1 h2 h3 => ?_) (fun j hj => ?_) (fun q => ?_) (fun q => ?_) ?_) hpm
                     · simp only [mI_ne, ne_eq, h1, h2, h3, not_false_eq_true]
                     · simp only [mI_row, mI_ne, ne_eq, not_false_eq_true, Nat.reduceEqDiff]
                       try (rw [if_neg (by omega)])
                       try (rw [if_neg (by omega)])
                     · simp only [mI_row, mI_ne, ne_eq, not_false_eq_true, Nat.reduceEqDiff, Int.toNat_natCast]
                     · simp only [mI_row, mI_ne, ne_eq, not_false_eq_true, Nat.reduceEqDiff, Int.toNat_natCast]
                     · simp only [mI_row, mI_ne, ne_eq, not_false_eq_true, Nat.reduceEqDiff, if_true, if_false, ↓reduceIte, and_true, true_and, and_self]
                       omega)
          · refine r_aload_n K dX4_findRuns_154 rfl ?_
            refine r_iload K dX4_findRuns_155 rfl ?_
            refine r_putI K dX4_findRuns_157 f_X4_59 rfl rfl (Or.inl rfl) (by first | assumption | exact hW.1 _ _ rfl | exact hW.2.2.1 _ _ _ rfl) ?_
            refine r_aload_n K dX4_findRuns_160 rfl ?_
            refine r_iload K dX4_findRuns_161 rfl ?_
            refine r_putI K dX4_findRuns_163 f_X4_65 rfl rfl (Or.inl rfl) (by first | assumption | exact hW.1 _ _ rfl | exact hW.2.2.1 _ _ _ rfl) ?_
            refine r_goto K 195 dX4_findRuns_166 (by decide) ?_
            first
              | (exfalso; omega)
              | (refine j195 _ _ _ _ (fStep hJ (fun b h1 h2 h3 => ?_) (fun j hj => ?_) (fun q => ?_) (fun q => ?_) ?_) hpm
                 · simp only [mI_ne, ne_eq, h1, h2, h3, not_false_eq_true]
                 · simp only [mI_row, mI_ne, ne_eq, not_false_eq_true, Nat.reduceEqDiff]
                   try (rw [if_neg (by omega)])
                   try (rw [if_neg (by omega)])
                 · simp only [mI_row, mI_ne, ne_eq, not_false_eq_true, Nat.reduceEqDiff, Int.toNat_natCast]
                 · simp only [mI_row, mI_ne, ne_eq, not_false_eq_true, Nat.reduceEqDiff, Int.toNat_natCast]
                 · simp only [mI_row, mI_ne, ne_eq, not_false_eq_true, Nat.reduceEqDiff, if_true, if_false, ↓reduceIte, and_true, true_and, and_self]
                   omega)
      have j98 : p < m → ∀ (z : Int) (g8 g9 : Option PV), (z = 1 ∧ i + 1 < n ∧ p + 1 < m ∧ ap (I ov) (I fv) (i + 1) (p + 1) = ap (I ov) (I fv) i p) ∨ (z = 0 ∧ ¬ (i + 1 < n ∧ p + 1 < m ∧ ap (I ov) (I fv) (i + 1) (p + 1) = ap (I ov) (I fv) i p)) → RR X Y Q 0 0 98 [some (.inr (some 10)), some (.inr (some o)), some (.inr (some f)), some (.inl (i : Int)), some (.inl lst), some (.inl (I fv i)), some (.inl (p : Int)), some (.inl (ap (I ov) (I fv) i p)), g8, g9] [.inl z] T L P J hn := by
        intro hpm z g8 g9 hz
        refine r_istore K dX4_findRuns_98 (by decide) ?_
        refine r_iload K dX4_findRuns_100 rfl ?_
        refine r_if_eq K 119 dX4_findRuns_102 (by decide) (fun c102 => ?_) (fun c102 => ?_)
        · have hzz : rn (I ov) (I fv) m n i p = 1 := by
            rw [rn_eq hi, if_pos hpm, if_neg (by rcases hz with h | h; exact absurd c102 (by omega); exact h.2)]
          refine r_iconst K dX4_findRuns_119 ?_
          rw [← hzz]
          exact j120 hpm _ _
        · have hzz : rn (I ov) (I fv) m n i p = rn (I ov) (I fv) m n (i + 1) (p + 1) + 1 := by
            rw [rn_eq hi, if_pos hpm, if_pos (by rcases hz with h | h; exact h.2; exact absurd h.1 c102), Int.add_comm]
          have hq : i + 1 < n ∧ p + 1 < m := by rcases hz with h | h; exact ⟨h.2.1, h.2.2.1⟩; exact absurd h.1 c102
          have hrr := rn_in (I ov) (I fv) m n (i + 1) (p + 1)
          refine r_aload_n K dX4_findRuns_105 rfl ?_
          refine r_getR K dX4_findRuns_106 f_X4_9 rfl (by first | assumption | exact hW.1 _ _ rfl | exact hW.2.2.1 _ _ _ rfl) (by first | assumption | exact hW.1 _ _ rfl | exact hW.2.2.1 _ _ _ rfl) ?_
          try simp only [mI_row, mI_ne, mR_eq, mR_ne, ne_eq, not_false_eq_true, Int.toNat_natCast, ep, no, nf, nov1, nov2, nfv1, nfv2, Nat.reduceEqDiff, reduceCtorEq]
          refine r_iload K dX4_findRuns_109 rfl ?_
          refine r_iconst K dX4_findRuns_111 ?_
          refine r_iadd K dX4_findRuns_112 ?_
          refine r_iald K dX4_findRuns_113 (by first | assumption | exact hW.1 _ _ rfl | exact hW.2.2.1 _ _ _ rfl) (by omega) (by omega) ?_
          try simp only [mI_row, mI_ne, mR_eq, mR_ne, ne_eq, not_false_eq_true, Int.toNat_natCast, ep, no, nf, nov1, nov2, nfv1, nfv2, Nat.reduceEqDiff, reduceCtorEq]
          rw [(hf4 (p + 1) (by omega)).2, (hpre hq.1 (p + 1) hq.2).2]
          refine r_iconst K dX4_findRuns_114 ?_
          refine r_iadd K dX4_findRuns_115 ?_
          refine r_goto K 120 dX4_findRuns_116 (by decide) ?_
          rw [← hzz]
          exact j120 hpm _ _
      refine r_iload K dX4_findRuns_38 rfl ?_
      refine r_aload_n K dX4_findRuns_40 rfl ?_
      refine r_getI K dX4_findRuns_41 f_X4_33 rfl (by first | assumption | exact hW.1 _ _ rfl | exact hW.2.2.1 _ _ _ rfl) ?_
      try simp only [mI_row, mI_ne, mR_eq, mR_ne, ne_eq, not_false_eq_true, Int.toNat_natCast, ep, no, nf, nov1, nov2, nfv1, nfv2, Nat.reduceEqDiff, reduceCtorEq]
      rw [jo]
      refine r_icmp_ge K 201 dX4_findRuns_44 (by decide) (fun c44 => ?_) (fun c44 => ?_)
      · exact q_vret K hQ rfl dX4_findRuns_201 (Nat.le_refl _) (Nat.le_refl _) ⟨rfl, rfl, rfl, rfl, rfl, by rw [show p = m by omega] at hJ; exact hJ⟩
      · refine r_iload K dX4_findRuns_47 rfl ?_
        refine r_aload_n K dX4_findRuns_49 rfl ?_
        refine r_getR K dX4_findRuns_50 f_X4_56 rfl (by first | assumption | exact hW.1 _ _ rfl | exact hW.2.2.1 _ _ _ rfl) (by first | assumption | exact hW.1 _ _ rfl | exact hW.2.2.1 _ _ _ rfl) ?_
        try simp only [mI_row, mI_ne, mR_eq, mR_ne, ne_eq, not_false_eq_true, Int.toNat_natCast, ep, no, nf, nov1, nov2, nfv1, nfv2, Nat.reduceEqDiff, reduceCtorEq]
        skip
        refine r_iload K dX4_findRuns_53 rfl ?_
        refine r_iald K dX4_findRuns_55 (by first | assumption | exact hW.1 _ _ rfl | exact hW.2.2.1 _ _ _ rfl) (by omega) (by omega) ?_
        try simp only [mI_row, mI_ne, mR_eq, mR_ne, ne_eq, not_false_eq_true, Int.toNat_natCast, ep, no, nf, nov1, nov2, nfv1, nfv2, Nat.reduceEqDiff, reduceCtorEq]
        rw [hf1 ov hov10 nov1 nov2]
        have hA := hA0 p (by omega)
        refine r_isub K dX4_findRuns_56 ?_
        refine r_sipush K dX4_findRuns_57 ?_
        refine r_iand K dX4_findRuns_60 ?_
        rw [zAnd_255 (show rg _ from ⟨by omega, by omega⟩)]
        have hgp : (I fv i - I ov p) % 256 = ap (I ov) (I fv) i p := rfl
        rw [hgp]
        have hgr : 0 ≤ ap (I ov) (I fv) i p ∧ ap (I ov) (I fv) i p < 256 := ⟨Int.emod_nonneg _ (by decide), Int.emod_lt_of_pos _ (by decide)⟩
        refine r_istore K dX4_findRuns_61 (by decide) ?_
        refine r_iload K dX4_findRuns_63 rfl ?_
        refine r_if_ne K 97 dX4_findRuns_65 (by decide) (fun c65 => ?_) (fun c65 => ?_)
        · have hl1 : n ≤ i + 1 := by rcases hlst with h | h; exact absurd h.1 c65; exact h.2
          refine r_iconst K dX4_findRuns_97 ?_
          exact j98 (by omega) 0 _ _ (Or.inr ⟨rfl, by omega⟩)
        · have hl1 : i + 1 < n := by rcases hlst with h | h; exact h.2; exact absurd c65 (by omega)
          refine r_iload K dX4_findRuns_68 rfl ?_
          refine r_iconst K dX4_findRuns_70 ?_
          refine r_iadd K dX4_findRuns_71 ?_
          refine r_aload_n K dX4_findRuns_72 rfl ?_
          refine r_getI K dX4_findRuns_73 f_X4_33 rfl (by first | assumption | exact hW.1 _ _ rfl | exact hW.2.2.1 _ _ _ rfl) ?_
          try simp only [mI_row, mI_ne, mR_eq, mR_ne, ne_eq, not_false_eq_true, Int.toNat_natCast, ep, no, nf, nov1, nov2, nfv1, nfv2, Nat.reduceEqDiff, reduceCtorEq]
          rw [jo]
          refine r_icmp_ge K 97 dX4_findRuns_76 (by decide) (fun c76 => ?_) (fun c76 => ?_)
          · refine r_iconst K dX4_findRuns_97 ?_
            exact j98 (by omega) 0 _ _ (Or.inr ⟨rfl, by omega⟩)
          · refine r_aload_n K dX4_findRuns_79 rfl ?_
            refine r_getR K dX4_findRuns_80 f_X4_15 rfl (by first | assumption | exact hW.1 _ _ rfl | exact hW.2.2.1 _ _ _ rfl) (by first | assumption | exact hW.1 _ _ rfl | exact hW.2.2.1 _ _ _ rfl) ?_
            try simp only [mI_row, mI_ne, mR_eq, mR_ne, ne_eq, not_false_eq_true, Int.toNat_natCast, ep, no, nf, nov1, nov2, nfv1, nfv2, Nat.reduceEqDiff, reduceCtorEq]
            refine r_iload K dX4_findRuns_83 rfl ?_
            refine r_iconst K dX4_findRuns_85 ?_
            refine r_iadd K dX4_findRuns_86 ?_
            refine r_iald K dX4_findRuns_87 (by first | assumption | exact hW.1 _ _ rfl | exact hW.2.2.1 _ _ _ rfl) (by omega) (by omega) ?_
            try simp only [mI_row, mI_ne, mR_eq, mR_ne, ne_eq, not_false_eq_true, Int.toNat_natCast, ep, no, nf, nov1, nov2, nfv1, nfv2, Nat.reduceEqDiff, reduceCtorEq]
            rw [(hf4 (p + 1) (by omega)).1, (hpre hl1 (p + 1) (by omega)).1]
            refine r_iload K dX4_findRuns_88 rfl ?_
            refine r_icmp_ne K 97 dX4_findRuns_90 (by decide) (fun c90 => ?_) (fun c90 => ?_)
            · refine r_iconst K dX4_findRuns_97 ?_
              exact j98 (by omega) 0 _ _ (Or.inr ⟨rfl, by omega⟩)
            · refine r_iconst K dX4_findRuns_93 ?_
              refine r_goto K 98 dX4_findRuns_94 (by decide) ?_
              exact j98 (by omega) 1 _ _ (Or.inl ⟨rfl, hl1, by omega, c90⟩)
  have j15 : ∀ lst : Int, (lst = 0 ∧ i + 1 < n ∨ lst = 1 ∧ n ≤ i + 1) → RR X Y Q 0 0 15 (ls0 [.inr (some 10), .inr (some o), .inr (some f), .inl (i : Int)] 10) [.inl lst] T L P I hn := by
    intro lst hlst
    refine r_istore K dX4_findRuns_15 (by decide) ?_
    refine r_aload_n K dX4_findRuns_17 rfl ?_
    refine r_getR K dX4_findRuns_18 f_X4_56 rfl (by first | assumption | exact hW.1 _ _ rfl | exact hW.2.2.1 _ _ _ rfl) (by first | assumption | exact hW.1 _ _ rfl | exact hW.2.2.1 _ _ _ rfl) ?_
    refine r_iload_n K dX4_findRuns_21 rfl ?_
    refine r_iald K dX4_findRuns_22 (by first | assumption | exact hW.1 _ _ rfl | exact hW.2.2.1 _ _ _ rfl) (by omega) (by omega) ?_
    simp only [Int.toNat_natCast]
    refine r_istore K dX4_findRuns_23 (by decide) ?_
    refine r_aload_n K dX4_findRuns_25 rfl ?_
    refine r_iconst K dX4_findRuns_26 ?_
    refine r_putI K dX4_findRuns_27 f_X4_59 rfl rfl (Or.inl rfl) (by first | assumption | exact hW.1 _ _ rfl | exact hW.2.2.1 _ _ _ rfl) ?_
    refine r_aload_n K dX4_findRuns_30 rfl ?_
    refine r_iconst K dX4_findRuns_31 ?_
    refine r_putI K dX4_findRuns_32 f_X4_62 rfl rfl (Or.inl rfl) (by first | assumption | exact hW.1 _ _ rfl | exact hW.2.2.1 _ _ _ rfl) ?_
    refine r_iconst K dX4_findRuns_35 ?_
    refine r_istore K dX4_findRuns_36 (by decide) ?_
    refine loop _ 0 0 _ lst _ _ _ rfl rfl (by omega) hlst ⟨fun b h1 h2 h3 => ?_, fun j hj => ?_, fun q hq => absurd hq (by omega), fun q hq => ⟨?_, ?_⟩, ?_, fun h => ?_, ?_, fun h => ?_⟩
    · simp only [mI_ne, ne_eq, h1, not_false_eq_true]
    · simp only [mI_row]
      rw [if_neg (by omega), if_neg (by omega)]
    · simp only [mI_ne, ne_eq, not_false_eq_true, Nat.reduceEqDiff]
    · simp only [mI_ne, ne_eq, not_false_eq_true, Nat.reduceEqDiff]
    · simp [mI_row, mx]
    · simp [mI_row] at h
    · simp [mI_row, mx]
    · simp [mI_row] at h
  refine r_iload_n K dX4_findRuns_0 rfl ?_
  refine r_iconst K dX4_findRuns_1 ?_
  refine r_iadd K dX4_findRuns_2 ?_
  refine r_aload_n K dX4_findRuns_3 rfl ?_
  refine r_getI K dX4_findRuns_4 f_X4_33 rfl (by first | assumption | exact hW.1 _ _ rfl | exact hW.2.2.1 _ _ _ rfl) ?_
  refine r_icmp_lt K 14 dX4_findRuns_7 (by decide) (fun c7 => ?_) (fun c7 => ?_)
  · refine r_iconst K dX4_findRuns_14 ?_
    exact j15 _ (by omega)
  · refine r_iconst K dX4_findRuns_10 ?_
    refine r_goto K 15 dX4_findRuns_11 (by decide) ?_
    exact j15 _ (by omega)
end PLN
