section MOC
def lwF : Nat → Nat → Nat
  | 0, _ => 0
  | f + 1, u => if u % 2 = 1 then 1 else 2 * lwF f (u / 2)
def tzF : Nat → Nat → Nat
  | 0, _ => 0
  | f + 1, u => if u % 2 = 1 then 0 else tzF f (u / 2) + 1
abbrev lw1 (u : Nat) : Nat := lwF 10 u
abbrev tz1 (u : Nat) : Nat := tzF 10 u
theorem lw_z : ∀ u : Fin 1024, zAnd ((u.val : Nat) : Int) (-((u.val : Nat) : Int)) = ((lw1 u.val : Nat) : Int) := by decide +kernel
theorem lw_t : ∀ u : Fin 1024, u.val = 0 ∨ (lw1 u.val = 2 ^ tz1 u.val ∧ tz1 u.val < 10 ∧ u.val.testBit (tz1 u.val) = true ∧ (List.range (tz1 u.val)).all (fun j => !u.val.testBit j) = true) := by decide +kernel
abbrev bt1 (S j : Nat) : Nat := S / 2 ^ j % 2
/-- the bits the other way round -/
def rev (S : Nat) : Nat := 512 * bt1 S 0 + 256 * bt1 S 1 + 128 * bt1 S 2 + 64 * bt1 S 3 + 32 * bt1 S 4 + 16 * bt1 S 5 + 8 * bt1 S 6 + 4 * bt1 S 7 + 2 * bt1 S 8 + bt1 S 9
/-- a set's rank in the document's order -/
def rk (S : Nat) : Nat := pcn S * 1024 + (1023 - rev S)
theorem rev_f : ∀ S : Fin 1024, rev (rev S.val) = S.val ∧ rev S.val < 1024 := by decide +kernel
theorem bt_lt (S j : Nat) : bt1 S j ≤ 1 := by have := Nat.mod_lt (S / 2 ^ j) (show 0 < 2 by decide); unfold bt1; omega
theorem bt_1 {S j : Nat} (h : S.testBit j = true) : bt1 S j = 1 := by rw [Nat.testBit_eq_decide_div_mod_eq] at h; exact of_decide_eq_true h
theorem bt_0 {S j : Nat} (h : S.testBit j = false) : bt1 S j = 0 := by
  rw [Nat.testBit_eq_decide_div_mod_eq] at h
  have := of_decide_eq_false h
  have := bt_lt S j
  unfold bt1 at *
  omega
theorem lx_n {t s0 s1 s2 s3 s4 s5 s6 s7 s8 s9 r0 r1 r2 r3 r4 r5 r6 r7 r8 r9 : Nat} (ht : t < 10) (b : s0 ≤ 1 ∧ s1 ≤ 1 ∧ s2 ≤ 1 ∧ s3 ≤ 1 ∧ s4 ≤ 1 ∧ s5 ≤ 1 ∧ s6 ≤ 1 ∧ s7 ≤ 1 ∧ s8 ≤ 1 ∧ s9 ≤ 1) (c : r0 ≤ 1 ∧ r1 ≤ 1 ∧ r2 ≤ 1 ∧ r3 ≤ 1 ∧ r4 ≤ 1 ∧ r5 ≤ 1 ∧ r6 ≤ 1 ∧ r7 ≤ 1 ∧ r8 ≤ 1 ∧ r9 ≤ 1)
    (h : ((0 < t → s0 = r0) ∧ (t = 0 → s0 = 1 ∧ r0 = 0) ∧ (1 < t → s1 = r1) ∧ (t = 1 → s1 = 1 ∧ r1 = 0) ∧ (2 < t → s2 = r2) ∧ (t = 2 → s2 = 1 ∧ r2 = 0) ∧ (3 < t → s3 = r3) ∧ (t = 3 → s3 = 1 ∧ r3 = 0) ∧ (4 < t → s4 = r4) ∧ (t = 4 → s4 = 1 ∧ r4 = 0) ∧ (5 < t → s5 = r5) ∧ (t = 5 → s5 = 1 ∧ r5 = 0) ∧ (6 < t → s6 = r6) ∧ (t = 6 → s6 = 1 ∧ r6 = 0) ∧ (7 < t → s7 = r7) ∧ (t = 7 → s7 = 1 ∧ r7 = 0) ∧ (8 < t → s8 = r8) ∧ (t = 8 → s8 = 1 ∧ r8 = 0) ∧ (9 < t → s9 = r9) ∧ (t = 9 → s9 = 1 ∧ r9 = 0))) : 512 * r0 + 256 * r1 + 128 * r2 + 64 * r3 + 32 * r4 + 16 * r5 + 8 * r6 + 4 * r7 + 2 * r8 + r9 < 512 * s0 + 256 * s1 + 128 * s2 + 64 * s3 + 32 * s4 + 16 * s5 + 8 * s6 + 4 * s7 + 2 * s8 + s9 := by
  rcases (show t = 0 ∨ t = 1 ∨ t = 2 ∨ t = 3 ∨ t = 4 ∨ t = 5 ∨ t = 6 ∨ t = 7 ∨ t = 8 ∨ t = 9 by omega) with e | e | e | e | e | e | e | e | e | e <;> subst e <;> simp only [Nat.reduceLT, Nat.reduceEqDiff, forall_const, false_implies, true_implies, true_and, and_true, Nat.not_lt_zero, Nat.lt_irrefl] at h <;> omega
theorem lx_rev {S R t : Nat} (ht : t < 10) (h1 : S.testBit t = true) (h2 : R.testBit t = false) (h3 : ∀ j, j < t → S.testBit j = R.testBit j) : rev R < rev S := by
  have e : ∀ j, j < t → bt1 S j = bt1 R j := fun j hj => by
    cases hs : R.testBit j with
    | true => rw [bt_1 hs, bt_1 ((h3 j hj).trans hs)]
    | false => rw [bt_0 hs, bt_0 ((h3 j hj).trans hs)]
  have q : ∀ j, t = j → bt1 S j = 1 ∧ bt1 R j = 0 := fun j hj => by subst hj; exact ⟨bt_1 h1, bt_0 h2⟩
  unfold rev
  exact lx_n ht ⟨bt_lt S 0, bt_lt S 1, bt_lt S 2, bt_lt S 3, bt_lt S 4, bt_lt S 5, bt_lt S 6, bt_lt S 7, bt_lt S 8, bt_lt S 9⟩ ⟨bt_lt R 0, bt_lt R 1, bt_lt R 2, bt_lt R 3, bt_lt R 4, bt_lt R 5, bt_lt R 6, bt_lt R 7, bt_lt R 8, bt_lt R 9⟩ ⟨e 0, q 0, e 1, q 1, e 2, q 2, e 3, q 3, e 4, q 4, e 5, q 5, e 6, q 6, e 7, q 7, e 8, q 8, e 9, q 9⟩
theorem ls_rk {S R : Nat} (hS : S < 1024) (hR : R < 1024) (hne : S ≠ R) : S &&& lw1 (S ^^^ R) ≠ 0 ↔ rev R < rev S := by
  have hu : S ^^^ R < 1024 := Nat.xor_lt_two_pow (n := 10) hS hR
  rcases lw_t ⟨S ^^^ R, hu⟩ with h | ⟨h1, h2, h3, h4⟩
  · exfalso
    apply hne
    apply Nat.eq_of_testBit_eq
    intro i
    have q : (S ^^^ R).testBit i = false := by
      have : S ^^^ R = 0 := h
      rw [this]; simp
    rw [Nat.testBit_xor] at q
    cases e1 : S.testBit i <;> cases e2 : R.testBit i <;> rw [e1, e2] at q <;> simp_all
  · have h1 : lw1 (S ^^^ R) = 2 ^ tz1 (S ^^^ R) := h1
    have h2 : tz1 (S ^^^ R) < 10 := h2
    have h3 : (S ^^^ R).testBit (tz1 (S ^^^ R)) = true := h3
    have h4 : (List.range (tz1 (S ^^^ R))).all (fun j => !(S ^^^ R).testBit j) = true := h4
    generalize tz1 (S ^^^ R) = t at h1 h2 h3 h4
    rw [Nat.testBit_xor] at h3
    have h5 : ∀ j, j < t → S.testBit j = R.testBit j := fun j hj => by
      have q := List.all_eq_true.mp h4 j (List.mem_range.mpr hj)
      rw [Nat.testBit_xor] at q
      cases e1 : S.testBit j <;> cases e2 : R.testBit j <;> rw [e1, e2] at q <;> simp_all
    rw [h1]
    cases e : S.testBit t with
    | true =>
      have e2 : R.testBit t = false := by
        cases e3 : R.testBit t with
        | false => rfl
        | true => rw [e, e3] at h3; cases h3
      refine ⟨fun _ => lx_rev h2 e e2 h5, fun _ q => ?_⟩
      rw [and_bit, e] at q; cases q
    | false =>
      have e2 : R.testBit t = true := by
        cases e3 : R.testBit t with
        | true => rfl
        | false => rw [e, e3] at h3; cases h3
      have := lx_rev h2 e2 e (fun j hj => (h5 j hj).symm)
      refine ⟨fun q => absurd ((and_bit S t).mpr e) q, fun q => absurd q (by omega)⟩
def e3 (i j : Nat) : Nat → Nat → List Nat
  | 0, _ => []
  | d + 1, l => ((2 ^ i ||| 2 ^ j) ||| 2 ^ l) :: e3 i j d (l + 1)
def e2 (sz i : Nat) : Nat → Nat → List Nat
  | 0, _ => []
  | d + 1, j => (if sz = 2 then [2 ^ i ||| 2 ^ j] else if sz = 3 then e3 i j (9 - j) (j + 1) else []) ++ e2 sz i d (j + 1)
def e1 (sz : Nat) : Nat → Nat → List Nat
  | 0, _ => []
  | d + 1, i => (if sz = 1 then [2 ^ i] else e2 sz i (9 - i) (i + 1)) ++ e1 sz d (i + 1)
def eK : Nat → List Nat
  | 0 => []
  | k + 1 => eK k ++ e1 (k + 1) 10 0
theorem f3_e (f : Nat → Int) (i j : Nat) : ∀ d l c, f3 f i j d l c = (e3 i j d l).foldl (cons f) c
  | 0, _, _ => rfl
  | d + 1, l, c => f3_e f i j d (l + 1) _
theorem f2_e (f : Nat → Int) (sz i : Nat) : ∀ d j c, f2 f sz i d j c = (e2 sz i d j).foldl (cons f) c
  | 0, _, _ => rfl
  | d + 1, j, c => by
    rw [f2, e2, List.foldl_append, f2_e f sz i d (j + 1)]
    congr 1
    by_cases h : sz = 2
    · rw [if_pos h, if_pos h]; rfl
    · rw [if_neg h, if_neg h]
      by_cases h2 : sz = 3
      · rw [if_pos h2, if_pos h2]; exact f3_e f i j _ _ c
      · rw [if_neg h2, if_neg h2]; rfl
theorem f1_e (f : Nat → Int) (sz : Nat) : ∀ d i c, f1 f sz d i c = (e1 sz d i).foldl (cons f) c
  | 0, _, _ => rfl
  | d + 1, i, c => by
    rw [f1, e1, List.foldl_append, f1_e f sz d (i + 1)]
    congr 1
    by_cases h : sz = 1
    · rw [if_pos h, if_pos h]; rfl
    · rw [if_neg h, if_neg h]; exact f2_e f sz i _ _ c
theorem bst_e (f : Nat → Int) : ∀ k, bstF f k = (eK k).foldl (cons f) (f 0, ((0 : Nat) : Int))
  | 0 => rfl
  | k + 1 => by rw [bstF, eK, List.foldl_append, f1_e, bst_e f k]
theorem fold_min {f : Nat → Int} : ∀ (l : List Nat) (a : Nat), (a :: l).Pairwise (fun x y => rk x < rk y) → ∃ B, B ∈ a :: l ∧ l.foldl (cons f) (f a, (a : Int)) = (f B, (B : Int)) ∧ ∀ S, S ∈ a :: l → f B < f S ∨ (f B = f S ∧ rk B ≤ rk S)
  | [], a, _ => ⟨a, List.mem_cons_self, rfl, fun S hS => by
    rcases List.mem_cons.mp hS with h | h
    · subst h; exact Or.inr ⟨rfl, Nat.le_refl _⟩
    · cases h⟩
  | x :: l, a, h => by
    have h1 := List.pairwise_cons.mp h
    have hax : rk a < rk x := h1.1 x List.mem_cons_self
    rw [List.foldl_cons]
    by_cases q : f x < f a
    · have e : cons f (f a, (a : Int)) x = (f x, (x : Int)) := by unfold cons; exact if_pos q
      rw [e]
      obtain ⟨B, b1, b2, b3⟩ := fold_min l x h1.2
      refine ⟨B, List.mem_cons_of_mem _ b1, b2, fun S hS => ?_⟩
      rcases List.mem_cons.mp hS with w | w
      · subst w
        have := b3 x List.mem_cons_self
        omega
      · exact b3 S w
    · have e : cons f (f a, (a : Int)) x = (f a, (a : Int)) := by unfold cons; exact if_neg q
      rw [e]
      have hp : (a :: l).Pairwise (fun x y => rk x < rk y) := List.pairwise_cons.mpr ⟨fun y hy => h1.1 y (List.mem_cons_of_mem _ hy), (List.pairwise_cons.mp h1.2).2⟩
      obtain ⟨B, b1, b2, b3⟩ := fold_min l a hp
      refine ⟨B, ?_, b2, fun S hS => ?_⟩
      · rcases List.mem_cons.mp b1 with w | w
        · rw [w]; exact List.mem_cons_self
        · exact List.mem_cons_of_mem _ (List.mem_cons_of_mem _ w)
      · rcases List.mem_cons.mp hS with w | w
        · subst w; exact b3 S List.mem_cons_self
        · rcases List.mem_cons.mp w with w | w
          · subst w
            have := b3 a List.mem_cons_self
            omega
          · exact b3 S (List.mem_cons_of_mem _ w)
def srt : List Nat → Bool
  | [] => true
  | [_] => true
  | a :: b :: l => decide (a < b) && srt (b :: l)
theorem srt_p : ∀ l : List Nat, srt l = true → l.Pairwise (fun x y => x < y)
  | [], _ => List.Pairwise.nil
  | [a], _ => List.pairwise_singleton _ _
  | a :: b :: l, h => by
    rw [srt, Bool.and_eq_true] at h
    have ih := srt_p (b :: l) h.2
    have hab := of_decide_eq_true h.1
    refine List.pairwise_cons.mpr ⟨fun y hy => ?_, ih⟩
    rcases List.mem_cons.mp hy with w | w
    · rw [w]; exact hab
    · exact Nat.lt_trans hab ((List.pairwise_cons.mp ih).1 y w)
theorem eK_s : ∀ k : Fin 4, srt ((0 :: eK k.val).map rk) = true := by decide +kernel
theorem eK_i : ∀ k : Fin 4, (0 :: eK k.val).all (fun S => decide (S < 1024) && decide (pcn S ≤ k.val)) = true := by decide +kernel
theorem eK_c : ∀ k : Fin 4, ∀ S : Fin 1024, (decide (k.val < pcn S.val) || (0 :: eK k.val).contains S.val) = true := by decide +kernel
/-- the best set is the least one, by sum and rank -/
theorem bst_am (f : Nat → Int) {k : Nat} (hk : k ≤ 3) : ∃ B, (B < 1024 ∧ pcn B ≤ k) ∧ bstF f k = (f B, (B : Int)) ∧ ∀ S, S < 1024 → pcn S ≤ k → f B < f S ∨ (f B = f S ∧ rk B ≤ rk S) := by
  have hs := srt_p _ (eK_s ⟨k, by omega⟩)
  rw [List.pairwise_map] at hs
  obtain ⟨B, b1, b2, b3⟩ := fold_min (f := f) (eK k) 0 hs
  refine ⟨B, ?_, by rw [bst_e]; exact b2, fun S h1 h2 => b3 S ?_⟩
  · have q := List.all_eq_true.mp (eK_i ⟨k, by omega⟩) B b1
    rw [Bool.and_eq_true] at q
    exact ⟨of_decide_eq_true q.1, of_decide_eq_true q.2⟩
  · have q := eK_c ⟨k, by omega⟩ ⟨S, h1⟩
    rw [Bool.or_eq_true] at q
    rcases q with q | q
    · exact absurd (of_decide_eq_true q) (by show ¬ k < pcn S; omega)
    · exact List.contains_iff_mem.mp q
theorem rk_inj {S R : Nat} (hS : S < 1024) (hR : R < 1024) (h : rk S = rk R) : S = R := by
  have h1 := rev_f ⟨S, hS⟩
  have h2 := rev_f ⟨R, hR⟩
  simp only at h1 h2
  have h3 : rev S = rev R := by unfold rk at h; omega
  rw [← h1.1, ← h2.1, h3]
theorem rk_lt {S R : Nat} (hS : S < 1024) (hR : R < 1024) (hne : S ≠ R) : rk S < rk R ↔ pcn S < pcn R ∨ (pcn S = pcn R ∧ S &&& lw1 (S ^^^ R) ≠ 0) := by
  have h1 := (rev_f ⟨S, hS⟩).2
  have h2 := (rev_f ⟨R, hR⟩).2
  simp only at h1 h2
  rw [ls_rk hS hR hne]
  unfold rk
  omega
theorem wyF_S {S S' : Nat} {pr pr' b : Nat → Int} (h : ∀ k, k < 10 → ((S.testBit k = true ∧ pr k ≠ -1) ↔ (S'.testBit k = true ∧ pr' k ≠ -1)) ∧ (S.testBit k = true → pr k ≠ -1 → pr' k = pr k)) : ∀ d, d ≤ 10 → wyF S pr b d = wyF S' pr' b d
  | 0, _ => rfl
  | d + 1, hd => by
    rw [wyF, wyF, wyF_S h d (by omega)]
    have q := h (9 - d) (by omega)
    unfold opW
    by_cases c : S.testBit (9 - d) = true ∧ pr (9 - d) ≠ -1
    · rw [if_pos c, if_pos (q.1.mp c), q.2 c.1 c.2]
    · rw [if_neg c, if_neg (fun w => c (q.1.mpr w))]
theorem snt_S {S S' : Nat} {dv pr pr' : Nat → Int} {g wh : Int} (h : ∀ k, k < 10 → ((S.testBit k = true ∧ pr k ≠ -1) ↔ (S'.testBit k = true ∧ pr' k ≠ -1)) ∧ (S.testBit k = true → pr k ≠ -1 → pr' k = pr k)) : sntF dv pr g wh S = sntF dv pr' g wh S' := by
  unfold sntF
  rw [wyF_S h 10 (by decide)]
theorem pcn_x : ∀ S : Fin 1024, ∀ j : Fin 10, (!S.val.testBit j.val || (decide (pcn (S.val ^^^ 2 ^ j.val) + 1 = pcn S.val) && decide (S.val ^^^ 2 ^ j.val < 1024))) = true := by decide +kernel
/-- the best set holds no pair without a price -/
theorem bst_ok {dv pr : Nat → Int} {g wh : Int} {k B : Nat} (hB : B < 1024) (hk : pcn B ≤ k) (h : ∀ S, S < 1024 → pcn S ≤ k → sntF dv pr g wh B < sntF dv pr g wh S ∨ (sntF dv pr g wh B = sntF dv pr g wh S ∧ rk B ≤ rk S)) : ∀ j, j < 10 → B.testBit j = true → pr j ≠ -1 := by
  intro j hj hb hp
  have q := pcn_x ⟨B, hB⟩ ⟨j, hj⟩
  simp only [hb, Bool.not_true, Bool.false_or, Bool.and_eq_true, decide_eq_true_eq] at q
  have e : sntF dv pr g wh B = sntF dv pr g wh (B ^^^ 2 ^ j) := snt_S (fun k hk => by
    rw [Nat.testBit_xor]
    by_cases w : k = j
    · subst w
      exact ⟨⟨fun c => absurd hp c.2, fun c => absurd hp c.2⟩, fun _ _ => rfl⟩
    · rw [Nat.testBit_two_pow_of_ne (fun z => w z.symm), Bool.xor_false]
      exact ⟨Iff.rfl, fun _ _ => rfl⟩)
  have h2 := h (B ^^^ 2 ^ j) q.2 (by omega)
  have h3 := (rev_f ⟨B, hB⟩).2
  have h4 := (rev_f ⟨B ^^^ 2 ^ j, q.2⟩).2
  simp only at h3 h4
  have h5 : rk (B ^^^ 2 ^ j) < rk B := by unfold rk; omega
  omega
theorem or_n : ∀ S : Fin 1024, ∀ k : Fin 10, (S.val % 2 ^ k.val) ||| (if S.val.testBit k.val = true then 2 ^ k.val else 0) = S.val % 2 ^ (k.val + 1) := by decide +kernel
theorem or_z {S k : Nat} (hS : S < 1024) (hk : k < 10) : zOr ((S % 2 ^ k : Nat) : Int) (if S.testBit k = true then ((2 ^ k : Nat) : Int) else 0) = ((S % 2 ^ (k + 1) : Nat) : Int) := by
  have h1 := or_n ⟨S, hS⟩ ⟨k, hk⟩
  simp only at h1
  have h2 : S % 2 ^ k < 1024 := Nat.lt_of_le_of_lt (Nat.mod_le _ _) hS
  have h3 := pow_lt hk
  by_cases q : S.testBit k = true
  · rw [if_pos q] at h1 ⊢; rw [zOr_nat h2 h3, h1]
  · rw [if_neg q] at h1 ⊢
    have := zOr_nat (a := S % 2 ^ k) (b := 0) h2 (by decide)
    rw [h1] at this
    exact this
end MOC
section MOD
variable {T L : Nat → Nat} {P : Nat → Nat → Option Nat} {I : Nat → Nat → Int} {hn : Nat}
theorem pcf_0 : ∀ f, pcf f 0 = 0
  | 0 => rfl
  | f + 1 => by rw [pcf, Nat.zero_mod, Nat.zero_div, pcf_0 f]
theorem and1_z {l : Nat} (h : l < 1024) : zAnd (l : Int) 1 = ((l % 2 : Nat) : Int) := by
  have e := zAnd_nat (a := l) (b := 1) h
  rw [Nat.and_one_is_mod] at e
  exact e
theorem shr1_z {l : Nat} (h : l < 1024) : zShr (l : Int) 1 = ((l / 2 : Nat) : Int) := by
  rw [zShr_d (j := 1) ⟨by omega, by omega⟩ (by decide)]
  omega
set_option maxHeartbeats 4000000 in
set_option maxRecDepth 100000 in
theorem k_pairsIn {S : Nat} (hS : S < 1024) : pX8_pairsIn [.inl (S : Int)] T L P I hn (.inl ((pcn S : Nat) : Int)) := by
  refine CT.by (by decide) (Nat.le_of_ble_eq_true rfl) fun X Y Q hQ K hv => ?_
  have loop : ∀ (f n l : Nat), l < 2 ^ f → l < 1024 → n + pcf f l = pcn S → n + f ≤ 10 → RR X Y Q 0 0 4 [some (.inl (S : Int)), some (.inl (n : Int)), some (.inl (l : Int))] [] T L P I hn := by
    intro f
    induction f with
    | zero =>
      intro n l h1 h2 h3 h4
      have hl : l = 0 := by omega
      subst hl
      refine r_iload_n K dX8_pairsIn_4 rfl ?_
      refine r_if_le K 21 dX8_pairsIn_5 (by decide) (fun c5 => ?_) (fun c5 => ?_)
      · refine r_iload_n K dX8_pairsIn_21 rfl ?_
        exact q_iret K hQ rfl dX8_pairsIn_22 (Nat.le_refl _) (Nat.le_refl _) (⟨by rw [← h3]; rfl, rfl, rfl, rfl, rfl, rfl⟩)
      · exact absurd c5 (by omega)
    | succ f ih =>
      intro n l h1 h2 h3 h4
      have hp : 2 ^ (f + 1) = 2 * 2 ^ f := by rw [Nat.pow_succ]; omega
      refine r_iload_n K dX8_pairsIn_4 rfl ?_
      refine r_if_le K 21 dX8_pairsIn_5 (by decide) (fun c5 => ?_) (fun c5 => ?_)
      · have hl : l = 0 := by omega
        subst hl
        rw [pcf_0, Nat.add_zero] at h3
        refine r_iload_n K dX8_pairsIn_21 rfl ?_
        exact q_iret K hQ rfl dX8_pairsIn_22 (Nat.le_refl _) (Nat.le_refl _) (⟨by rw [← h3], rfl, rfl, rfl, rfl, rfl⟩)
      · refine r_iload_n K dX8_pairsIn_8 rfl ?_
        refine r_iload_n K dX8_pairsIn_9 rfl ?_
        refine r_iconst K dX8_pairsIn_10 ?_
        refine r_iand K dX8_pairsIn_11 ?_
        rw [and1_z h2]
        refine r_iadd K dX8_pairsIn_12 ?_
        refine r_istore_n K dX8_pairsIn_13 (by decide) ?_
        refine r_iload_n K dX8_pairsIn_14 rfl ?_
        refine r_iconst K dX8_pairsIn_15 ?_
        refine r_ishr K dX8_pairsIn_16 ?_
        rw [shr1_z h2]
        refine r_istore_n K dX8_pairsIn_17 (by decide) ?_
        refine r_goto K 4 dX8_pairsIn_18 (by decide) ?_
        have h0 := ih (n + l % 2) (l / 2) (by omega) (by omega) (by rw [pcf] at h3; omega) (by omega)
        rw [show ((n + l % 2 : Nat) : Int) = (n : Int) + ((l % 2 : Nat) : Int) by omega] at h0
        exact h0
  refine r_iconst K dX8_pairsIn_0 ?_
  refine r_istore_n K dX8_pairsIn_1 (by decide) ?_
  refine r_iload_n K dX8_pairsIn_2 rfl ?_
  refine r_istore_n K dX8_pairsIn_3 (by decide) ?_
  exact loop 10 0 S hS hS (Nat.zero_add _) (by decide)
set_option maxHeartbeats 4000000 in
set_option maxRecDepth 100000 in
theorem k_isLess {S R : Nat} (hS : S < 1024) (hR : R < 1024) : pX8_isLess [.inl (S : Int), .inl (R : Int)] T L P I hn (.inl (if S &&& lw1 (S ^^^ R) ≠ 0 then 1 else 0)) := by
  refine CT.by (by decide) (Nat.le_of_ble_eq_true rfl) fun X Y Q hQ K hv => ?_
  have hu : S ^^^ R < 1024 := Nat.xor_lt_two_pow (n := 10) hS hR
  obtain ⟨u, hu0⟩ : ∃ u, u = S ^^^ R := ⟨_, rfl⟩
  have hu1 : u < 1024 := by rw [hu0]; exact hu
  have hz := lw_z ⟨u, hu1⟩
  simp only at hz
  refine r_iload_n K dX8_isLess_0 rfl ?_
  refine r_iload_n K dX8_isLess_1 rfl ?_
  refine r_ixor K dX8_isLess_2 ?_
  rw [zXor_nat hS hR, ← hu0]
  refine r_istore_n K dX8_isLess_3 (by decide) ?_
  refine r_iload_n K dX8_isLess_4 rfl ?_
  refine r_iload_n K dX8_isLess_5 rfl ?_
  refine r_ineg K dX8_isLess_6 ?_
  refine r_iand K dX8_isLess_7 ?_
  rw [hz]
  refine r_istore_n K dX8_isLess_8 (by decide) ?_
  refine r_iload_n K dX8_isLess_9 rfl ?_
  refine r_iload_n K dX8_isLess_10 rfl ?_
  refine r_iand K dX8_isLess_11 ?_
  rw [zAnd_nat hS]
  refine r_if_eq K 19 dX8_isLess_12 (by decide) (fun c12 => ?_) (fun c12 => ?_)
  · refine r_iconst K dX8_isLess_19 ?_
    exact q_zret K hQ rfl dX8_isLess_20 (by first | exact Or.inl rfl | exact Or.inr rfl) (Nat.le_refl _) (Nat.le_refl _) (by
      rw [hu0] at *
      first
      | exact ⟨by rw [if_pos (by omega)], rfl, rfl, rfl, rfl, rfl⟩
      | exact ⟨by rw [if_neg (by omega)], rfl, rfl, rfl, rfl, rfl⟩)
  · refine r_iconst K dX8_isLess_15 ?_
    refine r_goto K 20 dX8_isLess_16 (by decide) ?_
    exact q_zret K hQ rfl dX8_isLess_20 (by first | exact Or.inl rfl | exact Or.inr rfl) (Nat.le_refl _) (Nat.le_refl _) (by
      rw [hu0] at *
      first
      | exact ⟨by rw [if_pos (by omega)], rfl, rfl, rfl, rfl, rfl⟩
      | exact ⟨by rw [if_neg (by omega)], rfl, rfl, rfl, rfl, rfl⟩)
/-- the prices of the pairs, for the model -/
abbrev prM (I : Nat → Nat → Int) (k : Nat) : Int := prcM I (pF k : Nat) (pT k : Nat)
abbrev dvM (I : Nat → Nat → Int) : Prop := ∀ v, v < 5 → (0 ≤ I 80 v ∧ I 80 v ≤ 1000) ∧ (I 57 v = 0 → I 80 v = 0)
theorem pcP.fm {J : Nat → Nat → Int} (h : pcP I J) (hV : MV I) (hdv : dvM I) (hg : grM I ≠ -1) : FM J := by
  have e57 : J 57 = I 57 := h.1.1 57 (by decide) (by decide) (by decide) (by decide)
  have e80 : J 80 = I 80 := h.1.1 80 (by decide) (by decide) (by decide) (by decide)
  unfold FM grM
  rw [e57, e80]
  refine ⟨hdv, fun k hk => ?_, fun k hk hgk => ?_, hg⟩
  · rw [h.2 k hk]
    have := prcM_in hV (pF k : Nat) (pT k : Nat)
    omega
  · rw [h.2 k hk]
    have q := (gre_in (I 57) 5).2.2.2 (pT k) ((pFT ⟨k, hk⟩).2) hgk
    unfold prcM
    rw [if_neg (fun w => q (by have := w.2.2.2; rw [Int.toNat_natCast] at this; exact this))]
theorem pcP.fs {J : Nat → Nat → Int} (h : pcP I J) (S : Nat) : FsM J S = sntF (I 80) (prM I) (grM I) (whM I) S := by
  have e57 : J 57 = I 57 := h.1.1 57 (by decide) (by decide) (by decide) (by decide)
  have e80 : J 80 = I 80 := h.1.1 80 (by decide) (by decide) (by decide) (by decide)
  unfold FsM grM whM grM
  rw [e57, e80]
  exact sntF_cong (fun _ _ => rfl) (fun k hk => h.2 k hk)
theorem pcP.next {J J2 : Nat → Nat → Int} (h : pcP I J) (e : ∀ c, c ≠ 83 → J2 c = J c) : pcP I J2 := ⟨⟨fun c c1 c2 c3 c4 => by rw [e c (by omega)]; exact h.1.1 c c1 c2 c3 c4, fun j j1 j2 => by rw [e 54 (by decide)]; exact h.1.2.1 j j1 j2, fun c hc => by rw [e c (by omega)]; exact h.1.2.2 c hc⟩, fun k hk => by rw [e 82 (by decide)]; exact h.2 k hk⟩
set_option maxHeartbeats 4000000 in
set_option maxRecDepth 100000 in
theorem k_X8_sent {S : Nat} (hW : Wd T L P) (hV : MV I) (hdv : dvM I) (hS : S < 1024) (h81 : ∀ k, k < 10 → I 81 k = if S.testBit k = true then 1 else 0) : iX8_sent [.inr (some 54)] T L P I hn (fun r J => mScr I J ∧ r = some (.inl (if grM I = -1 then -1 else sntF (I 80) (prM I) (grM I) (whM I) S))) := by
  refine CT.by (by decide) (Nat.le_of_ble_eq_true rfl) fun X Y Q hQ K hv => ?_
  have l81 : L 81 = 10 := hW.2.1 81 10 rfl (by decide)
  refine r_aload_n K dX8_sent_0 rfl ?_
  refine rcV0p K dX8_sent_1 c_X8_208 v_X8_greatest (by first | assumption | exact hW.1 _ _ rfl | exact hW.2.2.1 _ _ _ rfl) (k_X8_greatest hW) (by decide) (Nat.le_of_ble_eq_true rfl) ?_
  refine r_iconst K dX8_sent_4 ?_
  refine r_icmp_ne K 10 dX8_sent_5 (by decide) (fun c5 => ?_) (fun c5 => ?_)
  · refine r_aload_n K dX8_sent_10 rfl ?_
    refine rcV0i K dX8_sent_11 c_X8_211 v_X8_pairCosts (by first | assumption | exact hW.1 _ _ rfl | exact hW.2.2.1 _ _ _ rfl) (k_pairCosts hW hV) (by decide) (Nat.le_of_ble_eq_true rfl) ?_
    rintro _ J ⟨rfl, hJ⟩
    have hF := hJ.fm hV hdv c5
    have e81 : J 81 = I 81 := hJ.1.1 81 (by decide) (by decide) (by decide) (by decide)
    have loop : ∀ (d k : Nat), k + d = 10 → RR X Y Q 0 0 18 [some (.inr (some 54)), some (.inl ((S % 2 ^ k : Nat) : Int)), some (.inl (k : Int))] [] T L P J hn := by
      intro d
      induction d with
      | zero =>
        intro k hd
        have hk : k = 10 := by omega
        subst hk
        rw [Nat.mod_eq_of_lt (show S < 2 ^ 10 from hS)]
        refine r_iload_n K dX8_sent_18 rfl ?_
        refine r_bipush K dX8_sent_19 ?_
        refine r_icmp_ge K 49 dX8_sent_21 (by decide) (fun c21 => ?_) (fun c21 => ?_)
        · refine r_aload_n K dX8_sent_49 rfl ?_
          refine r_iload_n K dX8_sent_50 rfl ?_
          refine rcV1i K dX8_sent_51 c_X8_214 v_X8_sentBy (by first | assumption | exact hW.1 _ _ rfl | exact hW.2.2.1 _ _ _ rfl) (k_sentBy hW (hJ.1.mv hV) hS hF) (by decide) (Nat.le_of_ble_eq_true rfl) ?_
          rintro _ J2 ⟨rfl, hJ2⟩
          rw [hJ.fs]
          exact q_iret K hQ rfl dX8_sent_54 (Nat.le_refl _) (Nat.le_refl _) (⟨rfl, rfl, rfl, rfl, (hJ.next hJ2).1, by rw [if_neg c5]⟩)
        · exact absurd c21 (by omega)
      | succ d ih =>
        intro k hd
        have hz := or_z (S := S) (k := k) hS (by omega)
        have j41 : ∀ z : Int, z = (if S.testBit k = true then ((2 ^ k : Nat) : Int) else 0) → RR X Y Q 0 0 41 [some (.inr (some 54)), some (.inl ((S % 2 ^ k : Nat) : Int)), some (.inl (k : Int))] [.inl z, .inl ((S % 2 ^ k : Nat) : Int)] T L P J hn := by
          intro z hzz
          subst hzz
          refine r_ior K dX8_sent_41 ?_
          rw [hz]
          refine r_istore_n K dX8_sent_42 (by decide) ?_
          refine r_iinc K dX8_sent_43 (by decide) rfl ?_
          refine r_goto K 18 dX8_sent_46 (by decide) ?_
          exact ih (k + 1) (by omega)
        have h81k := h81 k (by omega)
        refine r_iload_n K dX8_sent_18 rfl ?_
        refine r_bipush K dX8_sent_19 ?_
        refine r_icmp_ge K 49 dX8_sent_21 (by decide) (fun c21 => ?_) (fun c21 => ?_)
        · exact absurd c21 (by omega)
        · refine r_iload_n K dX8_sent_24 rfl ?_
          refine r_aload_n K dX8_sent_25 rfl ?_
          refine r_getR K dX8_sent_26 f_X8_90 rfl (by first | assumption | exact hW.1 _ _ rfl | exact hW.2.2.1 _ _ _ rfl) (by first | assumption | exact hW.1 _ _ rfl | exact hW.2.2.1 _ _ _ rfl) ?_
          refine r_iload_n K dX8_sent_29 rfl ?_
          refine r_zald K dX8_sent_30 (by first | assumption | exact hW.1 _ _ rfl | exact hW.2.2.1 _ _ _ rfl) (by omega) (by omega) ?_
          rw [e81, Int.toNat_natCast, h81k]
          refine r_if_eq K 40 dX8_sent_31 (by decide) (fun c31 => ?_) (fun c31 => ?_)
          · refine r_iconst K dX8_sent_40 ?_
            first
            | exact j41 _ (by rw [if_pos (if1 c31)])
            | exact j41 _ (by rw [if_neg (if0 c31)])
          · refine r_iconst K dX8_sent_34 ?_
            refine r_iload_n K dX8_sent_35 rfl ?_
            refine r_ishl K dX8_sent_36 ?_
            rw [zShl_1 (by omega)]
            refine r_goto K 41 dX8_sent_37 (by decide) ?_
            first
            | exact j41 _ (by rw [if_pos (if1 c31)])
            | exact j41 _ (by rw [if_neg (if0 c31)])
    refine r_iconst K dX8_sent_14 ?_
    refine r_istore_n K dX8_sent_15 (by decide) ?_
    refine r_iconst K dX8_sent_16 ?_
    refine r_istore_n K dX8_sent_17 (by decide) ?_
    have h0 := loop 10 0 rfl
    rw [Nat.pow_zero, Nat.mod_one] at h0
    exact h0
  · refine r_iconst K dX8_sent_8 ?_
    exact q_iret K hQ rfl dX8_sent_9 (Nat.le_refl _) (Nat.le_refl _) (⟨rfl, rfl, rfl, rfl, mScr.refl I, by rw [if_pos c5]⟩)
end MOD
