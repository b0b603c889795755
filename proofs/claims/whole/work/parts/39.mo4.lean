section MO4
variable {T L : Nat → Nat} {P : Nat → Nat → Option Nat} {I : Nat → Nat → Int} {hn a b m n : Nat}
theorem mx_s (c : Nat → Bool) (r : Nat → Int) (p : Nat) : (mx c r (p + 1)).1 = if c p = true then (if (mx c r p).1 < r p then r p else (mx c r p).1) else (mx c r p).1 := by
  rw [mx]
  by_cases e1 : c p = true
  · rw [if_pos e1]
    by_cases e2 : (mx c r p).1 < r p
    · rw [if_pos ⟨e1, e2⟩, if_pos e2]
    · rw [if_neg (fun q => e2 q.2), if_neg e2]
  · rw [if_neg (fun q => e1 q.1), if_neg e1]
theorem rn_n (A B : Nat → Int) (m n p : Nat) : rn A B m n n p = 0 := by rw [rn, Nat.sub_self]; rfl
theorem rv1 {A B : Nat → Int} {m n i p : Nat} (h1 : i < n) (h2 : p < m) (h3 : i + 1 < n) (h4 : p + 1 < m) (h5 : ap A B (i + 1) (p + 1) = ap A B i p) : 1 + rn A B m n (i + 1) (p + 1) = rn A B m n i p := by rw [rn_eq h1, if_pos h2, if_pos ⟨h3, h4, h5⟩]
theorem rv2 {A B : Nat → Int} {m n i p : Nat} (h1 : i < n) (h2 : p < m) (h3 : i + 1 < n → p + 1 < m → ap A B (i + 1) (p + 1) = ap A B i p → False) : 1 = rn A B m n i p := by rw [rn_eq h1, if_pos h2, if_neg (fun q => h3 q.1 q.2.1 q.2.2)]
/-- the model's tables, when the least costs from d on are there -/
def m2 (I : Nat → Nat → Int) (a b m n d : Nat) (J : Nat → Nat → Int) : Prop := (∀ c, c ≠ 58 → c ≠ 59 → J c = I c) ∧ (∀ i p, i ≤ n → p ≤ m → J 58 (121 * i + p) = rn (mBy I a) (mBy I b) m n i p) ∧ ∀ j, d ≤ j → j ≤ n → J 59 j = ls (mBy I a) (mBy I b) m n j
def fA (I : Nat → Nat → Int) (a b m n i : Nat) (J : Nat → Nat → Int) : Prop := m2 I a b m n (i + 1) J ∧ ls (mBy I a) (mBy I b) m n i ≤ J 59 i ∧ J 59 i ≤ 1000000
theorem fA.set {i : Nat} {J : Nat → Nat → Int} {v : Int} (h : fA I a b m n i J) (h1 : ls (mBy I a) (mBy I b) m n i ≤ v) (h2 : v ≤ 1000000) : fA I a b m n i (mI J 59 i v) := by
  obtain ⟨⟨q1, q2, q3⟩, q4, q5⟩ := h
  exact ⟨⟨fun c c1 c2 => by rw [mI_ne c2]; exact q1 c c1 c2, fun i p hi hp => by rw [mI_ne (by decide)]; exact q2 i p hi hp, fun j j1 j2 => by rw [mI_nj (by omega)]; exact q3 j j1 j2⟩, by rw [mI_eq]; exact h1, by rw [mI_eq]; exact h2⟩
def pA (I : Nat → Nat → Int) (a b m n i : Nat) (v : Int) : Prop := ∀ k : Nat, 1 ≤ k → k ≤ 30 → i + k ≤ n → v ≤ 1 + (k : Int) + ls (mBy I a) (mBy I b) m n (i + k)
set_option maxHeartbeats 4000000 in
set_option maxRecDepth 100000 in
theorem mk2 {X : Cx} {Y : SY} {Q : State → Prop} (K : KM X Y) (hQ : QK X Y Q T L P I hn a b m n) (hW : Wd T L P) (hV : MV I) (ha : a < 5) (hb : b < 5) (hm : I 57 a = m) (hnn : I 57 b = n) (hm1 : m ≤ 120) (hn1 : n ≤ 120) : ∀ (d : Nat) (z : Int) (g6 g7 g8 : Option PV) (J : Nat → Nat → Int), d ≤ n → z = (d : Int) - 1 → m2 I a b m n d J → RR X Y Q 0 0 151 [some (.inr (some 54)), some (.inl (a : Int)), some (.inl (b : Int)), some (.inl (n : Int)), some (.inl (m : Int)), some (.inl z), g6, g7, g8] [] T L P J hn := by
  have l59 : L 59 = 121 := hW.2.1 59 121 rfl (by decide)
  have hls : ∀ j, j ≤ n → 0 ≤ ls (mBy I a) (mBy I b) m n j ∧ ls (mBy I a) (mBy I b) m n j ≤ 240 := fun j hj => by
    have := ls_in (mBy I a) (mBy I b) m n hn1 (n - j) j (by omega)
    omega
  intro d
  induction d with
  | zero =>
    intro z g6 g7 g8 J hd hz hh
    obtain ⟨q1, q2, q3⟩ := hh
    have t0 := q3 0 (by omega) (by omega)
    have t1 := hls 0 (by omega)
    refine r_iload K dX8_makes_151 rfl ?_
    refine r_if_lt K 384 dX8_makes_153 (by decide) (fun c153 => ?_) (fun c153 => ?_)
    · refine r_aload_n K dX8_makes_384 rfl ?_
      refine r_iconst K dX8_makes_385 ?_
      refine r_aload_n K dX8_makes_386 rfl ?_
      refine r_getR K dX8_makes_387 f_X8_23 rfl (by first | assumption | exact hW.1 _ _ rfl | exact hW.2.2.1 _ _ _ rfl) (by first | assumption | exact hW.1 _ _ rfl | exact hW.2.2.1 _ _ _ rfl) ?_
      refine r_iconst K dX8_makes_390 ?_
      refine r_iald K dX8_makes_391 (by first | assumption | exact hW.1 _ _ rfl | exact hW.2.2.1 _ _ _ rfl) (by omega) (by omega) ?_
      rw [show (0 : Int).toNat = 0 from rfl, t0]
      refine r_iadd K dX8_makes_392 ?_
      refine r_putI K dX8_makes_393 f_X8_139 rfl rfl (Or.inl rfl) (by first | assumption | exact hW.1 _ _ rfl | exact hW.2.2.1 _ _ _ rfl) ?_
      refine r_aload_n K dX8_makes_396 rfl ?_
      refine r_iconst K dX8_makes_397 ?_
      refine r_putI K dX8_makes_398 f_X8_142 rfl rfl (Or.inl rfl) (by first | assumption | exact hW.1 _ _ rfl | exact hW.2.2.1 _ _ _ rfl) ?_
      refine r_iconst K dX8_makes_401 ?_
      refine r_istore K dX8_makes_402 (by decide) ?_
      refine mk3 K hQ hW hV ha hb hm hnn hm1 hn1 n 0 0 _ _ _ _ (by omega) (Nat.zero_le _) (fun k' h => absurd h (by omega)) rfl ⟨⟨fun c c1 c2 => ?_, fun j j1 j2 => ?_, ?_, fun i p hi hp => ?_, fun j hj => ?_⟩, mI_eq, fun k' h => absurd h (by omega), fun x hx => absurd hx (by rw [pos]; omega)⟩
      · rw [mI_ne c1, mI_ne c1]; exact q1 c (by omega) (by omega)
      · rw [mI_nj j1, mI_nj j2]; rw [q1 54 (by decide) (by decide)]
      · rw [mI_nj (by decide), mI_eq]
      · rw [mI_ne (by decide), mI_ne (by decide)]; exact q2 i p hi hp
      · rw [mI_ne (by decide), mI_ne (by decide)]; exact q3 j (by omega) hj
    · exact absurd c153 (by omega)
  | succ d ih =>
    intro z g6 g7 g8 J hd hz hh
    have hz : z = (d : Int) := by omega
    subst hz
    have hdn : d < n := by omega
    have cin := cpy_in (mBy I a) (mBy I b) m n d
    have sin := shf_in (mBy I a) (mBy I b) m n d
    have pdec : ∀ {u v : Int}, pA I a b m n d u → v ≤ u → pA I a b m n d v := fun h h2 k k1 k2 k3 => Int.le_trans h2 (h k k1 k2 k3)
    have pdec2 : ∀ {u v : Int}, (pA I a b m n d u ∧ (0 < (cpy (mBy I a) (mBy I b) m n d).1 → u ≤ 4 + ls (mBy I a) (mBy I b) m n (d + (cpy (mBy I a) (mBy I b) m n d).1.toNat))) → v ≤ u → (pA I a b m n d v ∧ (0 < (cpy (mBy I a) (mBy I b) m n d).1 → v ≤ 4 + ls (mBy I a) (mBy I b) m n (d + (cpy (mBy I a) (mBy I b) m n d).1.toNat))) := fun h h2 => ⟨pdec h.1 h2, fun w => Int.le_trans h2 (h.2 w)⟩
    have loopD : ∀ (e k : Nat) (J : Nat → Nat → Int), (k : Int) + e = (shf (mBy I a) (mBy I b) m n d).1 + 1 → 1 ≤ k → fA I a b m n d J → (pA I a b m n d (J 59 d) ∧ (0 < (cpy (mBy I a) (mBy I b) m n d).1 → (J 59 d) ≤ 4 + ls (mBy I a) (mBy I b) m n (d + (cpy (mBy I a) (mBy I b) m n d).1.toNat))) → (∀ k' : Nat, 1 ≤ k' → k' < k → J 59 d ≤ 5 + ls (mBy I a) (mBy I b) m n (d + k')) → RR X Y Q 0 0 336 [some (.inr (some 54)), some (.inl (a : Int)), some (.inl (b : Int)), some (.inl (n : Int)), some (.inl (m : Int)), some (.inl (d : Int)), some (.inl (cpy (mBy I a) (mBy I b) m n d).1), some (.inl (shf (mBy I a) (mBy I b) m n d).1), some (.inl (k : Int))] [] T L P J hn := by
      intro e
      induction e with
      | zero =>
        intro k J he hk hA hp hu
        refine r_iload K dX8_makes_336 rfl ?_
        refine r_iload K dX8_makes_338 rfl ?_
        refine r_icmp_gt K 378 dX8_makes_340 (by decide) (fun c340 => ?_) (fun c340 => ?_)
        · refine r_iinc K dX8_makes_378 (by decide) rfl ?_
          refine r_goto K 151 dX8_makes_381 (by decide) ?_
          refine ih _ _ _ _ _ (by omega) rfl ⟨hA.1.1, hA.1.2.1, fun j j1 j2 => ?_⟩
          rcases Nat.eq_or_lt_of_le j1 with w | w
          · rw [← w]
            have t4 := hA.2.1
            have t2 := hls (d + 1) (by omega)
            have t5 : J 59 d ≤ ls (mBy I a) (mBy I b) m n d := by
              rcases ch_in (A := mBy I a) (B := mBy I b) (m := m) hdn (by omega) with ⟨j, hj, e⟩ | ⟨h0, e⟩ | ⟨h0, e⟩
              · rw [ls_eq hdn, e]
                have := hp.1 (j + 1) (by omega) (by omega) (by omega)
                rw [show d + (j + 1) = d + j + 1 by omega] at this
                show J 59 d ≤ 1 + ((j : Int) + 1) + ls (mBy I a) (mBy I b) m n (d + j + 1)
                omega
              · rw [ls_eq hdn, e]
                exact hu ((shf (mBy I a) (mBy I b) m n d).1.toNat) (by omega) (by omega)
              · rw [ls_eq hdn, e]
                exact hp.2 h0
            omega
          · exact hA.1.2.2 j w j2
        · exact absurd c340 (by omega)
      | succ e ihe =>
        intro k J he hk hA hp hu
        have t1 := hA.1.2.2 (d + k) (by omega) (by omega)
        have t2 := hls (d + k) (by omega)
        have t3 := hls d (by omega)
        have t4 := hA.2.1
        have t5 := hA.2.2
        have t6 : ls (mBy I a) (mBy I b) m n d ≤ 5 + ls (mBy I a) (mBy I b) m n (d + k) := by
          first
          | (have w1 := ls_cpy (A := mBy I a) (B := mBy I b) (m := m) hdn (show 0 < (cpy (mBy I a) (mBy I b) m n d).1 by omega)
             have w2 := ls_mon (A := mBy I a) (B := mBy I b) (m := m) hn1 (show d + k ≤ d + (cpy (mBy I a) (mBy I b) m n d).1.toNat by omega) (by omega)
             omega)
          | (have w1 := ls_shf (A := mBy I a) (B := mBy I b) (m := m) hdn (show 0 < (shf (mBy I a) (mBy I b) m n d).1 by omega)
             have w2 := ls_mon (A := mBy I a) (B := mBy I b) (m := m) hn1 (show d + k ≤ d + (shf (mBy I a) (mBy I b) m n d).1.toNat by omega) (by omega)
             omega)
        refine r_iload K dX8_makes_336 rfl ?_
        refine r_iload K dX8_makes_338 rfl ?_
        refine r_icmp_gt K 378 dX8_makes_340 (by decide) (fun c340 => ?_) (fun c340 => ?_)
        · exact absurd c340 (by omega)
        · refine r_aload_n K dX8_makes_343 rfl ?_
          refine r_getR K dX8_makes_344 f_X8_23 rfl (by first | assumption | exact hW.1 _ _ rfl | exact hW.2.2.1 _ _ _ rfl) (by first | assumption | exact hW.1 _ _ rfl | exact hW.2.2.1 _ _ _ rfl) ?_
          refine r_iload K dX8_makes_347 rfl ?_
          refine r_aload_n K dX8_makes_349 rfl ?_
          refine r_getR K dX8_makes_350 f_X8_23 rfl (by first | assumption | exact hW.1 _ _ rfl | exact hW.2.2.1 _ _ _ rfl) (by first | assumption | exact hW.1 _ _ rfl | exact hW.2.2.1 _ _ _ rfl) ?_
          refine r_iload K dX8_makes_353 rfl ?_
          refine r_iald K dX8_makes_355 (by first | assumption | exact hW.1 _ _ rfl | exact hW.2.2.1 _ _ _ rfl) (by omega) (by omega) ?_
          rw [Int.toNat_natCast]
          refine r_iconst K dX8_makes_356 ?_
          refine r_aload_n K dX8_makes_357 rfl ?_
          refine r_getR K dX8_makes_358 f_X8_23 rfl (by first | assumption | exact hW.1 _ _ rfl | exact hW.2.2.1 _ _ _ rfl) (by first | assumption | exact hW.1 _ _ rfl | exact hW.2.2.1 _ _ _ rfl) ?_
          refine r_iload K dX8_makes_361 rfl ?_
          refine r_iload K dX8_makes_363 rfl ?_
          refine r_iadd K dX8_makes_365 ?_
          refine r_iald K dX8_makes_366 (by first | assumption | exact hW.1 _ _ rfl | exact hW.2.2.1 _ _ _ rfl) (by omega) (by omega) ?_
          rw [show ((d : Int) + k).toNat = d + k by omega, t1]
          refine r_iadd K dX8_makes_367 ?_
          refine r_min K dX8_makes_368 m_X8_111 (Nat.le_of_ble_eq_true rfl) (Nat.le_of_ble_eq_true rfl) (Nat.le_of_ble_eq_true rfl) (Nat.le_of_ble_eq_true rfl) ?_
          refine r_iast K dX8_makes_371 (by first | assumption | exact hW.1 _ _ rfl | exact hW.2.2.1 _ _ _ rfl) (by omega) (by omega) ?_
          rw [Int.toNat_natCast]
          refine r_iinc K dX8_makes_372 (by decide) rfl ?_
          refine r_goto K 336 dX8_makes_375 (by decide) ?_
          have hle : (if 5 + ls (mBy I a) (mBy I b) m n (d + k) < J 59 d then 5 + ls (mBy I a) (mBy I b) m n (d + k) else J 59 d) ≤ J 59 d ∧ (if 5 + ls (mBy I a) (mBy I b) m n (d + k) < J 59 d then 5 + ls (mBy I a) (mBy I b) m n (d + k) else J 59 d) ≤ 5 + ls (mBy I a) (mBy I b) m n (d + k) ∧ ls (mBy I a) (mBy I b) m n d ≤ (if 5 + ls (mBy I a) (mBy I b) m n (d + k) < J 59 d then 5 + ls (mBy I a) (mBy I b) m n (d + k) else J 59 d) := by split <;> omega
          refine ihe (k + 1) _ (by omega) (by omega) (hA.set hle.2.2 (by omega)) ?_ (fun k' k1 k2 => ?_)
          · rw [mI_eq]; exact pdec2 hp hle.1
          · rw [mI_eq]
            rcases Nat.lt_or_ge k' k with w | w
            · have := hu k' k1 w; omega
            · rw [show k' = k by omega]; exact hle.2.1
    have loopC : ∀ (e k : Nat) (J : Nat → Nat → Int), (k : Int) + e = (cpy (mBy I a) (mBy I b) m n d).1 + 1 → 1 ≤ k → fA I a b m n d J → (pA I a b m n d (J 59 d)) → (∀ k' : Nat, 1 ≤ k' → k' < k → J 59 d ≤ 4 + ls (mBy I a) (mBy I b) m n (d + k')) → RR X Y Q 0 0 291 [some (.inr (some 54)), some (.inl (a : Int)), some (.inl (b : Int)), some (.inl (n : Int)), some (.inl (m : Int)), some (.inl (d : Int)), some (.inl (cpy (mBy I a) (mBy I b) m n d).1), some (.inl (shf (mBy I a) (mBy I b) m n d).1), some (.inl (k : Int))] [] T L P J hn := by
      intro e
      induction e with
      | zero =>
        intro k J he hk hA hp hu
        refine r_iload K dX8_makes_291 rfl ?_
        refine r_iload K dX8_makes_293 rfl ?_
        refine r_icmp_gt K 333 dX8_makes_295 (by decide) (fun c295 => ?_) (fun c295 => ?_)
        · refine r_iconst K dX8_makes_333 ?_
          refine r_istore K dX8_makes_334 (by decide) ?_
          exact loopD (shf (mBy I a) (mBy I b) m n d).1.toNat 1 J (by omega) (by omega) hA ⟨hp, fun w => hu (cpy (mBy I a) (mBy I b) m n d).1.toNat (by omega) (by omega)⟩ (fun k' k1 k2 => absurd k2 (by omega))
        · exact absurd c295 (by omega)
      | succ e ihe =>
        intro k J he hk hA hp hu
        have t1 := hA.1.2.2 (d + k) (by omega) (by omega)
        have t2 := hls (d + k) (by omega)
        have t3 := hls d (by omega)
        have t4 := hA.2.1
        have t5 := hA.2.2
        have t6 : ls (mBy I a) (mBy I b) m n d ≤ 4 + ls (mBy I a) (mBy I b) m n (d + k) := by
          first
          | (have w1 := ls_cpy (A := mBy I a) (B := mBy I b) (m := m) hdn (show 0 < (cpy (mBy I a) (mBy I b) m n d).1 by omega)
             have w2 := ls_mon (A := mBy I a) (B := mBy I b) (m := m) hn1 (show d + k ≤ d + (cpy (mBy I a) (mBy I b) m n d).1.toNat by omega) (by omega)
             omega)
          | (have w1 := ls_shf (A := mBy I a) (B := mBy I b) (m := m) hdn (show 0 < (shf (mBy I a) (mBy I b) m n d).1 by omega)
             have w2 := ls_mon (A := mBy I a) (B := mBy I b) (m := m) hn1 (show d + k ≤ d + (shf (mBy I a) (mBy I b) m n d).1.toNat by omega) (by omega)
             omega)
        refine r_iload K dX8_makes_291 rfl ?_
        refine r_iload K dX8_makes_293 rfl ?_
        refine r_icmp_gt K 333 dX8_makes_295 (by decide) (fun c295 => ?_) (fun c295 => ?_)
        · exact absurd c295 (by omega)
        · refine r_aload_n K dX8_makes_298 rfl ?_
          refine r_getR K dX8_makes_299 f_X8_23 rfl (by first | assumption | exact hW.1 _ _ rfl | exact hW.2.2.1 _ _ _ rfl) (by first | assumption | exact hW.1 _ _ rfl | exact hW.2.2.1 _ _ _ rfl) ?_
          refine r_iload K dX8_makes_302 rfl ?_
          refine r_aload_n K dX8_makes_304 rfl ?_
          refine r_getR K dX8_makes_305 f_X8_23 rfl (by first | assumption | exact hW.1 _ _ rfl | exact hW.2.2.1 _ _ _ rfl) (by first | assumption | exact hW.1 _ _ rfl | exact hW.2.2.1 _ _ _ rfl) ?_
          refine r_iload K dX8_makes_308 rfl ?_
          refine r_iald K dX8_makes_310 (by first | assumption | exact hW.1 _ _ rfl | exact hW.2.2.1 _ _ _ rfl) (by omega) (by omega) ?_
          rw [Int.toNat_natCast]
          refine r_iconst K dX8_makes_311 ?_
          refine r_aload_n K dX8_makes_312 rfl ?_
          refine r_getR K dX8_makes_313 f_X8_23 rfl (by first | assumption | exact hW.1 _ _ rfl | exact hW.2.2.1 _ _ _ rfl) (by first | assumption | exact hW.1 _ _ rfl | exact hW.2.2.1 _ _ _ rfl) ?_
          refine r_iload K dX8_makes_316 rfl ?_
          refine r_iload K dX8_makes_318 rfl ?_
          refine r_iadd K dX8_makes_320 ?_
          refine r_iald K dX8_makes_321 (by first | assumption | exact hW.1 _ _ rfl | exact hW.2.2.1 _ _ _ rfl) (by omega) (by omega) ?_
          rw [show ((d : Int) + k).toNat = d + k by omega, t1]
          refine r_iadd K dX8_makes_322 ?_
          refine r_min K dX8_makes_323 m_X8_111 (Nat.le_of_ble_eq_true rfl) (Nat.le_of_ble_eq_true rfl) (Nat.le_of_ble_eq_true rfl) (Nat.le_of_ble_eq_true rfl) ?_
          refine r_iast K dX8_makes_326 (by first | assumption | exact hW.1 _ _ rfl | exact hW.2.2.1 _ _ _ rfl) (by omega) (by omega) ?_
          rw [Int.toNat_natCast]
          refine r_iinc K dX8_makes_327 (by decide) rfl ?_
          refine r_goto K 291 dX8_makes_330 (by decide) ?_
          have hle : (if 4 + ls (mBy I a) (mBy I b) m n (d + k) < J 59 d then 4 + ls (mBy I a) (mBy I b) m n (d + k) else J 59 d) ≤ J 59 d ∧ (if 4 + ls (mBy I a) (mBy I b) m n (d + k) < J 59 d then 4 + ls (mBy I a) (mBy I b) m n (d + k) else J 59 d) ≤ 4 + ls (mBy I a) (mBy I b) m n (d + k) ∧ ls (mBy I a) (mBy I b) m n d ≤ (if 4 + ls (mBy I a) (mBy I b) m n (d + k) < J 59 d then 4 + ls (mBy I a) (mBy I b) m n (d + k) else J 59 d) := by split <;> omega
          refine ihe (k + 1) _ (by omega) (by omega) (hA.set hle.2.2 (by omega)) ?_ (fun k' k1 k2 => ?_)
          · rw [mI_eq]; exact pdec hp hle.1
          · rw [mI_eq]
            rcases Nat.lt_or_ge k' k with w | w
            · have := hu k' k1 w; omega
            · rw [show k' = k by omega]; exact hle.2.1
    have loopB : ∀ (e p : Nat) (J : Nat → Nat → Int), p + e = m → fA I a b m n d J → pA I a b m n d (J 59 d) → RR X Y Q 0 0 229 [some (.inr (some 54)), some (.inl (a : Int)), some (.inl (b : Int)), some (.inl (n : Int)), some (.inl (m : Int)), some (.inl (d : Int)), some (.inl (mx (isC (mBy I a) (mBy I b) d) (rn (mBy I a) (mBy I b) m n d) p).1), some (.inl (mx (isS (mBy I a) (mBy I b) d) (rn (mBy I a) (mBy I b) m n d) p).1), some (.inl (p : Int))] [] T L P J hn := by
      intro e
      induction e with
      | zero =>
        intro p J he hA hp
        have hpm : p = m := by omega
        subst hpm
        refine r_iload K dX8_makes_229 rfl ?_
        refine r_iload K dX8_makes_231 rfl ?_
        refine r_icmp_ge K 288 dX8_makes_233 (by decide) (fun c233 => ?_) (fun c233 => ?_)
        · refine r_iconst K dX8_makes_288 ?_
          refine r_istore K dX8_makes_289 (by decide) ?_
          exact loopC (cpy (mBy I a) (mBy I b) p n d).1.toNat 1 J (by omega) (by omega) hA hp (fun k' k1 k2 => absurd k2 (by omega))
        · exact absurd c233 (by omega)
      | succ e ihe =>
        intro p J he hA hp
        have e56 : J 56 = I 56 := hA.1.1 56 (by decide) (by decide)
        have e57 : J 57 = I 57 := hA.1.1 57 (by decide) (by decide)
        have hVJ : MV J := hV.cong e56 e57
        have eA : mBy J a = mBy I a := by unfold mBy; rw [e56]
        have eB : mBy J b = mBy I b := by unfold mBy; rw [e56]
        have eR := hA.1.2.1 d p (by omega) (by omega)
        refine r_iload K dX8_makes_229 rfl ?_
        refine r_iload K dX8_makes_231 rfl ?_
        refine r_icmp_ge K 288 dX8_makes_233 (by decide) (fun c233 => ?_) (fun c233 => ?_)
        · exact absurd c233 (by omega)
        · refine r_aload_n K dX8_makes_236 rfl ?_
          refine r_iload_n K dX8_makes_237 rfl ?_
          refine r_iload_n K dX8_makes_238 rfl ?_
          refine r_iload K dX8_makes_239 rfl ?_
          refine r_iload K dX8_makes_241 rfl ?_
          refine rcV4p K dX8_makes_243 c_X8_128 v_X8_apart (by first | assumption | exact hW.1 _ _ rfl | exact hW.2.2.1 _ _ _ rfl) (k_apart (a := a) (b := b) (i := d) (p := p) hW hVJ (by omega) (by omega)) (by decide) (Nat.le_of_ble_eq_true rfl) ?_
          rw [eA, eB]
          refine r_if_ne K 267 dX8_makes_246 (by decide) (fun c246 => ?_) (fun c246 => ?_)
          · refine r_iload K dX8_makes_267 rfl ?_
            refine r_aload_n K dX8_makes_269 rfl ?_
            refine r_iload K dX8_makes_270 rfl ?_
            refine r_iload K dX8_makes_272 rfl ?_
            refine rcV2p K dX8_makes_274 c_X8_132 v_X8_runAt (by first | assumption | exact hW.1 _ _ rfl | exact hW.2.2.1 _ _ _ rfl) (k_runAt (i := d) (p := p) hW (by omega)) (by decide) (Nat.le_of_ble_eq_true rfl) ?_
            rw [eR]
            refine r_max K dX8_makes_277 m_X8_136 (Nat.le_of_ble_eq_true rfl) (Nat.le_of_ble_eq_true rfl) (Nat.le_of_ble_eq_true rfl) (Nat.le_of_ble_eq_true rfl) ?_
            refine r_istore K dX8_makes_280 (by decide) ?_
            refine r_iinc K dX8_makes_282 (by decide) rfl ?_
            refine r_goto K 229 dX8_makes_285 (by decide) ?_
            have hr := ihe (p + 1) J (by omega) hA hp
            rw [mx_s, mx_s] at hr
            first
            | (rw [if_pos (show isC (mBy I a) (mBy I b) d p = true from decide_eq_true c246), if_neg (show ¬ isS (mBy I a) (mBy I b) d p = true from fun w => absurd c246 (of_decide_eq_true w))] at hr; exact hr)
            | (rw [if_neg (show ¬ isC (mBy I a) (mBy I b) d p = true from fun w => absurd (of_decide_eq_true w) c246), if_pos (show isS (mBy I a) (mBy I b) d p = true from decide_eq_true c246)] at hr; exact hr)
          · refine r_iload K dX8_makes_249 rfl ?_
            refine r_aload_n K dX8_makes_251 rfl ?_
            refine r_iload K dX8_makes_252 rfl ?_
            refine r_iload K dX8_makes_254 rfl ?_
            refine rcV2p K dX8_makes_256 c_X8_132 v_X8_runAt (by first | assumption | exact hW.1 _ _ rfl | exact hW.2.2.1 _ _ _ rfl) (k_runAt (i := d) (p := p) hW (by omega)) (by decide) (Nat.le_of_ble_eq_true rfl) ?_
            rw [eR]
            refine r_max K dX8_makes_259 m_X8_136 (Nat.le_of_ble_eq_true rfl) (Nat.le_of_ble_eq_true rfl) (Nat.le_of_ble_eq_true rfl) (Nat.le_of_ble_eq_true rfl) ?_
            refine r_istore K dX8_makes_262 (by decide) ?_
            refine r_goto K 282 dX8_makes_264 (by decide) ?_
            refine r_iinc K dX8_makes_282 (by decide) rfl ?_
            refine r_goto K 229 dX8_makes_285 (by decide) ?_
            have hr := ihe (p + 1) J (by omega) hA hp
            rw [mx_s, mx_s] at hr
            first
            | (rw [if_pos (show isC (mBy I a) (mBy I b) d p = true from decide_eq_true c246), if_neg (show ¬ isS (mBy I a) (mBy I b) d p = true from fun w => absurd c246 (of_decide_eq_true w))] at hr; exact hr)
            | (rw [if_neg (show ¬ isC (mBy I a) (mBy I b) d p = true from fun w => absurd (of_decide_eq_true w) c246), if_pos (show isS (mBy I a) (mBy I b) d p = true from decide_eq_true c246)] at hr; exact hr)
    have loopA : ∀ (e k : Nat) (J : Nat → Nat → Int), k + e = min 30 (n - d) + 1 → 1 ≤ k → fA I a b m n d J → (∀ k' : Nat, 1 ≤ k' → k' < k → J 59 d ≤ 1 + (k' : Int) + ls (mBy I a) (mBy I b) m n (d + k')) → RR X Y Q 0 0 168 [some (.inr (some 54)), some (.inl (a : Int)), some (.inl (b : Int)), some (.inl (n : Int)), some (.inl (m : Int)), some (.inl (d : Int)), some (.inl (k : Int)), g7, g8] [] T L P J hn := by
      have hmn : (if (n : Int) - d < 30 then (n : Int) - d else 30) = ((min 30 (n - d) : Nat) : Int) := by split <;> omega
      intro e
      induction e with
      | zero =>
        intro k J he hk hA hu
        refine r_iload K dX8_makes_168 rfl ?_
        refine r_bipush K dX8_makes_170 ?_
        refine r_iload_n K dX8_makes_172 rfl ?_
        refine r_iload K dX8_makes_173 rfl ?_
        refine r_isub K dX8_makes_175 ?_
        refine r_min K dX8_makes_176 m_X8_111 (Nat.le_of_ble_eq_true rfl) (Nat.le_of_ble_eq_true rfl) (Nat.le_of_ble_eq_true rfl) (Nat.le_of_ble_eq_true rfl) ?_
        rw [hmn]
        refine r_icmp_gt K 220 dX8_makes_179 (by decide) (fun c179 => ?_) (fun c179 => ?_)
        · refine r_iconst K dX8_makes_220 ?_
          refine r_istore K dX8_makes_221 (by decide) ?_
          refine r_iconst K dX8_makes_223 ?_
          refine r_istore K dX8_makes_224 (by decide) ?_
          refine r_iconst K dX8_makes_226 ?_
          refine r_istore K dX8_makes_227 (by decide) ?_
          exact loopB m 0 J (by omega) hA (fun k' k1 k2 k3 => hu k' k1 (by omega))
        · exact absurd c179 (by omega)
      | succ e ihe =>
        intro k J he hk hA hu
        have t1 := hA.1.2.2 (d + k) (by omega) (by omega)
        have t2 := hls (d + k) (by omega)
        have t3 := hls d (by omega)
        have t4 := hA.2.1
        have t5 := hA.2.2
        have t6 := ls_add (A := mBy I a) (B := mBy I b) (m := m) hdn hk (show k ≤ 30 by omega) (show d + k ≤ n by omega)
        refine r_iload K dX8_makes_168 rfl ?_
        refine r_bipush K dX8_makes_170 ?_
        refine r_iload_n K dX8_makes_172 rfl ?_
        refine r_iload K dX8_makes_173 rfl ?_
        refine r_isub K dX8_makes_175 ?_
        refine r_min K dX8_makes_176 m_X8_111 (Nat.le_of_ble_eq_true rfl) (Nat.le_of_ble_eq_true rfl) (Nat.le_of_ble_eq_true rfl) (Nat.le_of_ble_eq_true rfl) ?_
        rw [hmn]
        refine r_icmp_gt K 220 dX8_makes_179 (by decide) (fun c179 => ?_) (fun c179 => ?_)
        · exact absurd c179 (by omega)
        · refine r_aload_n K dX8_makes_182 rfl ?_
          refine r_getR K dX8_makes_183 f_X8_23 rfl (by first | assumption | exact hW.1 _ _ rfl | exact hW.2.2.1 _ _ _ rfl) (by first | assumption | exact hW.1 _ _ rfl | exact hW.2.2.1 _ _ _ rfl) ?_
          refine r_iload K dX8_makes_186 rfl ?_
          refine r_aload_n K dX8_makes_188 rfl ?_
          refine r_getR K dX8_makes_189 f_X8_23 rfl (by first | assumption | exact hW.1 _ _ rfl | exact hW.2.2.1 _ _ _ rfl) (by first | assumption | exact hW.1 _ _ rfl | exact hW.2.2.1 _ _ _ rfl) ?_
          refine r_iload K dX8_makes_192 rfl ?_
          refine r_iald K dX8_makes_194 (by first | assumption | exact hW.1 _ _ rfl | exact hW.2.2.1 _ _ _ rfl) (by omega) (by omega) ?_
          rw [Int.toNat_natCast]
          refine r_iconst K dX8_makes_195 ?_
          refine r_iload K dX8_makes_196 rfl ?_
          refine r_iadd K dX8_makes_198 ?_
          refine r_aload_n K dX8_makes_199 rfl ?_
          refine r_getR K dX8_makes_200 f_X8_23 rfl (by first | assumption | exact hW.1 _ _ rfl | exact hW.2.2.1 _ _ _ rfl) (by first | assumption | exact hW.1 _ _ rfl | exact hW.2.2.1 _ _ _ rfl) ?_
          refine r_iload K dX8_makes_203 rfl ?_
          refine r_iload K dX8_makes_205 rfl ?_
          refine r_iadd K dX8_makes_207 ?_
          refine r_iald K dX8_makes_208 (by first | assumption | exact hW.1 _ _ rfl | exact hW.2.2.1 _ _ _ rfl) (by omega) (by omega) ?_
          rw [show ((d : Int) + k).toNat = d + k by omega, t1]
          refine r_iadd K dX8_makes_209 ?_
          refine r_min K dX8_makes_210 m_X8_111 (Nat.le_of_ble_eq_true rfl) (Nat.le_of_ble_eq_true rfl) (Nat.le_of_ble_eq_true rfl) (Nat.le_of_ble_eq_true rfl) ?_
          refine r_iast K dX8_makes_213 (by first | assumption | exact hW.1 _ _ rfl | exact hW.2.2.1 _ _ _ rfl) (by omega) (by omega) ?_
          rw [Int.toNat_natCast]
          refine r_iinc K dX8_makes_214 (by decide) rfl ?_
          refine r_goto K 168 dX8_makes_217 (by decide) ?_
          have hle : (if 1 + (k : Int) + ls (mBy I a) (mBy I b) m n (d + k) < J 59 d then 1 + (k : Int) + ls (mBy I a) (mBy I b) m n (d + k) else J 59 d) ≤ J 59 d ∧ (if 1 + (k : Int) + ls (mBy I a) (mBy I b) m n (d + k) < J 59 d then 1 + (k : Int) + ls (mBy I a) (mBy I b) m n (d + k) else J 59 d) ≤ 1 + (k : Int) + ls (mBy I a) (mBy I b) m n (d + k) ∧ ls (mBy I a) (mBy I b) m n d ≤ (if 1 + (k : Int) + ls (mBy I a) (mBy I b) m n (d + k) < J 59 d then 1 + (k : Int) + ls (mBy I a) (mBy I b) m n (d + k) else J 59 d) := by split <;> omega
          refine ihe (k + 1) _ (by omega) (by omega) (hA.set hle.2.2 (by omega)) (fun k' k1 k2 => ?_)
          rw [mI_eq]
          rcases Nat.lt_or_ge k' k with w | w
          · have := hu k' k1 w; omega
          · rw [show k' = k by omega]; exact hle.2.1
    refine r_iload K dX8_makes_151 rfl ?_
    refine r_if_lt K 384 dX8_makes_153 (by decide) (fun c153 => ?_) (fun c153 => ?_)
    · exact absurd c153 (by omega)
    · refine r_aload_n K dX8_makes_156 rfl ?_
      refine r_getR K dX8_makes_157 f_X8_23 rfl (by first | assumption | exact hW.1 _ _ rfl | exact hW.2.2.1 _ _ _ rfl) (by first | assumption | exact hW.1 _ _ rfl | exact hW.2.2.1 _ _ _ rfl) ?_
      refine r_iload K dX8_makes_160 rfl ?_
      refine r_ldc (n := 1000000) K dX8_makes_162 k_X8_135 rfl ?_
      refine r_iast K dX8_makes_164 (by first | assumption | exact hW.1 _ _ rfl | exact hW.2.2.1 _ _ _ rfl) (by omega) (by omega) ?_
      rw [Int.toNat_natCast]
      refine r_iconst K dX8_makes_165 ?_
      refine r_istore K dX8_makes_166 (by decide) ?_
      refine loopA (min 30 (n - d)) 1 _ (by omega) (by omega) ⟨⟨fun c c1 c2 => by rw [mI_ne c2]; exact hh.1 c c1 c2, fun i p hi hp => by rw [mI_ne (by decide)]; exact hh.2.1 i p hi hp, fun j j1 j2 => by rw [mI_nj (by omega)]; exact hh.2.2 j j1 j2⟩, ?_, ?_⟩ (fun k' k1 k2 => absurd k2 (by omega))
      · rw [mI_eq]; have := hls d (by omega); omega
      · rw [mI_eq]; decide
def m1 (I : Nat → Nat → Int) (a b m n d e : Nat) (J : Nat → Nat → Int) : Prop := (∀ c, c ≠ 58 → J c = I c) ∧ (∀ i p, d ≤ i → i ≤ n → p ≤ m → J 58 (121 * i + p) = rn (mBy I a) (mBy I b) m n i p) ∧ (∀ p, e ≤ p → p ≤ m → 1 ≤ d → J 58 (121 * (d - 1) + p) = rn (mBy I a) (mBy I b) m n (d - 1) p)

set_option maxHeartbeats 4000000 in
set_option maxRecDepth 100000 in
theorem k_makes (hW : Wd T L P) (hV : MV I) (ha : a < 5) (hb : b < 5) (hm : I 57 a = m) (hnn : I 57 b = n) (hm1 : m ≤ 120) (hn1 : n ≤ 120) : iX8_makes [.inr (some 54), .inl (a : Int), .inl (b : Int)] T L P I hn (fun r J => r = none ∧ mkP I a b m n J) := by
  refine CT.by (by decide) (Nat.le_of_ble_eq_true rfl) fun X Y Q hQ K hv => ?_
  have l57 : L 57 = 5 := hW.2.1 57 5 rfl (by decide)
  have l58 : L 58 = 14641 := hW.2.1 58 14641 rfl (by decide)
  have l59 : L 59 = 121 := hW.2.1 59 121 rfl (by decide)
  have loop : ∀ (d : Nat) (z : Int) (g6 g7 g8 : Option PV) (J : Nat → Nat → Int), d ≤ n + 1 → z = (d : Int) - 1 → m1 I a b m n d (m + 1) J → RR X Y Q 0 0 18 [some (.inr (some 54)), some (.inl (a : Int)), some (.inl (b : Int)), some (.inl (n : Int)), some (.inl (m : Int)), some (.inl z), g6, g7, g8] [] T L P J hn := by
    intro d
    induction d with
    | zero =>
      intro z g6 g7 g8 J hd hz hh
      refine r_iload K dX8_makes_18 rfl ?_
      refine r_if_lt K 139 dX8_makes_20 (by decide) (fun c20 => ?_) (fun c20 => ?_)
      · refine r_aload_n K dX8_makes_139 rfl ?_
        refine r_getR K dX8_makes_140 f_X8_23 rfl (by first | assumption | exact hW.1 _ _ rfl | exact hW.2.2.1 _ _ _ rfl) (by first | assumption | exact hW.1 _ _ rfl | exact hW.2.2.1 _ _ _ rfl) ?_
        refine r_iload_n K dX8_makes_143 rfl ?_
        refine r_iconst K dX8_makes_144 ?_
        refine r_iast K dX8_makes_145 (by first | assumption | exact hW.1 _ _ rfl | exact hW.2.2.1 _ _ _ rfl) (by omega) (by omega) ?_
        rw [Int.toNat_natCast]
        refine r_iload_n K dX8_makes_146 rfl ?_
        refine r_iconst K dX8_makes_147 ?_
        refine r_isub K dX8_makes_148 ?_
        refine r_istore K dX8_makes_149 (by decide) ?_
        refine mk2 K hQ hW hV ha hb hm hnn hm1 hn1 n _ _ _ _ _ (Nat.le_refl _) (by omega) ⟨fun c c1 c2 => by rw [mI_ne c2]; exact hh.1 c c1, fun i p hi hp => by rw [mI_ne (by decide)]; exact hh.2.1 i p (by omega) hi hp, fun j j1 j2 => ?_⟩
        rw [show j = n by omega, mI_eq, ls_n]
      · exact absurd c20 (by omega)
    | succ d ih =>
      intro z g6 g7 g8 J hd hz hh
      have hz : z = (d : Int) := by omega
      subst hz
      have inner : ∀ (e : Nat) (z : Int) (g7 g8 : Option PV) (J : Nat → Nat → Int), e ≤ m + 1 → z = (e : Int) - 1 → m1 I a b m n (d + 1) e J → RR X Y Q 0 0 27 [some (.inr (some 54)), some (.inl (a : Int)), some (.inl (b : Int)), some (.inl (n : Int)), some (.inl (m : Int)), some (.inl (d : Int)), some (.inl z), g7, g8] [] T L P J hn := by
        intro e
        induction e with
        | zero =>
          intro z g7 g8 J he hz hh
          refine r_iload K dX8_makes_27 rfl ?_
          refine r_if_lt K 133 dX8_makes_29 (by decide) (fun c29 => ?_) (fun c29 => ?_)
          · refine r_iinc K dX8_makes_133 (by decide) rfl ?_
            refine r_goto K 18 dX8_makes_136 (by decide) ?_
            refine ih _ _ _ _ _ (by omega) rfl ⟨hh.1, fun i p hi hi2 hp => ?_, fun p p1 p2 => absurd p1 (by omega)⟩
            rcases Nat.eq_or_lt_of_le hi with w | w
            · rw [← w]; exact hh.2.2 p (by omega) hp (by omega)
            · exact hh.2.1 i p w hi2 hp
          · exact absurd c29 (by omega)
        | succ e ihe =>
          intro z g7 g8 J he hz hh
          have hz : z = (e : Int) := by omega
          subst hz
          have e56 : J 56 = I 56 := hh.1 56 (by decide)
          have e57 : J 57 = I 57 := hh.1 57 (by decide)
          have hVJ : MV J := hV.cong e56 e57
          have eA : mBy J a = mBy I a := by unfold mBy; rw [e56]
          have eB : mBy J b = mBy I b := by unfold mBy; rw [e56]
          have j112 : ∀ v : Int, v = rn (mBy I a) (mBy I b) m n d e → RR X Y Q 0 0 112 [some (.inr (some 54)), some (.inl (a : Int)), some (.inl (b : Int)), some (.inl (n : Int)), some (.inl (m : Int)), some (.inl (d : Int)), some (.inl (e : Int)), some (.inl v), g8] [] T L P J hn := by
            intro v hv
            refine r_aload_n K dX8_makes_112 rfl ?_
            refine r_getR K dX8_makes_113 f_X8_20 rfl (by first | assumption | exact hW.1 _ _ rfl | exact hW.2.2.1 _ _ _ rfl) (by first | assumption | exact hW.1 _ _ rfl | exact hW.2.2.1 _ _ _ rfl) ?_
            refine r_bipush K dX8_makes_116 ?_
            refine r_iload K dX8_makes_118 rfl ?_
            refine r_imul K dX8_makes_120 ?_
            refine r_iload K dX8_makes_121 rfl ?_
            refine r_iadd K dX8_makes_123 ?_
            refine r_iload K dX8_makes_124 rfl ?_
            refine r_iast K dX8_makes_126 (by first | assumption | exact hW.1 _ _ rfl | exact hW.2.2.1 _ _ _ rfl) (by omega) (by omega) ?_
            rw [show (121 * (d : Int) + e).toNat = 121 * d + e by omega]
            refine r_iinc K dX8_makes_127 (by decide) rfl ?_
            refine r_goto K 27 dX8_makes_130 (by decide) ?_
            refine ihe _ _ _ _ (by omega) rfl ⟨fun c c1 => by rw [mI_ne c1]; exact hh.1 c c1, fun i p hi hi2 hp => by rw [mI_nj (by omega)]; exact hh.2.1 i p hi hi2 hp, fun p p1 p2 _ => ?_⟩
            rw [show d + 1 - 1 = d by omega, mI_row]
            rcases Nat.eq_or_lt_of_le p1 with w | w
            · rw [if_pos (by omega), ← w]; exact hv
            · rw [if_neg (by omega)]; exact hh.2.2 p w p2 (by omega)
          refine r_iload K dX8_makes_27 rfl ?_
          refine r_if_lt K 133 dX8_makes_29 (by decide) (fun c29 => ?_) (fun c29 => ?_)
          · exact absurd c29 (by omega)
          · refine r_iconst K dX8_makes_32 ?_
            refine r_istore K dX8_makes_33 (by decide) ?_
            refine r_iload K dX8_makes_35 rfl ?_
            refine r_iload_n K dX8_makes_37 rfl ?_
            refine r_icmp_ge K 112 dX8_makes_38 (by decide) (fun c38 => ?_) (fun c38 => ?_)
            · first
              | exact j112 0 (by rw [show d = n by omega, rn_n])
              | exact j112 0 (by rw [rn_eq (by omega), if_neg (by omega)])
              | exact j112 _ (rv1 (by omega) (by omega) (by omega) (by omega) c89)
              | exact j112 1 (rv2 (by omega) (by omega) (fun q1 q2 q3 => c89 q3))
              | exact j112 1 (rv2 (by omega) (by omega) (fun q1 q2 q3 => by omega))
            · refine r_iload K dX8_makes_41 rfl ?_
              refine r_iload K dX8_makes_43 rfl ?_
              refine r_icmp_ge K 112 dX8_makes_45 (by decide) (fun c45 => ?_) (fun c45 => ?_)
              · first
                | exact j112 0 (by rw [show d = n by omega, rn_n])
                | exact j112 0 (by rw [rn_eq (by omega), if_neg (by omega)])
                | exact j112 _ (rv1 (by omega) (by omega) (by omega) (by omega) c89)
                | exact j112 1 (rv2 (by omega) (by omega) (fun q1 q2 q3 => c89 q3))
                | exact j112 1 (rv2 (by omega) (by omega) (fun q1 q2 q3 => by omega))
              · refine r_iload K dX8_makes_48 rfl ?_
                refine r_iconst K dX8_makes_50 ?_
                refine r_iadd K dX8_makes_51 ?_
                refine r_iload_n K dX8_makes_52 rfl ?_
                refine r_icmp_ge K 109 dX8_makes_53 (by decide) (fun c53 => ?_) (fun c53 => ?_)
                · refine r_iconst K dX8_makes_109 ?_
                  refine r_istore K dX8_makes_110 (by decide) ?_
                  first
                  | exact j112 0 (by rw [show d = n by omega, rn_n])
                  | exact j112 0 (by rw [rn_eq (by omega), if_neg (by omega)])
                  | exact j112 _ (rv1 (by omega) (by omega) (by omega) (by omega) c89)
                  | exact j112 1 (rv2 (by omega) (by omega) (fun q1 q2 q3 => c89 q3))
                  | exact j112 1 (rv2 (by omega) (by omega) (fun q1 q2 q3 => by omega))
                · refine r_iload K dX8_makes_56 rfl ?_
                  refine r_iconst K dX8_makes_58 ?_
                  refine r_iadd K dX8_makes_59 ?_
                  refine r_iload K dX8_makes_60 rfl ?_
                  refine r_icmp_ge K 109 dX8_makes_62 (by decide) (fun c62 => ?_) (fun c62 => ?_)
                  · refine r_iconst K dX8_makes_109 ?_
                    refine r_istore K dX8_makes_110 (by decide) ?_
                    first
                    | exact j112 0 (by rw [show d = n by omega, rn_n])
                    | exact j112 0 (by rw [rn_eq (by omega), if_neg (by omega)])
                    | exact j112 _ (rv1 (by omega) (by omega) (by omega) (by omega) c89)
                    | exact j112 1 (rv2 (by omega) (by omega) (fun q1 q2 q3 => c89 q3))
                    | exact j112 1 (rv2 (by omega) (by omega) (fun q1 q2 q3 => by omega))
                  · refine r_aload_n K dX8_makes_65 rfl ?_
                    refine r_iload_n K dX8_makes_66 rfl ?_
                    refine r_iload_n K dX8_makes_67 rfl ?_
                    refine r_iload K dX8_makes_68 rfl ?_
                    refine r_iconst K dX8_makes_70 ?_
                    refine r_iadd K dX8_makes_71 ?_
                    refine r_iload K dX8_makes_72 rfl ?_
                    refine r_iconst K dX8_makes_74 ?_
                    refine r_iadd K dX8_makes_75 ?_
                    refine rcV4p K dX8_makes_76 c_X8_128 v_X8_apart (by first | assumption | exact hW.1 _ _ rfl | exact hW.2.2.1 _ _ _ rfl) (k_apart (a := a) (b := b) (i := d + 1) (p := e + 1) hW hVJ (by omega) (by omega)) (by decide) (Nat.le_of_ble_eq_true rfl) ?_
                    rw [eA, eB]
                    refine r_aload_n K dX8_makes_79 rfl ?_
                    refine r_iload_n K dX8_makes_80 rfl ?_
                    refine r_iload_n K dX8_makes_81 rfl ?_
                    refine r_iload K dX8_makes_82 rfl ?_
                    refine r_iload K dX8_makes_84 rfl ?_
                    refine rcV4p K dX8_makes_86 c_X8_128 v_X8_apart (by first | assumption | exact hW.1 _ _ rfl | exact hW.2.2.1 _ _ _ rfl) (k_apart (a := a) (b := b) (i := d) (p := e) hW hVJ (by omega) (by omega)) (by decide) (Nat.le_of_ble_eq_true rfl) ?_
                    rw [eA, eB]
                    refine r_icmp_ne K 109 dX8_makes_89 (by decide) (fun c89 => ?_) (fun c89 => ?_)
                    · refine r_iconst K dX8_makes_109 ?_
                      refine r_istore K dX8_makes_110 (by decide) ?_
                      first
                      | exact j112 0 (by rw [show d = n by omega, rn_n])
                      | exact j112 0 (by rw [rn_eq (by omega), if_neg (by omega)])
                      | exact j112 _ (rv1 (by omega) (by omega) (by omega) (by omega) c89)
                      | exact j112 1 (rv2 (by omega) (by omega) (fun q1 q2 q3 => c89 q3))
                      | exact j112 1 (rv2 (by omega) (by omega) (fun q1 q2 q3 => by omega))
                    · refine r_iconst K dX8_makes_92 ?_
                      refine r_aload_n K dX8_makes_93 rfl ?_
                      refine r_iload K dX8_makes_94 rfl ?_
                      refine r_iconst K dX8_makes_96 ?_
                      refine r_iadd K dX8_makes_97 ?_
                      refine r_iload K dX8_makes_98 rfl ?_
                      refine r_iconst K dX8_makes_100 ?_
                      refine r_iadd K dX8_makes_101 ?_
                      refine rcV2p K dX8_makes_102 c_X8_132 v_X8_runAt (by first | assumption | exact hW.1 _ _ rfl | exact hW.2.2.1 _ _ _ rfl) (k_runAt (i := d + 1) (p := e + 1) hW (by omega)) (by decide) (Nat.le_of_ble_eq_true rfl) ?_
                      rw [hh.2.1 (d + 1) (e + 1) (Nat.le_refl _) (by omega) (by omega)]
                      have hri := rn_in (mBy I a) (mBy I b) m n (d + 1) (e + 1)
                      refine r_iadd K dX8_makes_105 ?_
                      refine r_goto K 110 dX8_makes_106 (by decide) ?_
                      refine r_istore K dX8_makes_110 (by decide) ?_
                      first
                      | exact j112 0 (by rw [show d = n by omega, rn_n])
                      | exact j112 0 (by rw [rn_eq (by omega), if_neg (by omega)])
                      | exact j112 _ (rv1 (by omega) (by omega) (by omega) (by omega) c89)
                      | exact j112 1 (rv2 (by omega) (by omega) (fun q1 q2 q3 => c89 q3))
                      | exact j112 1 (rv2 (by omega) (by omega) (fun q1 q2 q3 => by omega))
      refine r_iload K dX8_makes_18 rfl ?_
      refine r_if_lt K 139 dX8_makes_20 (by decide) (fun c20 => ?_) (fun c20 => ?_)
      · exact absurd c20 (by omega)
      · refine r_iload K dX8_makes_23 rfl ?_
        refine r_istore K dX8_makes_25 (by decide) ?_
        exact inner (m + 1) _ _ _ J (Nat.le_refl _) (by omega) ⟨hh.1, hh.2.1, fun p p1 p2 => absurd p1 (by omega)⟩
  refine r_aload_n K dX8_makes_0 rfl ?_
  refine r_getR K dX8_makes_1 f_X8_16 rfl (by first | assumption | exact hW.1 _ _ rfl | exact hW.2.2.1 _ _ _ rfl) (by first | assumption | exact hW.1 _ _ rfl | exact hW.2.2.1 _ _ _ rfl) ?_
  refine r_iload_n K dX8_makes_4 rfl ?_
  refine r_iald K dX8_makes_5 (by first | assumption | exact hW.1 _ _ rfl | exact hW.2.2.1 _ _ _ rfl) (by omega) (by omega) ?_
  rw [Int.toNat_natCast, hnn]
  refine r_istore_n K dX8_makes_6 (by decide) ?_
  refine r_aload_n K dX8_makes_7 rfl ?_
  refine r_getR K dX8_makes_8 f_X8_16 rfl (by first | assumption | exact hW.1 _ _ rfl | exact hW.2.2.1 _ _ _ rfl) (by first | assumption | exact hW.1 _ _ rfl | exact hW.2.2.1 _ _ _ rfl) ?_
  refine r_iload_n K dX8_makes_11 rfl ?_
  refine r_iald K dX8_makes_12 (by first | assumption | exact hW.1 _ _ rfl | exact hW.2.2.1 _ _ _ rfl) (by omega) (by omega) ?_
  rw [Int.toNat_natCast, hm]
  refine r_istore K dX8_makes_13 (by decide) ?_
  refine r_iload_n K dX8_makes_15 rfl ?_
  refine r_istore K dX8_makes_16 (by decide) ?_
  exact loop (n + 1) _ _ _ _ I (Nat.le_refl _) (by omega) ⟨fun _ _ => rfl, fun i p h1 h2 => absurd h1 (by omega), fun p p1 p2 => absurd p1 (by omega)⟩
end MO4
