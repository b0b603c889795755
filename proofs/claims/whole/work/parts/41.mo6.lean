section MO6
variable {T L : Nat → Nat} {P : Nat → Nat → Option Nat} {I : Nat → Nat → Int} {hn : Nat}
theorem mpos_ge {s b : Nat → Int} {n N : Nat} (hn : n ≤ 120) (hN : ∀ k, k < N → mpos s b n k < n) : ∀ k, k ≤ N → k ≤ mpos s b n k ∧ 0 ≤ mcost s b n k ∧ mcost s b n k ≤ 3 + 5 * (mpos s b n k : Int)
  | 0, _ => ⟨Nat.zero_le _, by simp [mcost], by simp [mcost, mpos]⟩
  | k + 1, hk => by
    have h1 := mpos_ge hn hN k (by omega)
    have h2 := mch_ok (s := s) (b := b) (hN k (by omega)) hn
    rw [mpos, mcost]
    have h3 : 0 ≤ spr (mch s b n (mpos s b n k)).1 (mch s b n (mpos s b n k)).2.1 ∧ spr (mch s b n (mpos s b n k)).1 (mch s b n (mpos s b n k)).2.1 ≤ 5 * (mch s b n (mpos s b n k)).2.1 := by
      unfold spr
      split
      · omega
      · split <;> omega
    omega
/-- the melted patch's steps, for the model -/
def mg (I : Nat → Nat → Int) (s b : Nat → Int) (n k : Nat) (J : Nat → Nat → Int) : Prop := (∀ c, c ≠ 54 → c < 68 ∨ 71 < c → J c = I c) ∧ (∀ j, j ≠ 20 → J 54 j = I 54 j) ∧ J 54 20 = k ∧ ∀ k', k' < k → (J 68 k', J 69 k', J 70 k', J 71 k') = mch s b n (mpos s b n k')
theorem mg.next {s b : Nat → Int} {n k : Nat} {J : Nat → Nat → Int} {t0 t1 t2 t3 : Int} (h : mg I s b n k J) (ht : (t0, t1, t2, t3) = mch s b n (mpos s b n k)) : mg I s b n (k + 1) (mI (mI (mI (mI (mI J 68 k t0) 69 k t1) 70 k t2) 71 k t3) 54 20 ((k : Int) + 1)) := by
  obtain ⟨h1, h2, h3, h4⟩ := h
  refine ⟨fun c c1 c2 => by rw [mI_ne c1, mI_ne (by omega), mI_ne (by omega), mI_ne (by omega), mI_ne (by omega)]; exact h1 c c1 c2, fun j hj => by rw [mI_nj hj, mI_ne (by decide), mI_ne (by decide), mI_ne (by decide), mI_ne (by decide)]; exact h2 j hj, by rw [mI_eq]; rfl, fun k' hk => ?_⟩
  have g0 : mI (mI (mI (mI (mI J 68 k t0) 69 k t1) 70 k t2) 71 k t3) 54 20 ((k : Int) + 1) 68 k' = if k' = k then t0 else J 68 k' := by rw [mI_ne (by decide), mI_ne (by decide), mI_ne (by decide), mI_ne (by decide), mI_row]
  have g1 : mI (mI (mI (mI (mI J 68 k t0) 69 k t1) 70 k t2) 71 k t3) 54 20 ((k : Int) + 1) 69 k' = if k' = k then t1 else J 69 k' := by rw [mI_ne (by decide), mI_ne (by decide), mI_ne (by decide), mI_row, mI_ne (by decide)]
  have g2 : mI (mI (mI (mI (mI J 68 k t0) 69 k t1) 70 k t2) 71 k t3) 54 20 ((k : Int) + 1) 70 k' = if k' = k then t2 else J 70 k' := by rw [mI_ne (by decide), mI_ne (by decide), mI_row, mI_ne (by decide), mI_ne (by decide)]
  have g3 : mI (mI (mI (mI (mI J 68 k t0) 69 k t1) 70 k t2) 71 k t3) 54 20 ((k : Int) + 1) 71 k' = if k' = k then t3 else J 71 k' := by rw [mI_ne (by decide), mI_row, mI_ne (by decide), mI_ne (by decide), mI_ne (by decide)]
  rw [g0, g1, g2, g3]
  by_cases e : k' = k
  · rw [if_pos e, if_pos e, if_pos e, if_pos e, e]; exact ht
  · rw [if_neg e, if_neg e, if_neg e, if_neg e]; exact h4 k' (by omega)
abbrev KL (X : Cx) (Y : SY) : Prop := OK X Y cX8_melt yX8_melt.cls 9 (some .int) (rm_ 4 102 0 0) yX8_melt.name
def mgP (I : Nat → Nat → Int) (s b : Nat → Int) (n : Nat) (z : Int) (J : Nat → Nat → Int) : Prop := ∃ N, mpos s b n N = n ∧ (∀ k, k < N → mpos s b n k < n) ∧ z = mcost s b n N ∧ mg I s b n N J
set_option maxHeartbeats 4000000 in
set_option maxRecDepth 100000 in
theorem ml4 {X : Cx} {Y : SY} {Q : State → Prop} {post : Po} (K : KL X Y) (hQ : Q = QM X Y post 0 0) {s b : Nat → Int} {n : Nat} {va vb vc : Int} (hW : Wd T L P) (hn1 : n ≤ 120) (h64 : ∀ x, x < n → I 64 x = s x ∧ -1 ≤ s x ∧ s x < 120) (h65 : ∀ x, x < n → I 65 x = b x) (hb0 : ∀ x, x < n → s x = -1 → b x = 0) (hpost : ∀ (z : Int) (J : Nat → Nat → Int), mgP I s b n z J → post (some (.inl z)) T L P J hn) : ∀ (d k : Nat) (sm z : Int) (g7 g8 : Option PV) (J : Nat → Nat → Int), n - mpos s b n k ≤ d → mpos s b n k ≤ n → (∀ k', k' < k → mpos s b n k' < n) → sm = mcost s b n k → z = (mpos s b n k : Nat) → mg I s b n k J → RR X Y Q 0 0 195 [some (.inr (some 54)), some (.inl va), some (.inl vb), some (.inl vc), some (.inl (n : Int)), some (.inl sm), some (.inl z), g7, g8] [] T L P J hn := by
  have l64 : L 64 = 120 := hW.2.1 64 120 rfl (by decide)
  have l65 : L 65 = 120 := hW.2.1 65 120 rfl (by decide)
  have l68 : L 68 = 120 := hW.2.1 68 120 rfl (by decide)
  have l69 : L 69 = 120 := hW.2.1 69 120 rfl (by decide)
  have l70 : L 70 = 120 := hW.2.1 70 120 rfl (by decide)
  have l71 : L 71 = 120 := hW.2.1 71 120 rfl (by decide)
  intro d
  induction d with
  | zero =>
    intro k sm z g7 g8 J hd hk hN hs hz hh
    subst hz
    refine r_iload K dX8_melt_195 rfl ?_
    refine r_iload K dX8_melt_197 rfl ?_
    refine r_icmp_ge K 462 dX8_melt_199 (by decide) (fun c199 => ?_) (fun c199 => ?_)
    · refine r_iload K dX8_melt_462 rfl ?_
      exact q_iret K hQ rfl dX8_melt_464 (Nat.le_refl _) (Nat.le_refl _) (hpost _ _ ⟨k, by omega, hN, hs, hh⟩)
    · exact absurd c199 (by omega)
  | succ d ih =>
    intro k sm z g7 g8 J hd hk hN hs hz hh
    subst hz
    have e20 := hh.2.2.1
    have e64 : ∀ x, x < n → J 64 x = s x := fun x hx => by rw [hh.1 64 (by decide) (by decide)]; exact (h64 x hx).1
    have e65 : ∀ x, x < n → J 65 x = b x := fun x hx => by rw [hh.1 65 (by decide) (by decide)]; exact h65 x hx
    have hkb := mpos_ge hn1 hN k (Nat.le_refl _)
    have j324 : mpos s b n k < n → ∀ (len : Nat) (ad : Int), (s (mpos s b n k) = -1 ∧ ad = 1 ∧ len = lng (cAd s n (mpos s b n k)) 120 1) ∨ (s (mpos s b n k) ≠ -1 ∧ ad = 0 ∧ len = lng (cAl s b n (mpos s b n k)) 120 1) → RR X Y Q 0 0 324 [some (.inr (some 54)), some (.inl va), some (.inl vb), some (.inl vc), some (.inl (n : Int)), some (.inl sm), some (.inl ((mpos s b n k : Nat) : Int)), some (.inl (len : Int)), some (.inl ad)] [] T L P J hn := by
      intro hin len ad hor
      have hok := mch_ok (s := s) (b := b) hin hn1
      rcases hor with ⟨w1, rfl, w3⟩ | ⟨w1, rfl, w3⟩
      · have hb := hb0 _ hin w1
        have em : mch s b n (mpos s b n k) = (2, (len : Int), ((mpos s b n k : Nat) : Int), b (mpos s b n k)) := by rw [mch, if_pos w1, w3, hb]
        have hle : 1 ≤ (len : Int) ∧ ((mpos s b n k : Nat) : Int) + len ≤ n := by rw [em] at hok; exact hok.2
        refine r_aload_n K dX8_melt_324 rfl ?_
        refine r_getR K dX8_melt_325 f_X8_50 rfl (by first | assumption | exact hW.1 _ _ rfl | exact hW.2.2.1 _ _ _ rfl) (by first | assumption | exact hW.1 _ _ rfl | exact hW.2.2.1 _ _ _ rfl) ?_
        refine r_aload_n K dX8_melt_328 rfl ?_
        refine r_getI K dX8_melt_329 f_X8_156 rfl (by first | assumption | exact hW.1 _ _ rfl | exact hW.2.2.1 _ _ _ rfl) ?_
        rw [e20]
        refine r_iload K dX8_melt_332 rfl ?_
        refine r_if_eq K 341 dX8_melt_334 (by decide) (fun c334 => ?_) (fun c334 => ?_)
        · exact absurd c334 (by omega)
        · refine r_iconst K dX8_melt_337 ?_
          refine r_goto K 356 dX8_melt_338 (by decide) ?_
          refine r_iast K dX8_melt_356 (by first | assumption | exact hW.1 _ _ rfl | exact hW.2.2.1 _ _ _ rfl) (by omega) (by omega) ?_
          rw [Int.toNat_natCast]
          refine r_aload_n K dX8_melt_357 rfl ?_
          refine r_getR K dX8_melt_358 f_X8_53 rfl (by first | assumption | exact hW.1 _ _ rfl | exact hW.2.2.1 _ _ _ rfl) (by first | assumption | exact hW.1 _ _ rfl | exact hW.2.2.1 _ _ _ rfl) ?_
          refine r_aload_n K dX8_melt_361 rfl ?_
          refine r_getI K dX8_melt_362 f_X8_156 rfl (by first | assumption | exact hW.1 _ _ rfl | exact hW.2.2.1 _ _ _ rfl) ?_
          rw [mI_ne (by decide), e20]
          refine r_iload K dX8_melt_365 rfl ?_
          refine r_iast K dX8_melt_367 (by first | assumption | exact hW.1 _ _ rfl | exact hW.2.2.1 _ _ _ rfl) (by omega) (by omega) ?_
          rw [Int.toNat_natCast]
          refine r_aload_n K dX8_melt_368 rfl ?_
          refine r_getR K dX8_melt_369 f_X8_56 rfl (by first | assumption | exact hW.1 _ _ rfl | exact hW.2.2.1 _ _ _ rfl) (by first | assumption | exact hW.1 _ _ rfl | exact hW.2.2.1 _ _ _ rfl) ?_
          refine r_aload_n K dX8_melt_372 rfl ?_
          refine r_getI K dX8_melt_373 f_X8_156 rfl (by first | assumption | exact hW.1 _ _ rfl | exact hW.2.2.1 _ _ _ rfl) ?_
          rw [mI_ne (by decide), mI_ne (by decide), e20]
          refine r_iload K dX8_melt_376 rfl ?_
          refine r_if_eq K 386 dX8_melt_378 (by decide) (fun c378 => ?_) (fun c378 => ?_)
          · exact absurd c378 (by omega)
          · refine r_iload K dX8_melt_381 rfl ?_
            refine r_goto K 393 dX8_melt_383 (by decide) ?_
            refine r_iast K dX8_melt_393 (by first | assumption | exact hW.1 _ _ rfl | exact hW.2.2.1 _ _ _ rfl) (by omega) (by omega) ?_
            rw [Int.toNat_natCast]
            refine r_aload_n K dX8_melt_394 rfl ?_
            refine r_getR K dX8_melt_395 f_X8_59 rfl (by first | assumption | exact hW.1 _ _ rfl | exact hW.2.2.1 _ _ _ rfl) (by first | assumption | exact hW.1 _ _ rfl | exact hW.2.2.1 _ _ _ rfl) ?_
            refine r_aload_n K dX8_melt_398 rfl ?_
            refine r_getI K dX8_melt_399 f_X8_156 rfl (by first | assumption | exact hW.1 _ _ rfl | exact hW.2.2.1 _ _ _ rfl) ?_
            rw [mI_ne (by decide), mI_ne (by decide), mI_ne (by decide), e20]
            refine r_aload_n K dX8_melt_402 rfl ?_
            refine r_getR K dX8_melt_403 f_X8_41 rfl (by first | assumption | exact hW.1 _ _ rfl | exact hW.2.2.1 _ _ _ rfl) (by first | assumption | exact hW.1 _ _ rfl | exact hW.2.2.1 _ _ _ rfl) ?_
            refine r_iload K dX8_melt_406 rfl ?_
            refine r_iald K dX8_melt_408 (by first | assumption | exact hW.1 _ _ rfl | exact hW.2.2.1 _ _ _ rfl) (by omega) (by omega) ?_
            rw [mI_ne (by decide), mI_ne (by decide), mI_ne (by decide), Int.toNat_natCast, e65 _ hin]
            refine r_iast K dX8_melt_409 (by first | assumption | exact hW.1 _ _ rfl | exact hW.2.2.1 _ _ _ rfl) (by omega) (by omega) ?_
            rw [Int.toNat_natCast]
            refine r_iload K dX8_melt_410 rfl ?_
            refine r_iload K dX8_melt_412 rfl ?_
            refine r_if_eq K 424 dX8_melt_414 (by decide) (fun c414 => ?_) (fun c414 => ?_)
            · exact absurd c414 (by omega)
            · refine r_iconst K dX8_melt_417 ?_
              refine r_iload K dX8_melt_418 rfl ?_
              refine r_iadd K dX8_melt_420 ?_
              refine r_goto K 439 dX8_melt_421 (by decide) ?_
              refine r_iadd K dX8_melt_439 ?_
              refine r_istore K dX8_melt_440 (by decide) ?_
              refine r_aload_n K dX8_melt_442 rfl ?_
              refine r_dup K dX8_melt_443 ?_
              refine r_getI K dX8_melt_444 f_X8_156 rfl (by first | assumption | exact hW.1 _ _ rfl | exact hW.2.2.1 _ _ _ rfl) ?_
              rw [mI_ne (by decide), mI_ne (by decide), mI_ne (by decide), mI_ne (by decide), e20]
              refine r_iconst K dX8_melt_447 ?_
              refine r_iadd K dX8_melt_448 ?_
              refine r_putI K dX8_melt_449 f_X8_156 rfl rfl (Or.inl rfl) (by first | assumption | exact hW.1 _ _ rfl | exact hW.2.2.1 _ _ _ rfl) ?_
              refine r_iload K dX8_melt_452 rfl ?_
              refine r_iload K dX8_melt_454 rfl ?_
              refine r_iadd K dX8_melt_456 ?_
              refine r_istore K dX8_melt_457 (by decide) ?_
              refine r_goto K 195 dX8_melt_459 (by decide) ?_
              have hp1 : mpos s b n (k + 1) = mpos s b n k + len := by rw [mpos, em]; show mpos s b n k + ((len : Int)).toNat = _; rw [Int.toNat_natCast]
              refine ih (k + 1) _ _ _ _ _ (by rw [hp1]; omega) (by rw [hp1]; omega) (fun k' hk' => ?_) (by rw [mcost, em, hs]; rfl) (by rw [hp1]; omega) (hh.next em.symm)
              rcases Nat.lt_or_ge k' k with w | w
              · exact hN k' w
              · rw [show k' = k by omega]; exact hin
      · by_cases hb : b (mpos s b n k) = 0
        · have em : mch s b n (mpos s b n k) = (0, (len : Int), s (mpos s b n k), b (mpos s b n k)) := by rw [mch, if_neg w1, w3, if_pos hb]
          have hle : 1 ≤ (len : Int) ∧ ((mpos s b n k : Nat) : Int) + len ≤ n := by rw [em] at hok; exact hok.2
          refine r_aload_n K dX8_melt_324 rfl ?_
          refine r_getR K dX8_melt_325 f_X8_50 rfl (by first | assumption | exact hW.1 _ _ rfl | exact hW.2.2.1 _ _ _ rfl) (by first | assumption | exact hW.1 _ _ rfl | exact hW.2.2.1 _ _ _ rfl) ?_
          refine r_aload_n K dX8_melt_328 rfl ?_
          refine r_getI K dX8_melt_329 f_X8_156 rfl (by first | assumption | exact hW.1 _ _ rfl | exact hW.2.2.1 _ _ _ rfl) ?_
          rw [e20]
          refine r_iload K dX8_melt_332 rfl ?_
          refine r_if_eq K 341 dX8_melt_334 (by decide) (fun c334 => ?_) (fun c334 => ?_)
          · refine r_aload_n K dX8_melt_341 rfl ?_
            refine r_getR K dX8_melt_342 f_X8_41 rfl (by first | assumption | exact hW.1 _ _ rfl | exact hW.2.2.1 _ _ _ rfl) (by first | assumption | exact hW.1 _ _ rfl | exact hW.2.2.1 _ _ _ rfl) ?_
            refine r_iload K dX8_melt_345 rfl ?_
            refine r_iald K dX8_melt_347 (by first | assumption | exact hW.1 _ _ rfl | exact hW.2.2.1 _ _ _ rfl) (by omega) (by omega) ?_
            rw [Int.toNat_natCast, e65 _ hin]
            refine r_if_ne K 355 dX8_melt_348 (by decide) (fun c348 => ?_) (fun c348 => ?_)
            · exact absurd hb c348
            · refine r_iconst K dX8_melt_351 ?_
              refine r_goto K 356 dX8_melt_352 (by decide) ?_
              refine r_iast K dX8_melt_356 (by first | assumption | exact hW.1 _ _ rfl | exact hW.2.2.1 _ _ _ rfl) (by omega) (by omega) ?_
              rw [Int.toNat_natCast]
              refine r_aload_n K dX8_melt_357 rfl ?_
              refine r_getR K dX8_melt_358 f_X8_53 rfl (by first | assumption | exact hW.1 _ _ rfl | exact hW.2.2.1 _ _ _ rfl) (by first | assumption | exact hW.1 _ _ rfl | exact hW.2.2.1 _ _ _ rfl) ?_
              refine r_aload_n K dX8_melt_361 rfl ?_
              refine r_getI K dX8_melt_362 f_X8_156 rfl (by first | assumption | exact hW.1 _ _ rfl | exact hW.2.2.1 _ _ _ rfl) ?_
              rw [mI_ne (by decide), e20]
              refine r_iload K dX8_melt_365 rfl ?_
              refine r_iast K dX8_melt_367 (by first | assumption | exact hW.1 _ _ rfl | exact hW.2.2.1 _ _ _ rfl) (by omega) (by omega) ?_
              rw [Int.toNat_natCast]
              refine r_aload_n K dX8_melt_368 rfl ?_
              refine r_getR K dX8_melt_369 f_X8_56 rfl (by first | assumption | exact hW.1 _ _ rfl | exact hW.2.2.1 _ _ _ rfl) (by first | assumption | exact hW.1 _ _ rfl | exact hW.2.2.1 _ _ _ rfl) ?_
              refine r_aload_n K dX8_melt_372 rfl ?_
              refine r_getI K dX8_melt_373 f_X8_156 rfl (by first | assumption | exact hW.1 _ _ rfl | exact hW.2.2.1 _ _ _ rfl) ?_
              rw [mI_ne (by decide), mI_ne (by decide), e20]
              refine r_iload K dX8_melt_376 rfl ?_
              refine r_if_eq K 386 dX8_melt_378 (by decide) (fun c378 => ?_) (fun c378 => ?_)
              · refine r_aload_n K dX8_melt_386 rfl ?_
                refine r_getR K dX8_melt_387 f_X8_38 rfl (by first | assumption | exact hW.1 _ _ rfl | exact hW.2.2.1 _ _ _ rfl) (by first | assumption | exact hW.1 _ _ rfl | exact hW.2.2.1 _ _ _ rfl) ?_
                refine r_iload K dX8_melt_390 rfl ?_
                refine r_iald K dX8_melt_392 (by first | assumption | exact hW.1 _ _ rfl | exact hW.2.2.1 _ _ _ rfl) (by omega) (by omega) ?_
                rw [mI_ne (by decide), mI_ne (by decide), Int.toNat_natCast, e64 _ hin]
                refine r_iast K dX8_melt_393 (by first | assumption | exact hW.1 _ _ rfl | exact hW.2.2.1 _ _ _ rfl) (by omega) (by omega) ?_
                rw [Int.toNat_natCast]
                refine r_aload_n K dX8_melt_394 rfl ?_
                refine r_getR K dX8_melt_395 f_X8_59 rfl (by first | assumption | exact hW.1 _ _ rfl | exact hW.2.2.1 _ _ _ rfl) (by first | assumption | exact hW.1 _ _ rfl | exact hW.2.2.1 _ _ _ rfl) ?_
                refine r_aload_n K dX8_melt_398 rfl ?_
                refine r_getI K dX8_melt_399 f_X8_156 rfl (by first | assumption | exact hW.1 _ _ rfl | exact hW.2.2.1 _ _ _ rfl) ?_
                rw [mI_ne (by decide), mI_ne (by decide), mI_ne (by decide), e20]
                refine r_aload_n K dX8_melt_402 rfl ?_
                refine r_getR K dX8_melt_403 f_X8_41 rfl (by first | assumption | exact hW.1 _ _ rfl | exact hW.2.2.1 _ _ _ rfl) (by first | assumption | exact hW.1 _ _ rfl | exact hW.2.2.1 _ _ _ rfl) ?_
                refine r_iload K dX8_melt_406 rfl ?_
                refine r_iald K dX8_melt_408 (by first | assumption | exact hW.1 _ _ rfl | exact hW.2.2.1 _ _ _ rfl) (by omega) (by omega) ?_
                rw [mI_ne (by decide), mI_ne (by decide), mI_ne (by decide), Int.toNat_natCast, e65 _ hin]
                refine r_iast K dX8_melt_409 (by first | assumption | exact hW.1 _ _ rfl | exact hW.2.2.1 _ _ _ rfl) (by omega) (by omega) ?_
                rw [Int.toNat_natCast]
                refine r_iload K dX8_melt_410 rfl ?_
                refine r_iload K dX8_melt_412 rfl ?_
                refine r_if_eq K 424 dX8_melt_414 (by decide) (fun c414 => ?_) (fun c414 => ?_)
                · refine r_aload_n K dX8_melt_424 rfl ?_
                  refine r_getR K dX8_melt_425 f_X8_41 rfl (by first | assumption | exact hW.1 _ _ rfl | exact hW.2.2.1 _ _ _ rfl) (by first | assumption | exact hW.1 _ _ rfl | exact hW.2.2.1 _ _ _ rfl) ?_
                  refine r_iload K dX8_melt_428 rfl ?_
                  refine r_iald K dX8_melt_430 (by first | assumption | exact hW.1 _ _ rfl | exact hW.2.2.1 _ _ _ rfl) (by omega) (by omega) ?_
                  rw [mI_ne (by decide), mI_ne (by decide), mI_ne (by decide), mI_ne (by decide), Int.toNat_natCast, e65 _ hin]
                  refine r_if_ne K 438 dX8_melt_431 (by decide) (fun c431 => ?_) (fun c431 => ?_)
                  · exact absurd hb c431
                  · refine r_iconst K dX8_melt_434 ?_
                    refine r_goto K 439 dX8_melt_435 (by decide) ?_
                    refine r_iadd K dX8_melt_439 ?_
                    refine r_istore K dX8_melt_440 (by decide) ?_
                    refine r_aload_n K dX8_melt_442 rfl ?_
                    refine r_dup K dX8_melt_443 ?_
                    refine r_getI K dX8_melt_444 f_X8_156 rfl (by first | assumption | exact hW.1 _ _ rfl | exact hW.2.2.1 _ _ _ rfl) ?_
                    rw [mI_ne (by decide), mI_ne (by decide), mI_ne (by decide), mI_ne (by decide), e20]
                    refine r_iconst K dX8_melt_447 ?_
                    refine r_iadd K dX8_melt_448 ?_
                    refine r_putI K dX8_melt_449 f_X8_156 rfl rfl (Or.inl rfl) (by first | assumption | exact hW.1 _ _ rfl | exact hW.2.2.1 _ _ _ rfl) ?_
                    refine r_iload K dX8_melt_452 rfl ?_
                    refine r_iload K dX8_melt_454 rfl ?_
                    refine r_iadd K dX8_melt_456 ?_
                    refine r_istore K dX8_melt_457 (by decide) ?_
                    refine r_goto K 195 dX8_melt_459 (by decide) ?_
                    have hp1 : mpos s b n (k + 1) = mpos s b n k + len := by rw [mpos, em]; show mpos s b n k + ((len : Int)).toNat = _; rw [Int.toNat_natCast]
                    refine ih (k + 1) _ _ _ _ _ (by rw [hp1]; omega) (by rw [hp1]; omega) (fun k' hk' => ?_) (by rw [mcost, em, hs]; rfl) (by rw [hp1]; omega) (hh.next em.symm)
                    rcases Nat.lt_or_ge k' k with w | w
                    · exact hN k' w
                    · rw [show k' = k by omega]; exact hin
                · exact absurd c414 (by omega)
              · exact absurd c378 (by omega)
          · exact absurd c334 (by omega)
        · have em : mch s b n (mpos s b n k) = (1, (len : Int), s (mpos s b n k), b (mpos s b n k)) := by rw [mch, if_neg w1, w3, if_neg hb]
          have hle : 1 ≤ (len : Int) ∧ ((mpos s b n k : Nat) : Int) + len ≤ n := by rw [em] at hok; exact hok.2
          refine r_aload_n K dX8_melt_324 rfl ?_
          refine r_getR K dX8_melt_325 f_X8_50 rfl (by first | assumption | exact hW.1 _ _ rfl | exact hW.2.2.1 _ _ _ rfl) (by first | assumption | exact hW.1 _ _ rfl | exact hW.2.2.1 _ _ _ rfl) ?_
          refine r_aload_n K dX8_melt_328 rfl ?_
          refine r_getI K dX8_melt_329 f_X8_156 rfl (by first | assumption | exact hW.1 _ _ rfl | exact hW.2.2.1 _ _ _ rfl) ?_
          rw [e20]
          refine r_iload K dX8_melt_332 rfl ?_
          refine r_if_eq K 341 dX8_melt_334 (by decide) (fun c334 => ?_) (fun c334 => ?_)
          · refine r_aload_n K dX8_melt_341 rfl ?_
            refine r_getR K dX8_melt_342 f_X8_41 rfl (by first | assumption | exact hW.1 _ _ rfl | exact hW.2.2.1 _ _ _ rfl) (by first | assumption | exact hW.1 _ _ rfl | exact hW.2.2.1 _ _ _ rfl) ?_
            refine r_iload K dX8_melt_345 rfl ?_
            refine r_iald K dX8_melt_347 (by first | assumption | exact hW.1 _ _ rfl | exact hW.2.2.1 _ _ _ rfl) (by omega) (by omega) ?_
            rw [Int.toNat_natCast, e65 _ hin]
            refine r_if_ne K 355 dX8_melt_348 (by decide) (fun c348 => ?_) (fun c348 => ?_)
            · refine r_iconst K dX8_melt_355 ?_
              refine r_iast K dX8_melt_356 (by first | assumption | exact hW.1 _ _ rfl | exact hW.2.2.1 _ _ _ rfl) (by omega) (by omega) ?_
              rw [Int.toNat_natCast]
              refine r_aload_n K dX8_melt_357 rfl ?_
              refine r_getR K dX8_melt_358 f_X8_53 rfl (by first | assumption | exact hW.1 _ _ rfl | exact hW.2.2.1 _ _ _ rfl) (by first | assumption | exact hW.1 _ _ rfl | exact hW.2.2.1 _ _ _ rfl) ?_
              refine r_aload_n K dX8_melt_361 rfl ?_
              refine r_getI K dX8_melt_362 f_X8_156 rfl (by first | assumption | exact hW.1 _ _ rfl | exact hW.2.2.1 _ _ _ rfl) ?_
              rw [mI_ne (by decide), e20]
              refine r_iload K dX8_melt_365 rfl ?_
              refine r_iast K dX8_melt_367 (by first | assumption | exact hW.1 _ _ rfl | exact hW.2.2.1 _ _ _ rfl) (by omega) (by omega) ?_
              rw [Int.toNat_natCast]
              refine r_aload_n K dX8_melt_368 rfl ?_
              refine r_getR K dX8_melt_369 f_X8_56 rfl (by first | assumption | exact hW.1 _ _ rfl | exact hW.2.2.1 _ _ _ rfl) (by first | assumption | exact hW.1 _ _ rfl | exact hW.2.2.1 _ _ _ rfl) ?_
              refine r_aload_n K dX8_melt_372 rfl ?_
              refine r_getI K dX8_melt_373 f_X8_156 rfl (by first | assumption | exact hW.1 _ _ rfl | exact hW.2.2.1 _ _ _ rfl) ?_
              rw [mI_ne (by decide), mI_ne (by decide), e20]
              refine r_iload K dX8_melt_376 rfl ?_
              refine r_if_eq K 386 dX8_melt_378 (by decide) (fun c378 => ?_) (fun c378 => ?_)
              · refine r_aload_n K dX8_melt_386 rfl ?_
                refine r_getR K dX8_melt_387 f_X8_38 rfl (by first | assumption | exact hW.1 _ _ rfl | exact hW.2.2.1 _ _ _ rfl) (by first | assumption | exact hW.1 _ _ rfl | exact hW.2.2.1 _ _ _ rfl) ?_
                refine r_iload K dX8_melt_390 rfl ?_
                refine r_iald K dX8_melt_392 (by first | assumption | exact hW.1 _ _ rfl | exact hW.2.2.1 _ _ _ rfl) (by omega) (by omega) ?_
                rw [mI_ne (by decide), mI_ne (by decide), Int.toNat_natCast, e64 _ hin]
                refine r_iast K dX8_melt_393 (by first | assumption | exact hW.1 _ _ rfl | exact hW.2.2.1 _ _ _ rfl) (by omega) (by omega) ?_
                rw [Int.toNat_natCast]
                refine r_aload_n K dX8_melt_394 rfl ?_
                refine r_getR K dX8_melt_395 f_X8_59 rfl (by first | assumption | exact hW.1 _ _ rfl | exact hW.2.2.1 _ _ _ rfl) (by first | assumption | exact hW.1 _ _ rfl | exact hW.2.2.1 _ _ _ rfl) ?_
                refine r_aload_n K dX8_melt_398 rfl ?_
                refine r_getI K dX8_melt_399 f_X8_156 rfl (by first | assumption | exact hW.1 _ _ rfl | exact hW.2.2.1 _ _ _ rfl) ?_
                rw [mI_ne (by decide), mI_ne (by decide), mI_ne (by decide), e20]
                refine r_aload_n K dX8_melt_402 rfl ?_
                refine r_getR K dX8_melt_403 f_X8_41 rfl (by first | assumption | exact hW.1 _ _ rfl | exact hW.2.2.1 _ _ _ rfl) (by first | assumption | exact hW.1 _ _ rfl | exact hW.2.2.1 _ _ _ rfl) ?_
                refine r_iload K dX8_melt_406 rfl ?_
                refine r_iald K dX8_melt_408 (by first | assumption | exact hW.1 _ _ rfl | exact hW.2.2.1 _ _ _ rfl) (by omega) (by omega) ?_
                rw [mI_ne (by decide), mI_ne (by decide), mI_ne (by decide), Int.toNat_natCast, e65 _ hin]
                refine r_iast K dX8_melt_409 (by first | assumption | exact hW.1 _ _ rfl | exact hW.2.2.1 _ _ _ rfl) (by omega) (by omega) ?_
                rw [Int.toNat_natCast]
                refine r_iload K dX8_melt_410 rfl ?_
                refine r_iload K dX8_melt_412 rfl ?_
                refine r_if_eq K 424 dX8_melt_414 (by decide) (fun c414 => ?_) (fun c414 => ?_)
                · refine r_aload_n K dX8_melt_424 rfl ?_
                  refine r_getR K dX8_melt_425 f_X8_41 rfl (by first | assumption | exact hW.1 _ _ rfl | exact hW.2.2.1 _ _ _ rfl) (by first | assumption | exact hW.1 _ _ rfl | exact hW.2.2.1 _ _ _ rfl) ?_
                  refine r_iload K dX8_melt_428 rfl ?_
                  refine r_iald K dX8_melt_430 (by first | assumption | exact hW.1 _ _ rfl | exact hW.2.2.1 _ _ _ rfl) (by omega) (by omega) ?_
                  rw [mI_ne (by decide), mI_ne (by decide), mI_ne (by decide), mI_ne (by decide), Int.toNat_natCast, e65 _ hin]
                  refine r_if_ne K 438 dX8_melt_431 (by decide) (fun c431 => ?_) (fun c431 => ?_)
                  · refine r_iconst K dX8_melt_438 ?_
                    refine r_iadd K dX8_melt_439 ?_
                    refine r_istore K dX8_melt_440 (by decide) ?_
                    refine r_aload_n K dX8_melt_442 rfl ?_
                    refine r_dup K dX8_melt_443 ?_
                    refine r_getI K dX8_melt_444 f_X8_156 rfl (by first | assumption | exact hW.1 _ _ rfl | exact hW.2.2.1 _ _ _ rfl) ?_
                    rw [mI_ne (by decide), mI_ne (by decide), mI_ne (by decide), mI_ne (by decide), e20]
                    refine r_iconst K dX8_melt_447 ?_
                    refine r_iadd K dX8_melt_448 ?_
                    refine r_putI K dX8_melt_449 f_X8_156 rfl rfl (Or.inl rfl) (by first | assumption | exact hW.1 _ _ rfl | exact hW.2.2.1 _ _ _ rfl) ?_
                    refine r_iload K dX8_melt_452 rfl ?_
                    refine r_iload K dX8_melt_454 rfl ?_
                    refine r_iadd K dX8_melt_456 ?_
                    refine r_istore K dX8_melt_457 (by decide) ?_
                    refine r_goto K 195 dX8_melt_459 (by decide) ?_
                    have hp1 : mpos s b n (k + 1) = mpos s b n k + len := by rw [mpos, em]; show mpos s b n k + ((len : Int)).toNat = _; rw [Int.toNat_natCast]
                    refine ih (k + 1) _ _ _ _ _ (by rw [hp1]; omega) (by rw [hp1]; omega) (fun k' hk' => ?_) (by rw [mcost, em, hs]; rfl) (by rw [hp1]; omega) (hh.next em.symm)
                    rcases Nat.lt_or_ge k' k with w | w
                    · exact hN k' w
                    · rw [show k' = k by omega]; exact hin
                  · exact absurd c431 hb
                · exact absurd c414 (by omega)
              · exact absurd c378 (by omega)
            · exact absurd c348 hb
          · exact absurd c334 (by omega)
    have loopA : mpos s b n k < n → s (mpos s b n k) = -1 → ∀ (f l : Nat), l + f = 121 → 1 ≤ l → lng (cAd s n (mpos s b n k)) f l = lng (cAd s n (mpos s b n k)) 120 1 → RR X Y Q 0 0 228 [some (.inr (some 54)), some (.inl va), some (.inl vb), some (.inl vc), some (.inl (n : Int)), some (.inl sm), some (.inl ((mpos s b n k : Nat) : Int)), some (.inl (l : Int)), some (.inl 1)] [] T L P J hn := by
      intro hin hsi f
      induction f with
      | zero =>
        intro l hl l1 hg
        refine r_iload K dX8_melt_228 rfl ?_
        refine r_iload K dX8_melt_230 rfl ?_
        refine r_iadd K dX8_melt_232 ?_
        refine r_iload K dX8_melt_233 rfl ?_
        refine r_icmp_ge K 324 dX8_melt_235 (by decide) (fun c235 => ?_) (fun c235 => ?_)
        · exact j324 hin l 1 (Or.inl ⟨hsi, rfl, hg⟩)
        · exact absurd c235 (by omega)
      | succ f ihf =>
        intro l hl l1 hg
        have hout : ¬ cAd s n (mpos s b n k) l = true → l = lng (cAd s n (mpos s b n k)) 120 1 := fun q => by rw [lng, if_neg q] at hg; exact hg
        have hgo : cAd s n (mpos s b n k) l = true → lng (cAd s n (mpos s b n k)) f (l + 1) = lng (cAd s n (mpos s b n k)) 120 1 := fun q => by rw [lng, if_pos q] at hg; exact hg
        refine r_iload K dX8_melt_228 rfl ?_
        refine r_iload K dX8_melt_230 rfl ?_
        refine r_iadd K dX8_melt_232 ?_
        refine r_iload K dX8_melt_233 rfl ?_
        refine r_icmp_ge K 324 dX8_melt_235 (by decide) (fun c235 => ?_) (fun c235 => ?_)
        · first
          | exact j324 hin l 1 (Or.inl ⟨hsi, rfl, hout (fun q => c256 (of_decide_eq_true q).2.2)⟩)
          | exact j324 hin l 1 (Or.inl ⟨hsi, rfl, hout (fun q => absurd (of_decide_eq_true q) (by omega))⟩)
        · refine r_iload K dX8_melt_238 rfl ?_
          refine r_bipush K dX8_melt_240 ?_
          refine r_icmp_ge K 324 dX8_melt_242 (by decide) (fun c242 => ?_) (fun c242 => ?_)
          · first
            | exact j324 hin l 1 (Or.inl ⟨hsi, rfl, hout (fun q => c256 (of_decide_eq_true q).2.2)⟩)
            | exact j324 hin l 1 (Or.inl ⟨hsi, rfl, hout (fun q => absurd (of_decide_eq_true q) (by omega))⟩)
          · refine r_aload_n K dX8_melt_245 rfl ?_
            refine r_getR K dX8_melt_246 f_X8_38 rfl (by first | assumption | exact hW.1 _ _ rfl | exact hW.2.2.1 _ _ _ rfl) (by first | assumption | exact hW.1 _ _ rfl | exact hW.2.2.1 _ _ _ rfl) ?_
            refine r_iload K dX8_melt_249 rfl ?_
            refine r_iload K dX8_melt_251 rfl ?_
            refine r_iadd K dX8_melt_253 ?_
            refine r_iald K dX8_melt_254 (by first | assumption | exact hW.1 _ _ rfl | exact hW.2.2.1 _ _ _ rfl) (by omega) (by omega) ?_
            rw [show (((mpos s b n k : Nat) : Int) + l).toNat = mpos s b n k + l by omega, e64 _ (by omega)]
            refine r_iconst K dX8_melt_255 ?_
            refine r_icmp_ne K 324 dX8_melt_256 (by decide) (fun c256 => ?_) (fun c256 => ?_)
            · first
              | exact j324 hin l 1 (Or.inl ⟨hsi, rfl, hout (fun q => c256 (of_decide_eq_true q).2.2)⟩)
              | exact j324 hin l 1 (Or.inl ⟨hsi, rfl, hout (fun q => absurd (of_decide_eq_true q) (by omega))⟩)
            · refine r_iinc K dX8_melt_259 (by decide) rfl ?_
              refine r_goto K 228 dX8_melt_262 (by decide) ?_
              exact ihf (l + 1) (by omega) (by omega) (hgo (decide_eq_true ⟨by omega, by omega, c256⟩))
    have loopB : mpos s b n k < n → s (mpos s b n k) ≠ -1 → ∀ (f l : Nat), l + f = 121 → 1 ≤ l → lng (cAl s b n (mpos s b n k)) f l = lng (cAl s b n (mpos s b n k)) 120 1 → RR X Y Q 0 0 265 [some (.inr (some 54)), some (.inl va), some (.inl vb), some (.inl vc), some (.inl (n : Int)), some (.inl sm), some (.inl ((mpos s b n k : Nat) : Int)), some (.inl (l : Int)), some (.inl 0)] [] T L P J hn := by
      intro hin hsi f
      have hsb := h64 _ hin
      induction f with
      | zero =>
        intro l hl l1 hg
        refine r_iload K dX8_melt_265 rfl ?_
        refine r_iload K dX8_melt_267 rfl ?_
        refine r_iadd K dX8_melt_269 ?_
        refine r_iload K dX8_melt_270 rfl ?_
        refine r_icmp_ge K 324 dX8_melt_272 (by decide) (fun c272 => ?_) (fun c272 => ?_)
        · exact j324 hin l 0 (Or.inr ⟨hsi, rfl, hg⟩)
        · exact absurd c272 (by omega)
      | succ f ihf =>
        intro l hl l1 hg
        have hout : ¬ cAl s b n (mpos s b n k) l = true → l = lng (cAl s b n (mpos s b n k)) 120 1 := fun q => by rw [lng, if_neg q] at hg; exact hg
        have hgo : cAl s b n (mpos s b n k) l = true → lng (cAl s b n (mpos s b n k)) f (l + 1) = lng (cAl s b n (mpos s b n k)) 120 1 := fun q => by rw [lng, if_pos q] at hg; exact hg
        refine r_iload K dX8_melt_265 rfl ?_
        refine r_iload K dX8_melt_267 rfl ?_
        refine r_iadd K dX8_melt_269 ?_
        refine r_iload K dX8_melt_270 rfl ?_
        refine r_icmp_ge K 324 dX8_melt_272 (by decide) (fun c272 => ?_) (fun c272 => ?_)
        · first
          | exact j324 hin l 0 (Or.inr ⟨hsi, rfl, hout (fun q => c315 (of_decide_eq_true q).2.2)⟩)
          | exact j324 hin l 0 (Or.inr ⟨hsi, rfl, hout (fun q => c295 (of_decide_eq_true q).2.1)⟩)
          | exact j324 hin l 0 (Or.inr ⟨hsi, rfl, hout (fun q => absurd (of_decide_eq_true q).1 (by omega))⟩)
        · refine r_aload_n K dX8_melt_275 rfl ?_
          refine r_getR K dX8_melt_276 f_X8_38 rfl (by first | assumption | exact hW.1 _ _ rfl | exact hW.2.2.1 _ _ _ rfl) (by first | assumption | exact hW.1 _ _ rfl | exact hW.2.2.1 _ _ _ rfl) ?_
          refine r_iload K dX8_melt_279 rfl ?_
          refine r_iload K dX8_melt_281 rfl ?_
          refine r_iadd K dX8_melt_283 ?_
          refine r_iald K dX8_melt_284 (by first | assumption | exact hW.1 _ _ rfl | exact hW.2.2.1 _ _ _ rfl) (by omega) (by omega) ?_
          rw [show (((mpos s b n k : Nat) : Int) + l).toNat = mpos s b n k + l by omega, e64 _ (by omega)]
          refine r_aload_n K dX8_melt_285 rfl ?_
          refine r_getR K dX8_melt_286 f_X8_38 rfl (by first | assumption | exact hW.1 _ _ rfl | exact hW.2.2.1 _ _ _ rfl) (by first | assumption | exact hW.1 _ _ rfl | exact hW.2.2.1 _ _ _ rfl) ?_
          refine r_iload K dX8_melt_289 rfl ?_
          refine r_iald K dX8_melt_291 (by first | assumption | exact hW.1 _ _ rfl | exact hW.2.2.1 _ _ _ rfl) (by omega) (by omega) ?_
          rw [Int.toNat_natCast, e64 _ hin]
          refine r_iload K dX8_melt_292 rfl ?_
          refine r_iadd K dX8_melt_294 ?_
          refine r_icmp_ne K 324 dX8_melt_295 (by decide) (fun c295 => ?_) (fun c295 => ?_)
          · first
            | exact j324 hin l 0 (Or.inr ⟨hsi, rfl, hout (fun q => c315 (of_decide_eq_true q).2.2)⟩)
            | exact j324 hin l 0 (Or.inr ⟨hsi, rfl, hout (fun q => c295 (of_decide_eq_true q).2.1)⟩)
            | exact j324 hin l 0 (Or.inr ⟨hsi, rfl, hout (fun q => absurd (of_decide_eq_true q).1 (by omega))⟩)
          · refine r_aload_n K dX8_melt_298 rfl ?_
            refine r_getR K dX8_melt_299 f_X8_41 rfl (by first | assumption | exact hW.1 _ _ rfl | exact hW.2.2.1 _ _ _ rfl) (by first | assumption | exact hW.1 _ _ rfl | exact hW.2.2.1 _ _ _ rfl) ?_
            refine r_iload K dX8_melt_302 rfl ?_
            refine r_iload K dX8_melt_304 rfl ?_
            refine r_iadd K dX8_melt_306 ?_
            refine r_iald K dX8_melt_307 (by first | assumption | exact hW.1 _ _ rfl | exact hW.2.2.1 _ _ _ rfl) (by omega) (by omega) ?_
            rw [show (((mpos s b n k : Nat) : Int) + l).toNat = mpos s b n k + l by omega, e65 _ (by omega)]
            refine r_aload_n K dX8_melt_308 rfl ?_
            refine r_getR K dX8_melt_309 f_X8_41 rfl (by first | assumption | exact hW.1 _ _ rfl | exact hW.2.2.1 _ _ _ rfl) (by first | assumption | exact hW.1 _ _ rfl | exact hW.2.2.1 _ _ _ rfl) ?_
            refine r_iload K dX8_melt_312 rfl ?_
            refine r_iald K dX8_melt_314 (by first | assumption | exact hW.1 _ _ rfl | exact hW.2.2.1 _ _ _ rfl) (by omega) (by omega) ?_
            rw [Int.toNat_natCast, e65 _ hin]
            refine r_icmp_ne K 324 dX8_melt_315 (by decide) (fun c315 => ?_) (fun c315 => ?_)
            · first
              | exact j324 hin l 0 (Or.inr ⟨hsi, rfl, hout (fun q => c315 (of_decide_eq_true q).2.2)⟩)
              | exact j324 hin l 0 (Or.inr ⟨hsi, rfl, hout (fun q => c295 (of_decide_eq_true q).2.1)⟩)
              | exact j324 hin l 0 (Or.inr ⟨hsi, rfl, hout (fun q => absurd (of_decide_eq_true q).1 (by omega))⟩)
            · refine r_iinc K dX8_melt_318 (by decide) rfl ?_
              refine r_goto K 265 dX8_melt_321 (by decide) ?_
              exact ihf (l + 1) (by omega) (by omega) (hgo (decide_eq_true ⟨by omega, c295, c315⟩))
    have j223a : mpos s b n k < n → s (mpos s b n k) = -1 → RR X Y Q 0 0 223 [some (.inr (some 54)), some (.inl va), some (.inl vb), some (.inl vc), some (.inl (n : Int)), some (.inl sm), some (.inl ((mpos s b n k : Nat) : Int)), some (.inl 1), some (.inl 1)] [] T L P J hn := by
      intro hin hsi
      refine r_iload K dX8_melt_223 rfl ?_
      refine r_if_eq K 265 dX8_melt_225 (by decide) (fun c225 => ?_) (fun c225 => ?_)
      · exact absurd c225 (by omega)
      · exact loopA hin hsi 120 1 rfl (by omega) rfl
    have j223b : mpos s b n k < n → s (mpos s b n k) ≠ -1 → RR X Y Q 0 0 223 [some (.inr (some 54)), some (.inl va), some (.inl vb), some (.inl vc), some (.inl (n : Int)), some (.inl sm), some (.inl ((mpos s b n k : Nat) : Int)), some (.inl 1), some (.inl 0)] [] T L P J hn := by
      intro hin hsi
      refine r_iload K dX8_melt_223 rfl ?_
      refine r_if_eq K 265 dX8_melt_225 (by decide) (fun c225 => ?_) (fun c225 => ?_)
      · exact loopB hin hsi 120 1 rfl (by omega) rfl
      · exact absurd c225 (by omega)
    refine r_iload K dX8_melt_195 rfl ?_
    refine r_iload K dX8_melt_197 rfl ?_
    refine r_icmp_ge K 462 dX8_melt_199 (by decide) (fun c199 => ?_) (fun c199 => ?_)
    · refine r_iload K dX8_melt_462 rfl ?_
      exact q_iret K hQ rfl dX8_melt_464 (Nat.le_refl _) (Nat.le_refl _) (hpost _ _ ⟨k, by omega, hN, hs, hh⟩)
    · have hin : mpos s b n k < n := by omega
      refine r_iconst K dX8_melt_202 ?_
      refine r_istore K dX8_melt_203 (by decide) ?_
      refine r_aload_n K dX8_melt_205 rfl ?_
      refine r_getR K dX8_melt_206 f_X8_38 rfl (by first | assumption | exact hW.1 _ _ rfl | exact hW.2.2.1 _ _ _ rfl) (by first | assumption | exact hW.1 _ _ rfl | exact hW.2.2.1 _ _ _ rfl) ?_
      refine r_iload K dX8_melt_209 rfl ?_
      refine r_iald K dX8_melt_211 (by first | assumption | exact hW.1 _ _ rfl | exact hW.2.2.1 _ _ _ rfl) (by omega) (by omega) ?_
      rw [Int.toNat_natCast, e64 _ hin]
      refine r_iconst K dX8_melt_212 ?_
      refine r_icmp_ne K 220 dX8_melt_213 (by decide) (fun c213 => ?_) (fun c213 => ?_)
      · refine r_iconst K dX8_melt_220 ?_
        refine r_istore K dX8_melt_221 (by decide) ?_
        first | exact j223a hin c213 | exact j223b hin c213
      · refine r_iconst K dX8_melt_216 ?_
        refine r_goto K 221 dX8_melt_217 (by decide) ?_
        refine r_istore K dX8_melt_221 (by decide) ?_
        first | exact j223a hin c213 | exact j223b hin c213
end MO6
