section MO3
variable {T L : Nat → Nat} {P : Nat → Nat → Option Nat} {I : Nat → Nat → Int} {hn a b m n : Nat}
/-- what is added to an old byte, for the model -/
def byF (A B : Nat → Int) (m n x : Nat) : Int := (ch A B m n (sgm A B m n x)).2.2.2.2
/-- what makes leaves as it was, and its tables -/
def mFr (I : Nat → Nat → Int) (a b m n : Nat) (J : Nat → Nat → Int) : Prop := (∀ c, c ≠ 54 → c < 58 ∨ 65 < c → J c = I c) ∧ (∀ j, j ≠ 10 → j ≠ 11 → J 54 j = I 54 j) ∧ J 54 11 = 3 + ls (mBy I a) (mBy I b) m n 0 ∧ (∀ i p, i ≤ n → p ≤ m → J 58 (121 * i + p) = rn (mBy I a) (mBy I b) m n i p) ∧ ∀ j, j ≤ n → J 59 j = ls (mBy I a) (mBy I b) m n j
def m3 (I : Nat → Nat → Int) (a b m n k q : Nat) (J : Nat → Nat → Int) : Prop := mFr I a b m n J ∧ J 54 10 = k ∧ (∀ k', k' < k → (J 60 k', J 61 k', J 62 k', J 63 k') = (ch (mBy I a) (mBy I b) m n (pos (mBy I a) (mBy I b) m n k')).2) ∧ ∀ x, x < pos (mBy I a) (mBy I b) m n k + q → J 64 x = srcF (mBy I a) (mBy I b) m n x ∧ J 65 x = byF (mBy I a) (mBy I b) m n x
/-- what makes leaves behind -/
def mkP (I : Nat → Nat → Int) (a b m n : Nat) (J : Nat → Nat → Int) : Prop := ∃ N, pos (mBy I a) (mBy I b) m n N = n ∧ (∀ k, k < N → pos (mBy I a) (mBy I b) m n k < n) ∧ m3 I a b m n N 0 J
theorem m3.tk {k q : Nat} {J J1 : Nat → Nat → Int} (h : m3 I a b m n k q J) (t : tkF J k J1) : m3 I a b m n k q J1 := by
  obtain ⟨⟨f1, f2, f3, f4, f5⟩, h1, h2, h3⟩ := h
  obtain ⟨t1, t2⟩ := t
  refine ⟨⟨fun c c1 c2 => by rw [t1 c (by omega)]; exact f1 c c1 c2, fun j j1 j2 => by rw [t1 54 (by omega)]; exact f2 j j1 j2, by rw [t1 54 (by omega)]; exact f3, fun i p hi hp => by rw [t1 58 (by omega)]; exact f4 i p hi hp, fun j hj => by rw [t1 59 (by omega)]; exact f5 j hj⟩, by rw [t1 54 (by omega)]; exact h1, fun k' hk => ?_, fun x hx => by rw [t1 64 (by omega), t1 65 (by omega)]; exact h3 x hx⟩
  rw [t2 60 k' (by omega), t2 61 k' (by omega), t2 62 k' (by omega), t2 63 k' (by omega)]
  exact h2 k' hk
theorem m3.src {k q : Nat} {J : Nat → Nat → Int} {u v : Int} (h : m3 I a b m n k q J) (hu : u = srcF (mBy I a) (mBy I b) m n (pos (mBy I a) (mBy I b) m n k + q)) (hv : v = byF (mBy I a) (mBy I b) m n (pos (mBy I a) (mBy I b) m n k + q)) : m3 I a b m n k (q + 1) (mI (mI J 64 (pos (mBy I a) (mBy I b) m n k + q) u) 65 (pos (mBy I a) (mBy I b) m n k + q) v) := by
  obtain ⟨⟨f1, f2, f3, f4, f5⟩, h1, h2, h3⟩ := h
  refine ⟨⟨fun c c1 c2 => by rw [mI_ne (by omega), mI_ne (by omega)]; exact f1 c c1 c2, fun j j1 j2 => by rw [mI_ne (by decide), mI_ne (by decide)]; exact f2 j j1 j2, by rw [mI_ne (by decide), mI_ne (by decide)]; exact f3, fun i p hi hp => by rw [mI_ne (by decide), mI_ne (by decide)]; exact f4 i p hi hp, fun j hj => by rw [mI_ne (by decide), mI_ne (by decide)]; exact f5 j hj⟩, by rw [mI_ne (by decide), mI_ne (by decide)]; exact h1, fun k' hk => ?_, fun x hx => ?_⟩
  · rw [mI_ne (by decide), mI_ne (by decide), mI_ne (by decide), mI_ne (by decide), mI_ne (by decide), mI_ne (by decide), mI_ne (by decide), mI_ne (by decide)]
    exact h2 k' hk
  · rw [mI_ne (by decide), mI_row, mI_row, mI_ne (by decide)]
    by_cases e : x = pos (mBy I a) (mBy I b) m n k + q
    · rw [if_pos e, if_pos e, e]; exact ⟨hu, hv⟩
    · rw [if_neg e, if_neg e]; exact h3 x (by omega)
theorem m3.next {k q : Nat} {J : Nat → Nat → Int} (h : m3 I a b m n k q J) (ht : (J 60 k, J 61 k, J 62 k, J 63 k) = (ch (mBy I a) (mBy I b) m n (pos (mBy I a) (mBy I b) m n k)).2) (hq : q = (ch (mBy I a) (mBy I b) m n (pos (mBy I a) (mBy I b) m n k)).2.2.1.toNat) : m3 I a b m n (k + 1) 0 (mI J 54 10 ((k : Int) + 1)) := by
  obtain ⟨⟨f1, f2, f3, f4, f5⟩, h1, h2, h3⟩ := h
  refine ⟨⟨fun c c1 c2 => by rw [mI_ne c1]; exact f1 c c1 c2, fun j j1 j2 => by rw [mI_nj j1]; exact f2 j j1 j2, by rw [mI_nj (by decide)]; exact f3, fun i p hi hp => by rw [mI_ne (by decide)]; exact f4 i p hi hp, fun j hj => by rw [mI_ne (by decide)]; exact f5 j hj⟩, by rw [mI_eq]; rfl, fun k' hk => ?_, fun x hx => ?_⟩
  · rw [mI_ne (by decide), mI_ne (by decide), mI_ne (by decide), mI_ne (by decide)]
    rcases Nat.lt_or_ge k' k with e | e
    · exact h2 k' e
    · rw [show k' = k by omega]; exact ht
  · rw [mI_ne (by decide), mI_ne (by decide)]
    rw [pos, ← hq] at hx
    exact h3 x (by omega)
abbrev KM (X : Cx) (Y : SY) : Prop := OK X Y cX8_makes yX8_makes.cls 9 none (rm_ 3 74 0 0) yX8_makes.name
abbrev QK (X : Cx) (Y : SY) (Q : State → Prop) (T L : Nat → Nat) (P : Nat → Nat → Option Nat) (I : Nat → Nat → Int) (hn a b m n : Nat) : Prop := Q = QM X Y (fun r T' L' P' I' hn' => T' = T ∧ L' = L ∧ P' = P ∧ hn' = hn ∧ r = none ∧ mkP I a b m n I') 0 0
set_option maxHeartbeats 4000000 in
set_option maxRecDepth 100000 in
theorem mk3 {X : Cx} {Y : SY} {Q : State → Prop} (K : KM X Y) (hQ : QK X Y Q T L P I hn a b m n) (hW : Wd T L P) (hV : MV I) (ha : a < 5) (hb : b < 5) (hm : I 57 a = m) (hnn : I 57 b = n) (hm1 : m ≤ 120) (hn1 : n ≤ 120) : ∀ (d k : Nat) (z : Int) (g6 g7 g8 : Option PV) (J : Nat → Nat → Int), n - pos (mBy I a) (mBy I b) m n k ≤ d → pos (mBy I a) (mBy I b) m n k ≤ n → (∀ k', k' < k → pos (mBy I a) (mBy I b) m n k' < n) → z = (pos (mBy I a) (mBy I b) m n k : Nat) → m3 I a b m n k 0 J → RR X Y Q 0 0 404 [some (.inr (some 54)), some (.inl (a : Int)), some (.inl (b : Int)), some (.inl (n : Int)), some (.inl (m : Int)), some (.inl z), g6, g7, g8] [] T L P J hn := by
  have l60 : L 60 = 120 := hW.2.1 60 120 rfl (by decide)
  have l61 : L 61 = 120 := hW.2.1 61 120 rfl (by decide)
  have l62 : L 62 = 120 := hW.2.1 62 120 rfl (by decide)
  have l63 : L 63 = 120 := hW.2.1 63 120 rfl (by decide)
  have l64 : L 64 = 120 := hW.2.1 64 120 rfl (by decide)
  have l65 : L 65 = 120 := hW.2.1 65 120 rfl (by decide)
  intro d
  induction d with
  | zero =>
    intro k z g6 g7 g8 J hd hk hN hz hh
    subst hz
    refine r_iload K dX8_makes_404 rfl ?_
    refine r_iload_n K dX8_makes_406 rfl ?_
    refine r_icmp_ge K 549 dX8_makes_407 (by decide) (fun c407 => ?_) (fun c407 => ?_)
    · exact q_vret K hQ rfl dX8_makes_549 (Nat.le_refl _) (Nat.le_refl _) (⟨rfl, rfl, rfl, rfl, rfl, k, by omega, hN, hh⟩)
    · exact absurd c407 (by omega)
  | succ d ih =>
    intro k z g6 g7 g8 J hd hk hN hz hh
    subst hz
    have h441 : pos (mBy I a) (mBy I b) m n k < n → ∀ (g6 g7 g8 : Option PV) (J : Nat → Nat → Int), m3 I a b m n k 0 J → (J 60 k, J 61 k, J 62 k, J 63 k) = (ch (mBy I a) (mBy I b) m n (pos (mBy I a) (mBy I b) m n k)).2 → RR X Y Q 0 0 441 [some (.inr (some 54)), some (.inl (a : Int)), some (.inl (b : Int)), some (.inl (n : Int)), some (.inl (m : Int)), some (.inl ((pos (mBy I a) (mBy I b) m n k : Nat) : Int)), g6, g7, g8] [] T L P J hn := by
      intro hik g6 g7 g8 J hh ht
      have hk1 : k < 120 := by have := pos_ge (A := mBy I a) (B := mBy I b) (m := m) hn1 hN k (Nat.le_refl _); omega
      have hok := ch_ok (A := mBy I a) (B := mBy I b) (m := m) hn1 hik
      have hsg := sgm_seg (sgm_pos (A := mBy I a) (B := mBy I b) (m := m) hn1 hN k (Nat.le_refl _))
      have loop : ∀ (e q : Nat) (g7 g8 : Option PV) (J : Nat → Nat → Int), (q : Int) + e = (ch (mBy I a) (mBy I b) m n (pos (mBy I a) (mBy I b) m n k)).2.2.1 → m3 I a b m n k q J → (J 60 k, J 61 k, J 62 k, J 63 k) = (ch (mBy I a) (mBy I b) m n (pos (mBy I a) (mBy I b) m n k)).2 → RR X Y Q 0 0 444 [some (.inr (some 54)), some (.inl (a : Int)), some (.inl (b : Int)), some (.inl (n : Int)), some (.inl (m : Int)), some (.inl ((pos (mBy I a) (mBy I b) m n k : Nat) : Int)), some (.inl (q : Int)), g7, g8] [] T L P J hn := by
        intro e
        induction e with
        | zero =>
          intro q g7 g8 J he hh ht
          have e61 : J 61 k = (ch (mBy I a) (mBy I b) m n (pos (mBy I a) (mBy I b) m n k)).2.2.1 := by rw [← ht]
          have e10 := hh.2.1
          refine r_iload K dX8_makes_444 rfl ?_
          refine r_aload_n K dX8_makes_446 rfl ?_
          refine r_getR K dX8_makes_447 f_X8_29 rfl (by first | assumption | exact hW.1 _ _ rfl | exact hW.2.2.1 _ _ _ rfl) (by first | assumption | exact hW.1 _ _ rfl | exact hW.2.2.1 _ _ _ rfl) ?_
          refine r_aload_n K dX8_makes_450 rfl ?_
          refine r_getI K dX8_makes_451 f_X8_142 rfl (by first | assumption | exact hW.1 _ _ rfl | exact hW.2.2.1 _ _ _ rfl) ?_
          rw [e10]
          refine r_iald K dX8_makes_454 (by first | assumption | exact hW.1 _ _ rfl | exact hW.2.2.1 _ _ _ rfl) (by omega) (by omega) ?_
          rw [Int.toNat_natCast, e61]
          refine r_icmp_ge K 522 dX8_makes_455 (by decide) (fun c455 => ?_) (fun c455 => ?_)
          · refine r_iload K dX8_makes_522 rfl ?_
            refine r_aload_n K dX8_makes_524 rfl ?_
            refine r_getR K dX8_makes_525 f_X8_29 rfl (by first | assumption | exact hW.1 _ _ rfl | exact hW.2.2.1 _ _ _ rfl) (by first | assumption | exact hW.1 _ _ rfl | exact hW.2.2.1 _ _ _ rfl) ?_
            refine r_aload_n K dX8_makes_528 rfl ?_
            refine r_getI K dX8_makes_529 f_X8_142 rfl (by first | assumption | exact hW.1 _ _ rfl | exact hW.2.2.1 _ _ _ rfl) ?_
            rw [e10]
            refine r_iald K dX8_makes_532 (by first | assumption | exact hW.1 _ _ rfl | exact hW.2.2.1 _ _ _ rfl) (by omega) (by omega) ?_
            rw [Int.toNat_natCast, e61]
            refine r_iadd K dX8_makes_533 ?_
            refine r_istore K dX8_makes_534 (by decide) ?_
            refine r_aload_n K dX8_makes_536 rfl ?_
            refine r_dup K dX8_makes_537 ?_
            refine r_getI K dX8_makes_538 f_X8_142 rfl (by first | assumption | exact hW.1 _ _ rfl | exact hW.2.2.1 _ _ _ rfl) ?_
            rw [e10]
            refine r_iconst K dX8_makes_541 ?_
            refine r_iadd K dX8_makes_542 ?_
            refine r_putI K dX8_makes_543 f_X8_142 rfl rfl (Or.inl rfl) (by first | assumption | exact hW.1 _ _ rfl | exact hW.2.2.1 _ _ _ rfl) ?_
            refine r_goto K 404 dX8_makes_546 (by decide) ?_
            refine ih (k + 1) _ _ _ _ _ (by rw [pos]; omega) (by rw [pos]; omega) (fun k' hk' => ?_) (by rw [pos]; omega) (hh.next ht (by omega))
            rcases Nat.lt_or_ge k' k with w | w
            · exact hN k' w
            · rw [show k' = k by omega]; exact hik
          · exact absurd c455 (by omega)
        | succ e ihe =>
          intro q g7 g8 J he hh ht
          have e60 : J 60 k = (ch (mBy I a) (mBy I b) m n (pos (mBy I a) (mBy I b) m n k)).2.1 := by rw [← ht]
          have e61 : J 61 k = (ch (mBy I a) (mBy I b) m n (pos (mBy I a) (mBy I b) m n k)).2.2.1 := by rw [← ht]
          have e62 : J 62 k = (ch (mBy I a) (mBy I b) m n (pos (mBy I a) (mBy I b) m n k)).2.2.2.1 := by rw [← ht]
          have e63 : J 63 k = (ch (mBy I a) (mBy I b) m n (pos (mBy I a) (mBy I b) m n k)).2.2.2.2 := by rw [← ht]
          have e10 := hh.2.1
          have hs := hsg q (by omega)
          have j496 : ∀ v : Int, v = srcF (mBy I a) (mBy I b) m n (pos (mBy I a) (mBy I b) m n k + q) → RR X Y Q 0 0 496 [some (.inr (some 54)), some (.inl (a : Int)), some (.inl (b : Int)), some (.inl (n : Int)), some (.inl (m : Int)), some (.inl ((pos (mBy I a) (mBy I b) m n k : Nat) : Int)), some (.inl (q : Int)), g7, g8] [.inl v, .inl (((pos (mBy I a) (mBy I b) m n k : Nat) : Int) + q), .inr (some 64)] T L P J hn := by
            intro v hv
            refine r_iast K dX8_makes_496 (by first | assumption | exact hW.1 _ _ rfl | exact hW.2.2.1 _ _ _ rfl) (by omega) (by omega) ?_
            rw [show (((pos (mBy I a) (mBy I b) m n k : Nat) : Int) + q).toNat = pos (mBy I a) (mBy I b) m n k + q by omega]
            refine r_aload_n K dX8_makes_497 rfl ?_
            refine r_getR K dX8_makes_498 f_X8_41 rfl (by first | assumption | exact hW.1 _ _ rfl | exact hW.2.2.1 _ _ _ rfl) (by first | assumption | exact hW.1 _ _ rfl | exact hW.2.2.1 _ _ _ rfl) ?_
            refine r_iload K dX8_makes_501 rfl ?_
            refine r_iload K dX8_makes_503 rfl ?_
            refine r_iadd K dX8_makes_505 ?_
            refine r_aload_n K dX8_makes_506 rfl ?_
            refine r_getR K dX8_makes_507 f_X8_35 rfl (by first | assumption | exact hW.1 _ _ rfl | exact hW.2.2.1 _ _ _ rfl) (by first | assumption | exact hW.1 _ _ rfl | exact hW.2.2.1 _ _ _ rfl) ?_
            refine r_aload_n K dX8_makes_510 rfl ?_
            refine r_getI K dX8_makes_511 f_X8_142 rfl (by first | assumption | exact hW.1 _ _ rfl | exact hW.2.2.1 _ _ _ rfl) ?_
            rw [mI_ne (by decide), e10]
            refine r_iald K dX8_makes_514 (by first | assumption | exact hW.1 _ _ rfl | exact hW.2.2.1 _ _ _ rfl) (by omega) (by omega) ?_
            rw [mI_ne (by decide), Int.toNat_natCast, e63]
            refine r_iast K dX8_makes_515 (by first | assumption | exact hW.1 _ _ rfl | exact hW.2.2.1 _ _ _ rfl) (by omega) (by omega) ?_
            rw [show (((pos (mBy I a) (mBy I b) m n k : Nat) : Int) + q).toNat = pos (mBy I a) (mBy I b) m n k + q by omega]
            refine r_iinc K dX8_makes_516 (by decide) rfl ?_
            refine r_goto K 444 dX8_makes_519 (by decide) ?_
            exact ihe (q + 1) _ _ _ (by omega) (hh.src hv (by rw [byF, hs])) (by rw [mI_ne (by decide), mI_ne (by decide), mI_ne (by decide), mI_ne (by decide), mI_ne (by decide), mI_ne (by decide), mI_ne (by decide), mI_ne (by decide)]; exact ht)
          refine r_iload K dX8_makes_444 rfl ?_
          refine r_aload_n K dX8_makes_446 rfl ?_
          refine r_getR K dX8_makes_447 f_X8_29 rfl (by first | assumption | exact hW.1 _ _ rfl | exact hW.2.2.1 _ _ _ rfl) (by first | assumption | exact hW.1 _ _ rfl | exact hW.2.2.1 _ _ _ rfl) ?_
          refine r_aload_n K dX8_makes_450 rfl ?_
          refine r_getI K dX8_makes_451 f_X8_142 rfl (by first | assumption | exact hW.1 _ _ rfl | exact hW.2.2.1 _ _ _ rfl) ?_
          rw [e10]
          refine r_iald K dX8_makes_454 (by first | assumption | exact hW.1 _ _ rfl | exact hW.2.2.1 _ _ _ rfl) (by omega) (by omega) ?_
          rw [Int.toNat_natCast, e61]
          refine r_icmp_ge K 522 dX8_makes_455 (by decide) (fun c455 => ?_) (fun c455 => ?_)
          · exact absurd c455 (by omega)
          · refine r_aload_n K dX8_makes_458 rfl ?_
            refine r_getR K dX8_makes_459 f_X8_38 rfl (by first | assumption | exact hW.1 _ _ rfl | exact hW.2.2.1 _ _ _ rfl) (by first | assumption | exact hW.1 _ _ rfl | exact hW.2.2.1 _ _ _ rfl) ?_
            refine r_iload K dX8_makes_462 rfl ?_
            refine r_iload K dX8_makes_464 rfl ?_
            refine r_iadd K dX8_makes_466 ?_
            refine r_aload_n K dX8_makes_467 rfl ?_
            refine r_getR K dX8_makes_468 f_X8_26 rfl (by first | assumption | exact hW.1 _ _ rfl | exact hW.2.2.1 _ _ _ rfl) (by first | assumption | exact hW.1 _ _ rfl | exact hW.2.2.1 _ _ _ rfl) ?_
            refine r_aload_n K dX8_makes_471 rfl ?_
            refine r_getI K dX8_makes_472 f_X8_142 rfl (by first | assumption | exact hW.1 _ _ rfl | exact hW.2.2.1 _ _ _ rfl) ?_
            rw [e10]
            refine r_iald K dX8_makes_475 (by first | assumption | exact hW.1 _ _ rfl | exact hW.2.2.1 _ _ _ rfl) (by omega) (by omega) ?_
            rw [Int.toNat_natCast, e60]
            refine r_iconst K dX8_makes_476 ?_
            refine r_icmp_ne K 484 dX8_makes_477 (by decide) (fun c477 => ?_) (fun c477 => ?_)
            · have hp := hok.2.2.2.2.2 c477
              refine r_aload_n K dX8_makes_484 rfl ?_
              refine r_getR K dX8_makes_485 f_X8_32 rfl (by first | assumption | exact hW.1 _ _ rfl | exact hW.2.2.1 _ _ _ rfl) (by first | assumption | exact hW.1 _ _ rfl | exact hW.2.2.1 _ _ _ rfl) ?_
              refine r_aload_n K dX8_makes_488 rfl ?_
              refine r_getI K dX8_makes_489 f_X8_142 rfl (by first | assumption | exact hW.1 _ _ rfl | exact hW.2.2.1 _ _ _ rfl) ?_
              rw [e10]
              refine r_iald K dX8_makes_492 (by first | assumption | exact hW.1 _ _ rfl | exact hW.2.2.1 _ _ _ rfl) (by omega) (by omega) ?_
              rw [Int.toNat_natCast, e62]
              refine r_iload K dX8_makes_493 rfl ?_
              refine r_iadd K dX8_makes_495 ?_
              first | exact j496 _ (by rw [srcF, hs, if_pos c477]) | exact j496 _ (by rw [srcF, hs, if_neg c477]; omega)
            · refine r_iconst K dX8_makes_480 ?_
              refine r_goto K 496 dX8_makes_481 (by decide) ?_
              first | exact j496 _ (by rw [srcF, hs, if_pos c477]) | exact j496 _ (by rw [srcF, hs, if_neg c477]; omega)
      refine r_iconst K dX8_makes_441 ?_
      refine r_istore K dX8_makes_442 (by decide) ?_
      exact loop (ch (mBy I a) (mBy I b) m n (pos (mBy I a) (mBy I b) m n k)).2.2.1.toNat 0 _ _ J (by omega) hh ht
    have e57 : J 57 = I 57 := hh.1.1 57 (by decide) (by decide)
    have e56 : J 56 = I 56 := hh.1.1 56 (by decide) (by decide)
    have eA : mBy J a = mBy I a := by unfold mBy; rw [e56]
    have eB : mBy J b = mBy I b := by unfold mBy; rw [e56]
    have hVJ : MV J := hV.cong e56 e57
    have cin := cpy_in (mBy I a) (mBy I b) m n (pos (mBy I a) (mBy I b) m n k)
    have sin := shf_in (mBy I a) (mBy I b) m n (pos (mBy I a) (mBy I b) m n k)
    refine r_iload K dX8_makes_404 rfl ?_
    refine r_iload_n K dX8_makes_406 rfl ?_
    refine r_icmp_ge K 549 dX8_makes_407 (by decide) (fun c407 => ?_) (fun c407 => ?_)
    · exact q_vret K hQ rfl dX8_makes_549 (Nat.le_refl _) (Nat.le_refl _) (⟨rfl, rfl, rfl, rfl, rfl, k, by omega, hN, hh⟩)
    · have hik : pos (mBy I a) (mBy I b) m n k < n := by omega
      have hk1 : k < 120 := by have := pos_ge (A := mBy I a) (B := mBy I b) (m := m) hn1 hN k (Nat.le_refl _); omega
      refine r_aload_n K dX8_makes_410 rfl ?_
      refine r_iload_n K dX8_makes_411 rfl ?_
      refine r_iload_n K dX8_makes_412 rfl ?_
      refine r_iload K dX8_makes_413 rfl ?_
      refine r_iconst K dX8_makes_415 ?_
      refine rcV4i K dX8_makes_416 c_X8_145 v_X8_takes (by first | assumption | exact hW.1 _ _ rfl | exact hW.2.2.1 _ _ _ rfl) (k_takes (a := a) (b := b) (i := pos (mBy I a) (mBy I b) m n k) (st := k) (m := m) (n := n) (w := 0) (q0 := (cpy (mBy I a) (mBy I b) m n (pos (mBy I a) (mBy I b) m n k)).2) (c := (cpy (mBy I a) (mBy I b) m n (pos (mBy I a) (mBy I b) m n k)).1) (I := J) hW hVJ ha hb (by rw [e57]; exact hm) hm1 hn1 hik hh.2.1 hk1 (by decide) (by rw [eA, eB]; exact fun p hp => hh.1.2.2.2.1 _ p (by omega) (by omega)) (by rw [eA, eB]; exact hh.1.2.2.2.2) cin.1 (by omega) (by rw [eA, eB]; exact fun q hq h => cpy_ge hq (h.mpr rfl)) (by rw [eA, eB]; exact fun h => ⟨(cin.2.2 h).1, ⟨fun _ => rfl, fun _ => (cin.2.2 h).2.1⟩, (cin.2.2 h).2.2, fun q hq hc => (mx_in _ _ m).2.1 h |>.2.2.2 q hq (decide_eq_true (hc.mpr rfl))⟩) (by rw [eA, eB]; intro k' k1 k2 k3; have := ls_cpy (A := mBy I a) (B := mBy I b) (m := m) hik (by omega); have := ls_mon (A := mBy I a) (B := mBy I b) (m := m) hn1 (show pos (mBy I a) (mBy I b) m n k + k' ≤ pos (mBy I a) (mBy I b) m n k + (cpy (mBy I a) (mBy I b) m n (pos (mBy I a) (mBy I b) m n k)).1.toNat by omega) (by omega); omega)) (by decide) (Nat.le_of_ble_eq_true rfl) ?_
      rintro r1 J1 ⟨hF1, hr1⟩
      rw [eA, eB] at hr1
      have hh1 : m3 I a b m n k 0 J1 := hh.tk hF1
      obtain ⟨z1, rfl, hz1⟩ : ∃ z1 : Int, r1 = some (.inl z1) ∧ ((z1 = 1 ∧ (J1 60 k, J1 61 k, J1 62 k, J1 63 k) = (ch (mBy I a) (mBy I b) m n (pos (mBy I a) (mBy I b) m n k)).2) ∨ (z1 = 0 ∧ ¬ gC (mBy I a) (mBy I b) m n (pos (mBy I a) (mBy I b) m n k))) := by
        rcases hr1 with ⟨g, r, t⟩ | ⟨g, r⟩
        · refine ⟨1, r, Or.inl ⟨rfl, ?_⟩⟩
          rw [ch_C hik ⟨g.1, by have := g.2; omega⟩, t, (cin.2.2 g.1).2.1]
          rfl
        · exact ⟨0, r, Or.inr ⟨rfl, fun q => g ⟨q.1, by have := q.2; omega⟩⟩⟩
      have e57' : J1 57 = I 57 := hh1.1.1 57 (by decide) (by decide)
      have e56' : J1 56 = I 56 := hh1.1.1 56 (by decide) (by decide)
      have eA1 : mBy J1 a = mBy I a := by unfold mBy; rw [e56']
      have eB1 : mBy J1 b = mBy I b := by unfold mBy; rw [e56']
      have hVJ1 : MV J1 := hV.cong e56' e57'
      refine r_if_ne K 441 dX8_makes_419 (by decide) (fun c419 => ?_) (fun c419 => ?_)
      · rcases hz1 with ⟨-, ht⟩ | ⟨e, -⟩
        · exact h441 hik _ _ _ _ hh1 ht
        · exact absurd e c419
      · have hnC : ¬ gC (mBy I a) (mBy I b) m n (pos (mBy I a) (mBy I b) m n k) := by
          rcases hz1 with ⟨e, -⟩ | ⟨-, g⟩
          · exact absurd e (by omega)
          · exact g
        refine r_aload_n K dX8_makes_422 rfl ?_
        refine r_iload_n K dX8_makes_423 rfl ?_
        refine r_iload_n K dX8_makes_424 rfl ?_
        refine r_iload K dX8_makes_425 rfl ?_
        refine r_iconst K dX8_makes_427 ?_
        refine rcV4i K dX8_makes_428 c_X8_145 v_X8_takes (by first | assumption | exact hW.1 _ _ rfl | exact hW.2.2.1 _ _ _ rfl) (k_takes (a := a) (b := b) (i := pos (mBy I a) (mBy I b) m n k) (st := k) (m := m) (n := n) (w := 1) (q0 := (shf (mBy I a) (mBy I b) m n (pos (mBy I a) (mBy I b) m n k)).2) (c := (shf (mBy I a) (mBy I b) m n (pos (mBy I a) (mBy I b) m n k)).1) (I := J1) hW hVJ1 ha hb (by rw [e57']; exact hm) hm1 hn1 hik hh1.2.1 hk1 (by decide) (by rw [eA1, eB1]; exact fun p hp => hh1.1.2.2.2.1 _ p (by omega) (by omega)) (by rw [eA1, eB1]; exact hh1.1.2.2.2.2) sin.1 (by omega) (by rw [eA1, eB1]; exact fun q hq h => shf_ge hq (fun e => absurd (h.mp e) (by decide))) (by rw [eA1, eB1]; exact fun h => ⟨(sin.2.2 h).1, ⟨fun e => absurd e (sin.2.2 h).2.1, fun e => absurd e (by decide)⟩, (sin.2.2 h).2.2, fun q hq hc => (mx_in _ _ m).2.1 h |>.2.2.2 q hq (decide_eq_true (fun e => absurd (hc.mp e) (by decide)))⟩) (by rw [eA1, eB1]; intro k' k1 k2 k3; have := ls_shf (A := mBy I a) (B := mBy I b) (m := m) hik (by omega); have := ls_mon (A := mBy I a) (B := mBy I b) (m := m) hn1 (show pos (mBy I a) (mBy I b) m n k + k' ≤ pos (mBy I a) (mBy I b) m n k + (shf (mBy I a) (mBy I b) m n (pos (mBy I a) (mBy I b) m n k)).1.toNat by omega) (by omega); omega)) (by decide) (Nat.le_of_ble_eq_true rfl) ?_
        rintro r2 J2 ⟨hF2, hr2⟩
        rw [eA1, eB1] at hr2
        have hh2 : m3 I a b m n k 0 J2 := hh1.tk hF2
        obtain ⟨z2, rfl, hz2⟩ : ∃ z2 : Int, r2 = some (.inl z2) ∧ ((z2 = 1 ∧ (J2 60 k, J2 61 k, J2 62 k, J2 63 k) = (ch (mBy I a) (mBy I b) m n (pos (mBy I a) (mBy I b) m n k)).2) ∨ (z2 = 0 ∧ ¬ gS (mBy I a) (mBy I b) m n (pos (mBy I a) (mBy I b) m n k))) := by
          rcases hr2 with ⟨g, r, t⟩ | ⟨g, r⟩
          · refine ⟨1, r, Or.inl ⟨rfl, ?_⟩⟩
            rw [ch_S hik hnC ⟨g.1, by have := g.2; omega⟩, t]
            rfl
          · exact ⟨0, r, Or.inr ⟨rfl, fun q => g ⟨q.1, by have := q.2; omega⟩⟩⟩
        have e57q : J2 57 = I 57 := hh2.1.1 57 (by decide) (by decide)
        have e56q : J2 56 = I 56 := hh2.1.1 56 (by decide) (by decide)
        have eA2 : mBy J2 a = mBy I a := by unfold mBy; rw [e56q]
        have eB2 : mBy J2 b = mBy I b := by unfold mBy; rw [e56q]
        have hVJ2 : MV J2 := hV.cong e56q e57q
        refine r_if_ne K 441 dX8_makes_431 (by decide) (fun c431 => ?_) (fun c431 => ?_)
        · rcases hz2 with ⟨-, ht⟩ | ⟨e, -⟩
          · exact h441 hik _ _ _ _ hh2 ht
          · exact absurd e c431
        · have hnS : ¬ gS (mBy I a) (mBy I b) m n (pos (mBy I a) (mBy I b) m n k) := by
            rcases hz2 with ⟨e, -⟩ | ⟨-, g⟩
            · exact absurd e (by omega)
            · exact g
          refine r_aload_n K dX8_makes_434 rfl ?_
          refine r_iload K dX8_makes_435 rfl ?_
          refine r_iload_n K dX8_makes_437 rfl ?_
          refine rcV2i K dX8_makes_438 c_X8_149 v_X8_adds (by first | assumption | exact hW.1 _ _ rfl | exact hW.2.2.1 _ _ _ rfl) (k_adds (a := a) (b := b) (i := pos (mBy I a) (mBy I b) m n k) (st := k) (m := m) (n := n) (I := J2) hW hVJ2 ha hb (by rw [e57q]; exact hm) hm1 hn1 hik hh2.2.1 hk1 (by rw [eA2, eB2]; exact hh2.1.2.2.2.2) (by rw [eA2, eB2]; exact hnC) (by rw [eA2, eB2]; exact hnS)) (by decide) (Nat.le_of_ble_eq_true rfl) ?_
          rintro _ J3 ⟨rfl, hF3, ht⟩
          rw [eA2, eB2] at ht
          exact h441 hik _ _ _ _ (hh2.tk hF3) ht
end MO3
