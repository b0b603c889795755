section MO9
variable {T L : Nat → Nat} {P : Nat → Nat → Option Nat} {I : Nat → Nat → Int} {hn : Nat}
theorem mW_25 (M : Nat → Nat → Int) : mW M 54 25 = M 54 25 + 1 := by rw [mW, mI_nj (by decide), mI_eq]
/-- a write on both sides -/
theorem DV.next {C M : Nat → Nat → Int} (h : DV C M) (hb : C 41 9 ≠ 0) (hc : C 41 10 = 0) : DV (dW C) (mW M) ∧ dW C 41 10 = 0 := by
  obtain ⟨⟨d1a, d1b, d1c⟩, d2, ⟨d3a, d3b⟩, ⟨d4a, d4b⟩, d5, d6, d7, d8, d9⟩ := h
  obtain ⟨hDB, e26, e27, e28, e31, e7, u1, u2, u3⟩ := d6 hb
  have hnx := DB.next hDB
  obtain ⟨b1, b2, b3, b4, b5, b6, b7⟩ := hDB
  have hall : dAll C = C 41 4 + 1 + 2 * C 44 3 + 1 := rfl
  have hmll : mAll M = M 54 27 + 2 + 2 * M 54 28 := rfl
  by_cases c1 : C 41 6 - C 41 4 < 0
  · obtain ⟨k, hk⟩ : ∃ k : Nat, C 41 6 = k := ⟨(C 41 6).toNat, by omega⟩
    obtain ⟨p, hp⟩ : ∃ p : Nat, C 48 k = p := ⟨(C 48 k).toNat, by have := b4 k (by omega); omega⟩
    have hp1 : p < 120 := by have := b4 k (by omega); omega
    have u2k := u2 k (by omega)
    rw [hp, Int.toNat_natCast] at u2k
    have d2p := d2 p hp1
    have eC : dW C = mI (mI C 49 p (C 43 p)) 41 6 ((k : Int) + 1) := by rw [dW, dW0, if_pos c1, hk, Int.toNat_natCast, hp, Int.toNat_natCast]
    have eM : mW M = mI (mI (mI M 74 k (M 73 p)) 54 25 (M 54 25 + 1)) 54 26 ((k : Int) + 1) := by rw [mW, mW0, if_pos (by omega), e26, hk, Int.toNat_natCast, u2k.1, Int.toNat_natCast]
    have hD : DB (dW C) := by
      rcases hnx with q | q
      · exact q.2
      · exact absurd q.2.2 (by omega)
    have gC : ∀ c, c ≠ 41 → c ≠ 49 → dW C c = C c := fun c h1 h2 => by rw [eC, mI_ne h1, mI_ne h2]
    have gC1 : ∀ j, j ≠ 6 → dW C 41 j = C 41 j := fun j hj => by rw [eC, mI_nj hj, mI_ne (by decide)]
    have gC6 : dW C 41 6 = (k : Int) + 1 := by rw [eC, mI_eq]
    have gC9 : ∀ j, dW C 49 j = if j = p then C 43 p else C 49 j := fun j => by rw [eC, mI_ne (by decide), mI_row]
    have gM : ∀ c, c ≠ 54 → c ≠ 74 → mW M c = M c := fun c h1 h2 => by rw [eM, mI_ne h1, mI_ne h1, mI_ne h2]
    have gM1 : ∀ j, j ≠ 25 → j ≠ 26 → mW M 54 j = M 54 j := fun j h1 h2 => by rw [eM, mI_nj h2, mI_nj h1, mI_ne (by decide)]
    have gM6 : mW M 54 26 = (k : Int) + 1 := by rw [eM, mI_eq]
    have gM4 : ∀ j, mW M 74 j = if j = k then M 73 p else M 74 j := fun j => by rw [eM, mI_ne (by decide), mI_ne (by decide), mI_row]
    refine ⟨⟨?_, fun j hj => ?_, ?_, ?_, ?_, fun _ => ⟨hD, ?_, ?_, ?_, ?_, ?_, ?_, fun k' hk' => ?_, ?_⟩, ?_, ?_, ?_⟩, ?_⟩
    · rw [gM1 24 (by decide) (by decide), gC 42 (by decide) (by decide)]; exact ⟨d1a, d1b, d1c⟩
    · rw [gM 73 (by decide) (by decide), gC 43 (by decide) (by decide), gM4, gC9]
      refine ⟨(d2 j hj).1, ?_, ?_⟩
      · split
        · exact d2p.1.2
        · exact (d2 j hj).2.1
      · split
        · omega
        · exact (d2 j hj).2.2
    · rw [gM1 29 (by decide) (by decide), gC1 9 (by decide)]; exact ⟨d3a, d3b⟩
    · rw [gM1 30 (by decide) (by decide), gC1 10 (by decide)]; exact ⟨d4a, d4b⟩
    · rw [gC1 9 (by decide), gC1 10 (by decide)]; exact d5
    · rw [gM6, gC6]
    · rw [gM1 27 (by decide) (by decide), gC1 4 (by decide)]; exact e27
    · rw [gM1 28 (by decide) (by decide), gC 44 (by decide) (by decide)]; exact e28
    · rw [gM1 31 (by decide) (by decide), gC1 5 (by decide)]; exact e31
    · rw [gC1 7 (by decide), gC1 4 (by decide), gC6, e7, if_neg (by omega), if_neg (by omega)]
    · rw [gC 44 (by decide) (by decide), gC 45 (by decide) (by decide), gC 46 (by decide) (by decide), gM 75 (by decide) (by decide), gM 76 (by decide) (by decide), gM 77 (by decide) (by decide)]; exact u1
    · rw [gC1 4 (by decide)] at hk'
      have u2q := u2 k' hk'
      rw [gM 78 (by decide) (by decide), gM 79 (by decide) (by decide), gC 48 (by decide) (by decide), gC6, gM4, gC9]
      refine ⟨u2q.1, u2q.2.1, fun hlt => ?_⟩
      by_cases e : k' = k
      · rw [if_pos e, e, hp, Int.toNat_natCast, if_pos rfl]; exact d2p.1.1
      · rw [if_neg e, if_neg (fun q => e (by have q2 := u2q.2.1; rw [q] at q2; have q3 := u2k.2.1; omega))]
        exact u2q.2.2 (by omega)
    · rw [gC 47 (by decide) (by decide), gC 48 (by decide) (by decide), gC1 4 (by decide), gM 79 (by decide) (by decide)]; exact u3
    · rw [gC1 4 (by decide)]; exact d7
    · rw [gC1 7 (by decide)]; exact d8
    · rw [gC 44 (by decide) (by decide)]; exact d9
    · rw [gC1 10 (by decide)]; exact hc
  · by_cases c2 : dAll C ≤ C 41 6 + 1
    · have eC : dW C = mI (mI (mI (mI C 42 1 (C 44 3)) 41 9 0) 41 10 0) 41 6 (C 41 6 + 1) := by rw [dW, dW0, if_neg c1, if_pos c2]
      have eM : mW M = mI (mI (mI (mI M 54 24 (M 54 28)) 54 29 0) 54 25 (M 54 25 + 1)) 54 26 (M 54 26 + 1) := by rw [mW, mW0, if_neg (by omega), if_pos (by omega)]
      have gC : ∀ c, c ≠ 41 → c ≠ 42 → dW C c = C c := fun c h1 h2 => by rw [eC, mI_ne h1, mI_ne h1, mI_ne h1, mI_ne h2]
      have gC1 : ∀ j, j ≠ 6 → j ≠ 9 → j ≠ 10 → dW C 41 j = C 41 j := fun j h1 h2 h3 => by rw [eC, mI_nj h1, mI_nj h3, mI_nj h2, mI_ne (by decide)]
      have gC2 : dW C 42 1 = C 44 3 := by rw [eC, mI_ne (by decide), mI_ne (by decide), mI_ne (by decide), mI_eq]
      have gC9 : dW C 41 9 = 0 := by rw [eC, mI_nj (by decide), mI_nj (by decide), mI_eq]
      have gC10 : dW C 41 10 = 0 := by rw [eC, mI_nj (by decide), mI_eq]
      have gM : ∀ c, c ≠ 54 → mW M c = M c := fun c h1 => by rw [eM, mI_ne h1, mI_ne h1, mI_ne h1, mI_ne h1]
      have gM24 : mW M 54 24 = M 54 28 := by rw [eM, mI_nj (by decide), mI_nj (by decide), mI_nj (by decide), mI_eq]
      have gM29 : mW M 54 29 = 0 := by rw [eM, mI_nj (by decide), mI_nj (by decide), mI_eq]
      have gM30 : mW M 54 30 = M 54 30 := by rw [eM, mI_nj (by decide), mI_nj (by decide), mI_nj (by decide), mI_nj (by decide)]
      refine ⟨⟨?_, fun j hj => ?_, ?_, ?_, ?_, fun q => absurd gC9 q, ?_, ?_, ?_⟩, gC10⟩
      · rw [gM24, gC2]; exact ⟨e28, b3.1, b3.2⟩
      · rw [gM 73 (by decide), gM 74 (by decide), gC 43 (by decide) (by decide), gC 49 (by decide) (by decide)]; exact d2 j hj
      · rw [gM29, gC9]; exact ⟨rfl, Or.inl rfl⟩
      · rw [gM30, gC10, d4a, hc]; exact ⟨rfl, Or.inl rfl⟩
      · exact fun _ => gC10
      · rw [gC1 4 (by decide) (by decide) (by decide)]; exact d7
      · rw [gC1 7 (by decide) (by decide) (by decide)]; exact d8
      · rw [gC 44 (by decide) (by decide)]; exact d9
    · have hD : DB (dW C) := by
        rcases hnx with q | q
        · exact q.2
        · exact absurd q.2.2 (by omega)
      by_cases c3 : (C 41 6 - C 41 4) % 2 = 0
      · have eC : dW C = mI (mI C 41 7 ((C 41 6 - C 41 4) / 2)) 41 6 (C 41 6 + 1) := by rw [dW, dW0, if_neg c1, if_neg c2, if_pos c3]
        have eM : mW M = mI (mI M 54 25 (M 54 25 + 1)) 54 26 (M 54 26 + 1) := by rw [mW, mW0, if_neg (by omega), if_neg (by omega), if_neg (by omega)]
        have gC : ∀ c, c ≠ 41 → dW C c = C c := fun c h1 => by rw [eC, mI_ne h1, mI_ne h1]
        have gC1 : ∀ j, j ≠ 6 → j ≠ 7 → dW C 41 j = C 41 j := fun j h1 h2 => by rw [eC, mI_nj h1, mI_nj h2]
        have gC6 : dW C 41 6 = C 41 6 + 1 := by rw [eC, mI_eq]
        have gC7 : dW C 41 7 = (C 41 6 - C 41 4) / 2 := by rw [eC, mI_nj (by decide), mI_eq]
        have gM : ∀ c, c ≠ 54 → mW M c = M c := fun c h1 => by rw [eM, mI_ne h1, mI_ne h1]
        have gM1 : ∀ j, j ≠ 25 → j ≠ 26 → mW M 54 j = M 54 j := fun j h1 h2 => by rw [eM, mI_nj h2, mI_nj h1]
        have gM6 : mW M 54 26 = M 54 26 + 1 := by rw [eM, mI_eq]
        refine ⟨⟨?_, fun j hj => ?_, ?_, ?_, ?_, fun _ => ⟨hD, ?_, ?_, ?_, ?_, ?_, ?_, fun k' hk' => ?_, ?_⟩, ?_, ?_, ?_⟩, ?_⟩
        · rw [gM1 24 (by decide) (by decide), gC 42 (by decide)]; exact ⟨d1a, d1b, d1c⟩
        · rw [gM 73 (by decide), gM 74 (by decide), gC 43 (by decide), gC 49 (by decide)]; exact d2 j hj
        · rw [gM1 29 (by decide) (by decide), gC1 9 (by decide) (by decide)]; exact ⟨d3a, d3b⟩
        · rw [gM1 30 (by decide) (by decide), gC1 10 (by decide) (by decide)]; exact ⟨d4a, d4b⟩
        · rw [gC1 9 (by decide) (by decide), gC1 10 (by decide) (by decide)]; exact d5
        · rw [gM6, gC6, e26]
        · rw [gM1 27 (by decide) (by decide), gC1 4 (by decide) (by decide)]; exact e27
        · rw [gM1 28 (by decide) (by decide), gC 44 (by decide)]; exact e28
        · rw [gM1 31 (by decide) (by decide), gC1 5 (by decide) (by decide)]; exact e31
        · rw [gC7, gC1 4 (by decide) (by decide), gC6, if_pos (by omega)]; omega
        · rw [gC 44 (by decide), gC 45 (by decide), gC 46 (by decide), gM 75 (by decide), gM 76 (by decide), gM 77 (by decide)]; exact u1
        · rw [gC1 4 (by decide) (by decide)] at hk'
          have u2q := u2 k' hk'
          rw [gM 78 (by decide), gM 79 (by decide), gC 48 (by decide), gM 74 (by decide), gC 49 (by decide)]
          exact ⟨u2q.1, u2q.2.1, fun _ => u2q.2.2 (by omega)⟩
        · rw [gC 47 (by decide), gC 48 (by decide), gC1 4 (by decide) (by decide), gM 79 (by decide)]; exact u3
        · rw [gC1 4 (by decide) (by decide)]; exact d7
        · rw [gC7]; omega
        · rw [gC 44 (by decide)]; exact d9
        · rw [gC1 10 (by decide) (by decide)]; exact hc
      · have hqq : mQ M = newQ C ((C 41 6 - C 41 4) / 2) := by
          rw [mQ, newQ, e31, e26, e27, e28, show (C 41 6 - C 41 4 - 1) / 2 = (C 41 6 - C 41 4) / 2 by omega]
        have hq : 0 ≤ newQ C ((C 41 6 - C 41 4) / 2) ∧ newQ C ((C 41 6 - C 41 4) / 2) < C 44 3 := by unfold newQ; split <;> omega
        obtain ⟨q, hq0⟩ : ∃ q : Nat, newQ C ((C 41 6 - C 41 4) / 2) = q := ⟨(newQ C ((C 41 6 - C 41 4) / 2)).toNat, by omega⟩
        have hq120 : q < 120 := by omega
        have eC : dW C = mI (mI C 43 q ((oldB C (C 45 q) + C 46 q) % 256)) 41 6 (C 41 6 + 1) := by rw [dW, dW0, if_neg c1, if_neg c2, if_neg c3, hq0, Int.toNat_natCast]
        have eM : mW M = mI (mI (mI M 73 q (mNew M q)) 54 25 (M 54 25 + 1)) 54 26 (M 54 26 + 1) := by rw [mW, mW0, if_neg (by omega), if_neg (by omega), if_pos (by omega), hqq, hq0, Int.toNat_natCast]
        have hnew : mNew M q % 256 = (oldB C (C 45 q) + C 46 q) % 256 := by
          have u1q := u1 q (by omega)
          have b5q := b5 q (by omega)
          rw [mNew, zByte_m, u1q.1]
          by_cases e : C 45 q = -1
          · rw [if_pos e, u1q.2.1 e, e, oldB, if_pos (by omega)]; omega
          · obtain ⟨p, hp⟩ : ∃ p : Nat, C 45 q = p := ⟨(C 45 q).toNat, by omega⟩
            rw [if_neg e, u1q.2.2 e, hp, oldB, if_neg (show ¬ ((p : Int) < 0 ∨ (120 : Int) ≤ p) by omega), Int.toNat_natCast]
            by_cases e2 : C 47 p = 0
            · rw [(u3 p (by omega)).1 e2, if_pos rfl, if_neg (fun w => w e2)]
              have := (d2 p (by omega)).1.1
              omega
            · obtain ⟨k, k1, k2, k3⟩ := (u3 p (by omega)).2 e2
              have := (u2 k k1).2.2 (by omega)
              rw [k3, Int.toNat_natCast] at this
              rw [k2, if_neg (by omega), if_pos e2, Int.toNat_natCast]
              omega
        have gC : ∀ c, c ≠ 41 → c ≠ 43 → dW C c = C c := fun c h1 h2 => by rw [eC, mI_ne h1, mI_ne h2]
        have gC1 : ∀ j, j ≠ 6 → dW C 41 j = C 41 j := fun j h1 => by rw [eC, mI_nj h1, mI_ne (by decide)]
        have gC6 : dW C 41 6 = C 41 6 + 1 := by rw [eC, mI_eq]
        have gC3 : ∀ j, dW C 43 j = if j = q then (oldB C (C 45 q) + C 46 q) % 256 else C 43 j := fun j => by rw [eC, mI_ne (by decide), mI_row]
        have gM : ∀ c, c ≠ 54 → c ≠ 73 → mW M c = M c := fun c h1 h2 => by rw [eM, mI_ne h1, mI_ne h1, mI_ne h2]
        have gM1 : ∀ j, j ≠ 25 → j ≠ 26 → mW M 54 j = M 54 j := fun j h1 h2 => by rw [eM, mI_nj h2, mI_nj h1, mI_ne (by decide)]
        have gM6 : mW M 54 26 = M 54 26 + 1 := by rw [eM, mI_eq]
        have gM3 : ∀ j, mW M 73 j = if j = q then mNew M q else M 73 j := fun j => by rw [eM, mI_ne (by decide), mI_ne (by decide), mI_row]
        refine ⟨⟨?_, fun j hj => ?_, ?_, ?_, ?_, fun _ => ⟨hD, ?_, ?_, ?_, ?_, ?_, ?_, fun k' hk' => ?_, ?_⟩, ?_, ?_, ?_⟩, ?_⟩
        · rw [gM1 24 (by decide) (by decide), gC 42 (by decide) (by decide)]; exact ⟨d1a, d1b, d1c⟩
        · rw [gM3, gM 74 (by decide) (by decide), gC3, gC 49 (by decide) (by decide)]
          refine ⟨?_, (d2 j hj).2⟩
          by_cases e : j = q
          · rw [if_pos e, if_pos e]; exact ⟨hnew, zByte_in _⟩
          · rw [if_neg e, if_neg e]; exact (d2 j hj).1
        · rw [gM1 29 (by decide) (by decide), gC1 9 (by decide)]; exact ⟨d3a, d3b⟩
        · rw [gM1 30 (by decide) (by decide), gC1 10 (by decide)]; exact ⟨d4a, d4b⟩
        · rw [gC1 9 (by decide), gC1 10 (by decide)]; exact d5
        · rw [gM6, gC6, e26]
        · rw [gM1 27 (by decide) (by decide), gC1 4 (by decide)]; exact e27
        · rw [gM1 28 (by decide) (by decide), gC 44 (by decide) (by decide)]; exact e28
        · rw [gM1 31 (by decide) (by decide), gC1 5 (by decide)]; exact e31
        · rw [gC1 7 (by decide), gC1 4 (by decide), gC6, e7, if_pos (by omega), if_pos (by omega)]; omega
        · rw [gC 44 (by decide) (by decide), gC 45 (by decide) (by decide), gC 46 (by decide) (by decide), gM 75 (by decide) (by decide), gM 76 (by decide) (by decide), gM 77 (by decide) (by decide)]; exact u1
        · rw [gC1 4 (by decide)] at hk'
          have u2q := u2 k' hk'
          rw [gM 78 (by decide) (by decide), gM 79 (by decide) (by decide), gC 48 (by decide) (by decide), gM 74 (by decide) (by decide), gC 49 (by decide) (by decide)]
          exact ⟨u2q.1, u2q.2.1, fun _ => u2q.2.2 (by omega)⟩
        · rw [gC 47 (by decide) (by decide), gC 48 (by decide) (by decide), gC1 4 (by decide), gM 79 (by decide) (by decide)]; exact u3
        · rw [gC1 4 (by decide)]; exact d7
        · rw [gC1 7 (by decide)]; exact d8
        · rw [gC 44 (by decide) (by decide)]; exact d9
        · rw [gC1 10 (by decide)]; exact hc
def mIt : Nat → (Nat → Nat → Int) → (Nat → Nat → Int) × Nat
  | 0, I => (I, 0)
  | k + 1, I => if I 54 29 ≠ 0 then ((mIt k (mW I)).1, (mIt k (mW I)).2 + 1) else (I, 0)
/-- what writes leave as it was -/
theorem mW_fr (M : Nat → Nat → Int) : (∀ c, c ≠ 54 → c ≠ 73 → c ≠ 74 → mW M c = M c) ∧ ∀ j, j < 24 ∨ 31 < j → mW M 54 j = M 54 j := by
  refine ⟨fun c c1 c2 c3 => ?_, fun j hj => ?_⟩
  · unfold mW mW0
    rw [mI_ne c1, mI_ne c1]
    split
    · rw [mI_ne c3]
    · split
      · rw [mI_ne c1, mI_ne c1]
      · split
        · rw [mI_ne c2]
        · rfl
  · unfold mW mW0
    rw [mI_nj (by omega), mI_nj (by omega)]
    split
    · rw [mI_ne (by decide)]
    · split
      · rw [mI_nj (by omega), mI_nj (by omega)]
      · split
        · rw [mI_ne (by decide)]
        · rfl
theorem dW_fr (C : Nat → Nat → Int) : ∀ c, c ≠ 41 → c ≠ 42 → c ≠ 43 → c ≠ 49 → dW C c = C c := by
  intro c c1 c2 c3 c4
  unfold dW dW0
  rw [mI_ne c1]
  split
  · rw [mI_ne c4]
  · split
    · rw [mI_ne c1, mI_ne c1, mI_ne c2]
    · split
      · rw [mI_ne c1]
      · rw [mI_ne c3]
theorem mIt_fr : ∀ (k : Nat) (M : Nat → Nat → Int), (∀ c, c ≠ 54 → c ≠ 73 → c ≠ 74 → (mIt k M).1 c = M c) ∧ (∀ j, j < 24 ∨ 31 < j → (mIt k M).1 54 j = M 54 j) ∧ (mIt k M).1 54 25 = M 54 25 + ((mIt k M).2 : Nat) ∧ (mIt k M).2 ≤ k
  | 0, M => ⟨fun _ _ _ _ => rfl, fun _ _ => rfl, by simp [mIt], Nat.le_refl _⟩
  | k + 1, M => by
    rw [mIt]
    split
    · have ih := mIt_fr k (mW M)
      refine ⟨fun c c1 c2 c3 => (ih.1 c c1 c2 c3).trans ((mW_fr M).1 c c1 c2 c3), fun j hj => (ih.2.1 j hj).trans ((mW_fr M).2 j hj), ?_, ?_⟩
      · have e := ih.2.2.1
        rw [mW_25] at e
        show (mIt k (mW M)).1 54 25 = M 54 25 + (((mIt k (mW M)).2 + 1 : Nat) : Int)
        omega
      · show (mIt k (mW M)).2 + 1 ≤ k + 1
        have := ih.2.2.2
        omega
    · exact ⟨fun _ _ _ _ => rfl, fun _ _ => rfl, by simp, Nat.zero_le _⟩
theorem dIt_fr : ∀ (k : Nat) (C : Nat → Nat → Int), ∀ c, c ≠ 41 → c ≠ 42 → c ≠ 43 → c ≠ 49 → (dIt k C).1 c = C c
  | 0, C => fun _ _ _ _ _ => rfl
  | k + 1, C => by
    rw [dIt]
    split
    · exact fun c c1 c2 c3 c4 => (dIt_fr k (dW C) c c1 c2 c3 c4).trans (dW_fr C c c1 c2 c3 c4)
    · exact fun _ _ _ _ _ => rfl
theorem DV.it : ∀ (k : Nat) {C M : Nat → Nat → Int}, DV C M → C 41 10 = 0 → DV (dIt k C).1 (mIt k M).1 ∧ (dIt k C).2 = (mIt k M).2
  | 0, C, M, h, hc => ⟨h, rfl⟩
  | k + 1, C, M, h, hc => by
    rw [dIt, mIt]
    by_cases e : C 41 9 ≠ 0
    · have e2 : M 54 29 ≠ 0 := by rw [h.2.2.1.1]; exact e
      rw [if_pos e, if_pos e2]
      have hx := DV.next h e hc
      have ih := DV.it k hx.1 hx.2
      exact ⟨ih.1, congrArg (· + 1) ih.2⟩
    · have e2 : ¬ M 54 29 ≠ 0 := by rw [h.2.2.1.1]; exact e
      rw [if_neg e, if_neg e2]
      exact ⟨h, rfl⟩
set_option maxHeartbeats 4000000 in
set_option maxRecDepth 100000 in
theorem k_X8_write {C : Nat → Nat → Int} {n : Int} (hW : Wd T L P) (hD : DV C I) (h25 : 0 ≤ I 54 25 ∧ I 54 25 ≤ 1000000000) : iX8_write [.inr (some 54), .inl n] T L P I hn (fun r J => (¬ (0 ≤ n ∧ n ≤ 1000) ∧ r = some (.inl (-1)) ∧ J = I) ∨ ((0 ≤ n ∧ n ≤ 1000) ∧ (I 54 29 = 0 ∨ I 54 30 ≠ 0) ∧ r = some (.inl (-2)) ∧ J = I) ∨ ((0 ≤ n ∧ n ≤ 1000) ∧ I 54 29 ≠ 0 ∧ I 54 30 = 0 ∧ r = some (.inl ((mIt n.toNat I).2 : Nat)) ∧ J = (mIt n.toNat I).1)) := by
  refine CT.by (by decide) (Nat.le_of_ble_eq_true rfl) fun X Y Q hQ K hv => ?_
  have loop : (0 ≤ n ∧ n ≤ 1000) → I 54 29 ≠ 0 → I 54 30 = 0 → ∀ (d k : Nat) (C J : Nat → Nat → Int), (k : Int) + d = n → DV C J → C 41 10 = 0 → J 54 25 = I 54 25 + k → (mIt d J).1 = (mIt n.toNat I).1 → k + (mIt d J).2 = (mIt n.toNat I).2 → RR X Y Q 0 0 32 [some (.inr (some 54)), some (.inl n), some (.inl (k : Int))] [] T L P J hn := by
    intro h1 h2 h3 d
    induction d with
    | zero =>
      intro k C J hk hDJ hc h5 e1 e2
      have e1 : J = (mIt n.toNat I).1 := e1
      have e2 : k = (mIt n.toNat I).2 := e2
      refine r_iload_n K dX8_write_32 rfl ?_
      refine r_iload_n K dX8_write_33 rfl ?_
      refine r_icmp_ge K 58 dX8_write_34 (by decide) (fun c34 => ?_) (fun c34 => ?_)
      · refine r_iload_n K dX8_write_58 rfl ?_
        exact q_iret K hQ rfl dX8_write_59 (Nat.le_refl _) (Nat.le_refl _) (⟨rfl, rfl, rfl, rfl, Or.inr (Or.inr ⟨h1, h2, h3, by rw [e2], e1⟩)⟩)
      · exact absurd c34 (by omega)
    | succ d ih =>
      intro k C J hk hDJ hc h5 e1 e2
      rw [mIt] at e1 e2
      refine r_iload_n K dX8_write_32 rfl ?_
      refine r_iload_n K dX8_write_33 rfl ?_
      refine r_icmp_ge K 58 dX8_write_34 (by decide) (fun c34 => ?_) (fun c34 => ?_)
      · exact absurd c34 (by omega)
      · refine r_aload_n K dX8_write_37 rfl ?_
        refine r_getI K dX8_write_38 f_X8_166 rfl (by first | assumption | exact hW.1 _ _ rfl | exact hW.2.2.1 _ _ _ rfl) ?_
        refine r_if_eq K 58 dX8_write_41 (by decide) (fun c41 => ?_) (fun c41 => ?_)
        · rw [if_neg (by omega)] at e1 e2
          have e1 : J = (mIt n.toNat I).1 := e1
          have e2 : k = (mIt n.toNat I).2 := e2
          refine r_iload_n K dX8_write_58 rfl ?_
          exact q_iret K hQ rfl dX8_write_59 (Nat.le_refl _) (Nat.le_refl _) (⟨rfl, rfl, rfl, rfl, Or.inr (Or.inr ⟨h1, h2, h3, by rw [e2], e1⟩)⟩)
        · rw [if_pos c41] at e1 e2
          have e1 : (mIt d (mW J)).1 = (mIt n.toNat I).1 := e1
          have e2 : k + ((mIt d (mW J)).2 + 1) = (mIt n.toNat I).2 := e2
          have hb : C 41 9 ≠ 0 := by rw [← hDJ.2.2.1.1]; exact c41
          refine r_aload_n K dX8_write_44 rfl ?_
          refine r_aload_n K dX8_write_45 rfl ?_
          refine r_getI K dX8_write_46 f_X8_190 rfl (by first | assumption | exact hW.1 _ _ rfl | exact hW.2.2.1 _ _ _ rfl) ?_
          refine rcV1i K dX8_write_49 c_X8_199 v_X8_writeOne (by first | assumption | exact hW.1 _ _ rfl | exact hW.2.2.1 _ _ _ rfl) (k_writeOne hW hDJ hb rfl (by omega)) (by decide) (Nat.le_of_ble_eq_true rfl) ?_
          rintro _ J1 ⟨rfl, hJ1⟩
          refine r_iinc K dX8_write_52 (by decide) rfl ?_
          refine r_goto K 32 dX8_write_55 (by decide) ?_
          subst hJ1
          have hx := DV.next hDJ hb hc
          exact ih (k + 1) _ _ (by omega) hx.1 hx.2 (by rw [mW_25]; omega) e1 (by omega)
  refine r_iload_n K dX8_write_0 rfl ?_
  refine r_iconst K dX8_write_1 ?_
  refine r_sipush K dX8_write_2 ?_
  refine rcS3p K dX8_write_5 c_X8_99 s_X8_isIn k_isIn (by decide) (Nat.le_of_ble_eq_true rfl) ?_
  refine r_if_ne K 13 dX8_write_8 (by decide) (fun c8 => ?_) (fun c8 => ?_)
  · have h1 : 0 ≤ n ∧ n ≤ 1000 := by
      by_cases q : 0 ≤ n ∧ n ≤ 1000
      · exact q
      · rw [if_neg q] at c8; exact absurd rfl c8
    refine r_aload_n K dX8_write_13 rfl ?_
    refine r_getI K dX8_write_14 f_X8_166 rfl (by first | assumption | exact hW.1 _ _ rfl | exact hW.2.2.1 _ _ _ rfl) ?_
    refine r_if_eq K 27 dX8_write_17 (by decide) (fun c17 => ?_) (fun c17 => ?_)
    · refine r_bipush K dX8_write_27 ?_
      exact q_iret K hQ rfl dX8_write_29 (Nat.le_refl _) (Nat.le_refl _) (⟨rfl, rfl, rfl, rfl, Or.inr (Or.inl ⟨h1, by omega, rfl, rfl⟩)⟩)
    · refine r_aload_n K dX8_write_20 rfl ?_
      refine r_getI K dX8_write_21 f_X8_170 rfl (by first | assumption | exact hW.1 _ _ rfl | exact hW.2.2.1 _ _ _ rfl) ?_
      refine r_if_eq K 30 dX8_write_24 (by decide) (fun c24 => ?_) (fun c24 => ?_)
      · refine r_iconst K dX8_write_30 ?_
        refine r_istore_n K dX8_write_31 (by decide) ?_
        exact loop h1 c17 c24 n.toNat 0 C I (by omega) hD (by rw [← hD.2.2.2.1.1]; exact c24) (by omega) rfl (by omega)
      · refine r_bipush K dX8_write_27 ?_
        exact q_iret K hQ rfl dX8_write_29 (Nat.le_refl _) (Nat.le_refl _) (⟨rfl, rfl, rfl, rfl, Or.inr (Or.inl ⟨h1, by omega, rfl, rfl⟩)⟩)
  · have h1 : ¬ (0 ≤ n ∧ n ≤ 1000) := fun q => by rw [if_pos q] at c8; exact absurd c8 (by decide)
    refine r_iconst K dX8_write_11 ?_
    exact q_iret K hQ rfl dX8_write_12 (Nat.le_refl _) (Nat.le_refl _) (⟨rfl, rfl, rfl, rfl, Or.inl ⟨h1, rfl, rfl⟩⟩)
set_option maxHeartbeats 4000000 in
set_option maxRecDepth 100000 in
theorem k_X8_cut (hW : Wd T L P) : iX8_cut [.inr (some 54)] T L P I hn (fun r J => r = some (.inl (if I 54 29 ≠ 0 ∧ I 54 30 = 0 then 1 else 0)) ∧ J = if I 54 29 ≠ 0 ∧ I 54 30 = 0 then mI I 54 30 1 else I) := by
  refine CT.by (by decide) (Nat.le_of_ble_eq_true rfl) fun X Y Q hQ K hv => ?_
  refine r_aload_n K dX8_cut_0 rfl ?_
  refine r_getI K dX8_cut_1 f_X8_166 rfl (by first | assumption | exact hW.1 _ _ rfl | exact hW.2.2.1 _ _ _ rfl) ?_
  refine r_if_eq K 14 dX8_cut_4 (by decide) (fun c4 => ?_) (fun c4 => ?_)
  · refine r_iconst K dX8_cut_14 ?_
    exact q_zret K hQ rfl dX8_cut_15 (by first | exact Or.inl rfl | exact Or.inr rfl) (Nat.le_refl _) (Nat.le_refl _) (⟨rfl, rfl, rfl, rfl, by rw [if_neg (by omega)], by rw [if_neg (by omega)]⟩)
  · refine r_aload_n K dX8_cut_7 rfl ?_
    refine r_getI K dX8_cut_8 f_X8_170 rfl (by first | assumption | exact hW.1 _ _ rfl | exact hW.2.2.1 _ _ _ rfl) ?_
    refine r_if_eq K 16 dX8_cut_11 (by decide) (fun c11 => ?_) (fun c11 => ?_)
    · refine r_aload_n K dX8_cut_16 rfl ?_
      refine r_iconst K dX8_cut_17 ?_
      refine r_putI K dX8_cut_18 f_X8_170 rfl rfl (Or.inr ⟨rfl, by first | exact Or.inl rfl | exact Or.inr rfl⟩) (by first | assumption | exact hW.1 _ _ rfl | exact hW.2.2.1 _ _ _ rfl) ?_
      refine r_iconst K dX8_cut_21 ?_
      exact q_zret K hQ rfl dX8_cut_22 (by first | exact Or.inl rfl | exact Or.inr rfl) (Nat.le_refl _) (Nat.le_refl _) (⟨rfl, rfl, rfl, rfl, by rw [if_pos ⟨c4, c11⟩], by rw [if_pos ⟨c4, c11⟩]⟩)
    · refine r_iconst K dX8_cut_14 ?_
      exact q_zret K hQ rfl dX8_cut_15 (by first | exact Or.inl rfl | exact Or.inr rfl) (Nat.le_refl _) (Nat.le_refl _) (⟨rfl, rfl, rfl, rfl, by rw [if_neg (by omega)], by rw [if_neg (by omega)]⟩)
/-- where the model goes on -/
def mOn (I : Nat → Nat → Int) : Int := if I 54 26 ≤ I 54 27 then 0 else I 54 26 - (I 54 26 - I 54 27 - 1) % 2
set_option maxHeartbeats 4000000 in
set_option maxRecDepth 100000 in
theorem k_X8_on {C : Nat → Nat → Int} (hW : Wd T L P) (hD : DV C I) : iX8_on [.inr (some 54)] T L P I hn (fun r J => (I 54 30 = 0 ∧ r = some (.inl (-2)) ∧ J = I) ∨ (I 54 30 ≠ 0 ∧ r = some (.inl (mAll I - mOn I)) ∧ J = mI (mI I 54 30 0) 54 26 (mOn I))) := by
  refine CT.by (by decide) (Nat.le_of_ble_eq_true rfl) fun X Y Q hQ K hv => ?_
  obtain ⟨-, d2, ⟨d3a, d3b⟩, ⟨d4a, d4b⟩, d5, d6, -⟩ := hD
  have j56 : ∀ (J : Nat → Nat → Int), I 54 30 ≠ 0 → (0 ≤ I 54 26 ∧ I 54 26 ≤ 1000 ∧ 0 ≤ I 54 27 ∧ I 54 27 ≤ 120 ∧ 0 ≤ I 54 28 ∧ I 54 28 ≤ 120) → J = mI (mI I 54 30 0) 54 26 (mOn I) → RR X Y Q 0 0 56 [some (.inr (some 54))] [] T L P J hn := by
    intro J hc hbd hJ
    have e27 : J 54 27 = I 54 27 := by rw [hJ, mI_nj (by decide), mI_nj (by decide)]
    have e28 : J 54 28 = I 54 28 := by rw [hJ, mI_nj (by decide), mI_nj (by decide)]
    have e26 : J 54 26 = mOn I := by rw [hJ, mI_eq]
    have eA : mAll J = mAll I := by rw [mAll, mAll, e27, e28]
    have hA : mAll I = I 54 27 + 2 + 2 * I 54 28 := rfl
    have hO : 0 ≤ mOn I ∧ mOn I ≤ 1000 := by unfold mOn; split <;> omega
    refine r_aload_n K dX8_on_56 rfl ?_
    refine rcV0p K dX8_on_57 c_X8_193 v_X8_allWrites (by first | assumption | exact hW.1 _ _ rfl | exact hW.2.2.1 _ _ _ rfl) (k_X8_allWrites hW (by omega) (by omega)) (by decide) (Nat.le_of_ble_eq_true rfl) ?_
    rw [eA]
    refine r_aload_n K dX8_on_60 rfl ?_
    refine r_getI K dX8_on_61 f_X8_190 rfl (by first | assumption | exact hW.1 _ _ rfl | exact hW.2.2.1 _ _ _ rfl) ?_
    rw [e26]
    refine r_isub K dX8_on_64 ?_
    exact q_iret K hQ rfl dX8_on_65 (Nat.le_refl _) (Nat.le_refl _) (⟨rfl, rfl, rfl, rfl, Or.inr ⟨hc, rfl, hJ⟩⟩)
  refine r_aload_n K dX8_on_0 rfl ?_
  refine r_getI K dX8_on_1 f_X8_170 rfl (by first | assumption | exact hW.1 _ _ rfl | exact hW.2.2.1 _ _ _ rfl) ?_
  refine r_if_ne K 10 dX8_on_4 (by decide) (fun c4 => ?_) (fun c4 => ?_)
  · have hb : C 41 9 ≠ 0 := fun q => c4 (by rw [d4a]; exact d5 q)
    obtain ⟨⟨b1, b2, b3, -⟩, e26, e27, e28, -⟩ := d6 hb
    have hall : dAll C = C 41 4 + 1 + 2 * C 44 3 + 1 := rfl
    refine r_aload_n K dX8_on_10 rfl ?_
    refine r_iconst K dX8_on_11 ?_
    refine r_putI K dX8_on_12 f_X8_170 rfl rfl (Or.inr ⟨rfl, by first | exact Or.inl rfl | exact Or.inr rfl⟩) (by first | assumption | exact hW.1 _ _ rfl | exact hW.2.2.1 _ _ _ rfl) ?_
    refine r_aload_n K dX8_on_15 rfl ?_
    refine r_getI K dX8_on_16 f_X8_190 rfl (by first | assumption | exact hW.1 _ _ rfl | exact hW.2.2.1 _ _ _ rfl) ?_
    try simp only [mI_row, Nat.reduceEqDiff, if_false, if_true]
    refine r_aload_n K dX8_on_19 rfl ?_
    refine r_getI K dX8_on_20 f_X8_173 rfl (by first | assumption | exact hW.1 _ _ rfl | exact hW.2.2.1 _ _ _ rfl) ?_
    try simp only [mI_row, Nat.reduceEqDiff, if_false, if_true]
    refine r_icmp_gt K 34 dX8_on_23 (by decide) (fun c23 => ?_) (fun c23 => ?_)
    · refine r_aload_n K dX8_on_34 rfl ?_
      refine r_dup K dX8_on_35 ?_
      refine r_getI K dX8_on_36 f_X8_190 rfl (by first | assumption | exact hW.1 _ _ rfl | exact hW.2.2.1 _ _ _ rfl) ?_
      try simp only [mI_row, Nat.reduceEqDiff, if_false, if_true]
      refine r_aload_n K dX8_on_39 rfl ?_
      refine r_getI K dX8_on_40 f_X8_190 rfl (by first | assumption | exact hW.1 _ _ rfl | exact hW.2.2.1 _ _ _ rfl) ?_
      try simp only [mI_row, Nat.reduceEqDiff, if_false, if_true]
      refine r_aload_n K dX8_on_43 rfl ?_
      refine r_getI K dX8_on_44 f_X8_173 rfl (by first | assumption | exact hW.1 _ _ rfl | exact hW.2.2.1 _ _ _ rfl) ?_
      try simp only [mI_row, Nat.reduceEqDiff, if_false, if_true]
      refine r_isub K dX8_on_47 ?_
      refine r_iconst K dX8_on_48 ?_
      refine r_isub K dX8_on_49 ?_
      refine r_iconst K dX8_on_50 ?_
      refine r_irem K dX8_on_51 (by omega) (by omega) ?_
      refine r_isub K dX8_on_52 ?_
      refine r_putI K dX8_on_53 f_X8_190 rfl rfl (Or.inl rfl) (by first | assumption | exact hW.1 _ _ rfl | exact hW.2.2.1 _ _ _ rfl) ?_
      first
      | exact j56 _ c4 (by omega) (by rw [mOn, if_pos (by omega)])
      | exact j56 _ c4 (by omega) (by rw [mOn, if_neg (by omega)])
    · refine r_aload_n K dX8_on_26 rfl ?_
      refine r_iconst K dX8_on_27 ?_
      refine r_putI K dX8_on_28 f_X8_190 rfl rfl (Or.inl rfl) (by first | assumption | exact hW.1 _ _ rfl | exact hW.2.2.1 _ _ _ rfl) ?_
      refine r_goto K 56 dX8_on_31 (by decide) ?_
      first
      | exact j56 _ c4 (by omega) (by rw [mOn, if_pos (by omega)])
      | exact j56 _ c4 (by omega) (by rw [mOn, if_neg (by omega)])
  · refine r_bipush K dX8_on_7 ?_
    exact q_iret K hQ rfl dX8_on_9 (Nat.le_refl _) (Nat.le_refl _) (⟨rfl, rfl, rfl, rfl, Or.inl ⟨c4, rfl, rfl⟩⟩)
/-- what the model's device tells -/
def mTell (I : Nat → Nat → Int) (what : Int) : Int :=
  if what = 0 then I 54 24 else if what = 1 then ck (aBy I) (I 54 24).toNat else if what = 2 then (if I 54 29 = 0 then 0 else if I 54 30 = 0 then 1 else 2) else if what = 3 then I 54 25 else if what = 4 then (if I 54 29 = 0 then 0 else if I 54 27 < I 54 26 then I 54 27 else I 54 26) else if what = 5 then (if I 54 29 = 0 then -1 else if I 54 27 < I 54 26 then (I 54 26 - I 54 27 - 1) / 2 else -1) else if what = 6 then (if I 54 29 = 0 then -1 else if I 54 31 = 0 then 0 else 1) else if 10 ≤ what ∧ what ≤ 129 then aBy I (what - 10).toNat else -1
set_option maxHeartbeats 4000000 in
set_option maxRecDepth 100000 in
theorem k_X8_device {C : Nat → Nat → Int} {what : Int} (hW : Wd T L P) (hD : DV C I) : pX8_device [.inr (some 54), .inl what] T L P I hn (.inl (mTell I what)) := by
  refine CT.by (by decide) (Nat.le_of_ble_eq_true rfl) fun X Y Q hQ K hv => ?_
  have l57 : L 57 = 5 := hW.2.1 57 5 rfl (by decide)
  have l56 : L 56 = 600 := hW.2.1 56 600 rfl (by decide)
  have l73 : L 73 = 120 := hW.2.1 73 120 rfl (by decide)
  have l74 : L 74 = 120 := hW.2.1 74 120 rfl (by decide)
  have l75 : L 75 = 120 := hW.2.1 75 120 rfl (by decide)
  have l76 : L 76 = 120 := hW.2.1 76 120 rfl (by decide)
  have l77 : L 77 = 120 := hW.2.1 77 120 rfl (by decide)
  have l78 : L 78 = 120 := hW.2.1 78 120 rfl (by decide)
  have l79 : L 79 = 120 := hW.2.1 79 120 rfl (by decide)
  obtain ⟨⟨d1a, d1b, d1c⟩, d2, ⟨d3a, d3b⟩, ⟨d4a, d4b⟩, d5, d6, -⟩ := hD
  have hu : I 54 29 ≠ 0 → 0 ≤ I 54 26 ∧ I 54 26 ≤ 1000 ∧ 0 ≤ I 54 27 ∧ I 54 27 ≤ 120 := fun h => by
    obtain ⟨⟨b1, b2, b3, -⟩, e26, e27, e28, -⟩ := d6 (by rw [← d3a]; exact h)
    have hall : dAll C = C 41 4 + 1 + 2 * C 44 3 + 1 := rfl
    omega
  refine r_iload_n K dX8_device_0 rfl ?_
  rcases (by omega : what = 0 ∨ what = 1 ∨ what = 2 ∨ what = 3 ∨ what = 4 ∨ what = 5 ∨ what = 6 ∨ (what < 0 ∨ 6 < what)) with hw | hw | hw | hw | hw | hw | hw | hw
  · refine r_tableIn K 44 dX8_device_1 (by omega) (by omega) (by rw [hw]; rfl) (by decide) ?_
    refine r_aload_n K dX8_device_44 rfl ?_
    refine r_getI K dX8_device_45 f_X8_163 rfl (by first | assumption | exact hW.1 _ _ rfl | exact hW.2.2.1 _ _ _ rfl) ?_
    exact q_iret K hQ rfl dX8_device_48 (Nat.le_refl _) (Nat.le_refl _) (⟨by subst hw; rfl, rfl, rfl, rfl, rfl, rfl⟩)
  · refine r_tableIn K 49 dX8_device_1 (by omega) (by omega) (by rw [hw]; rfl) (by decide) ?_
    refine r_aload_n K dX8_device_49 rfl ?_
    refine rcV0p K dX8_device_50 c_X8_179 v_X8_checkOfArea (by first | assumption | exact hW.1 _ _ rfl | exact hW.2.2.1 _ _ _ rfl) (k_checkOfArea hW (by omega) (fun j hj => (d2 j hj).1.2)) (by decide) (Nat.le_of_ble_eq_true rfl) ?_
    exact q_iret K hQ rfl dX8_device_53 (Nat.le_refl _) (Nat.le_refl _) (⟨by subst hw; rfl, rfl, rfl, rfl, rfl, rfl⟩)
  · refine r_tableIn K 54 dX8_device_1 (by omega) (by omega) (by rw [hw]; rfl) (by decide) ?_
    refine r_aload_n K dX8_device_54 rfl ?_
    refine r_getI K dX8_device_55 f_X8_166 rfl (by first | assumption | exact hW.1 _ _ rfl | exact hW.2.2.1 _ _ _ rfl) ?_
    refine r_if_ne K 65 dX8_device_58 (by decide) (fun c58 => ?_) (fun c58 => ?_)
    · refine r_aload_n K dX8_device_65 rfl ?_
      refine r_getI K dX8_device_66 f_X8_170 rfl (by first | assumption | exact hW.1 _ _ rfl | exact hW.2.2.1 _ _ _ rfl) ?_
      refine r_if_eq K 76 dX8_device_69 (by decide) (fun c69 => ?_) (fun c69 => ?_)
      · refine r_iconst K dX8_device_76 ?_
        exact q_iret K hQ rfl dX8_device_77 (Nat.le_refl _) (Nat.le_refl _) (⟨by subst hw; rw [mTell]; simp only [Int.reduceEq, if_true, if_false]; first | rw [if_pos c58] | (rw [if_neg c58]; first | rw [if_pos c69] | rw [if_neg c69]), rfl, rfl, rfl, rfl, rfl⟩)
      · refine r_iconst K dX8_device_72 ?_
        refine r_goto K 77 dX8_device_73 (by decide) ?_
        exact q_iret K hQ rfl dX8_device_77 (Nat.le_refl _) (Nat.le_refl _) (⟨by subst hw; rw [mTell]; simp only [Int.reduceEq, if_true, if_false]; first | rw [if_pos c58] | (rw [if_neg c58]; first | rw [if_pos c69] | rw [if_neg c69]), rfl, rfl, rfl, rfl, rfl⟩)
    · refine r_iconst K dX8_device_61 ?_
      refine r_goto K 77 dX8_device_62 (by decide) ?_
      exact q_iret K hQ rfl dX8_device_77 (Nat.le_refl _) (Nat.le_refl _) (⟨by subst hw; rw [mTell]; simp only [Int.reduceEq, if_true, if_false]; first | rw [if_pos c58] | (rw [if_neg c58]; first | rw [if_pos c69] | rw [if_neg c69]), rfl, rfl, rfl, rfl, rfl⟩)
  · refine r_tableIn K 78 dX8_device_1 (by omega) (by omega) (by rw [hw]; rfl) (by decide) ?_
    refine r_aload_n K dX8_device_78 rfl ?_
    refine r_getI K dX8_device_79 f_X8_196 rfl (by first | assumption | exact hW.1 _ _ rfl | exact hW.2.2.1 _ _ _ rfl) ?_
    exact q_iret K hQ rfl dX8_device_82 (Nat.le_refl _) (Nat.le_refl _) (⟨by subst hw; rfl, rfl, rfl, rfl, rfl, rfl⟩)
  · refine r_tableIn K 83 dX8_device_1 (by omega) (by omega) (by rw [hw]; rfl) (by decide) ?_
    refine r_aload_n K dX8_device_83 rfl ?_
    refine r_getI K dX8_device_84 f_X8_166 rfl (by first | assumption | exact hW.1 _ _ rfl | exact hW.2.2.1 _ _ _ rfl) ?_
    refine r_if_eq K 104 dX8_device_87 (by decide) (fun c87 => ?_) (fun c87 => ?_)
    · refine r_iconst K dX8_device_104 ?_
      exact q_iret K hQ rfl dX8_device_105 (Nat.le_refl _) (Nat.le_refl _) (⟨by subst hw; rw [mTell]; simp only [Int.reduceEq, if_true, if_false]; first | rw [if_pos c87] | rw [if_neg c87], rfl, rfl, rfl, rfl, rfl⟩)
    · refine r_aload_n K dX8_device_90 rfl ?_
      refine r_getI K dX8_device_91 f_X8_190 rfl (by first | assumption | exact hW.1 _ _ rfl | exact hW.2.2.1 _ _ _ rfl) ?_
      refine r_aload_n K dX8_device_94 rfl ?_
      refine r_getI K dX8_device_95 f_X8_173 rfl (by first | assumption | exact hW.1 _ _ rfl | exact hW.2.2.1 _ _ _ rfl) ?_
      refine r_min K dX8_device_98 m_X8_111 (Nat.le_of_ble_eq_true rfl) (Nat.le_of_ble_eq_true rfl) (Nat.le_of_ble_eq_true rfl) (Nat.le_of_ble_eq_true rfl) ?_
      refine r_goto K 105 dX8_device_101 (by decide) ?_
      exact q_iret K hQ rfl dX8_device_105 (Nat.le_refl _) (Nat.le_refl _) (⟨by subst hw; rw [mTell]; simp only [Int.reduceEq, if_true, if_false]; first | rw [if_pos c87] | rw [if_neg c87], rfl, rfl, rfl, rfl, rfl⟩)
  · refine r_tableIn K 106 dX8_device_1 (by omega) (by omega) (by rw [hw]; rfl) (by decide) ?_
    refine r_aload_n K dX8_device_106 rfl ?_
    refine r_getI K dX8_device_107 f_X8_166 rfl (by first | assumption | exact hW.1 _ _ rfl | exact hW.2.2.1 _ _ _ rfl) ?_
    refine r_if_eq K 140 dX8_device_110 (by decide) (fun c110 => ?_) (fun c110 => ?_)
    · refine r_iconst K dX8_device_140 ?_
      exact q_iret K hQ rfl dX8_device_141 (Nat.le_refl _) (Nat.le_refl _) (⟨by subst hw; rw [mTell]; simp only [Int.reduceEq, if_true, if_false]; first | rw [if_pos c110] | (rw [if_neg c110]; first | rw [if_pos (by omega)] | rw [if_neg (by omega)]), rfl, rfl, rfl, rfl, rfl⟩)
    · have hu1 := hu c110
      refine r_aload_n K dX8_device_113 rfl ?_
      refine r_getI K dX8_device_114 f_X8_190 rfl (by first | assumption | exact hW.1 _ _ rfl | exact hW.2.2.1 _ _ _ rfl) ?_
      refine r_aload_n K dX8_device_117 rfl ?_
      refine r_getI K dX8_device_118 f_X8_173 rfl (by first | assumption | exact hW.1 _ _ rfl | exact hW.2.2.1 _ _ _ rfl) ?_
      refine r_icmp_le K 140 dX8_device_121 (by decide) (fun c121 => ?_) (fun c121 => ?_)
      · refine r_iconst K dX8_device_140 ?_
        exact q_iret K hQ rfl dX8_device_141 (Nat.le_refl _) (Nat.le_refl _) (⟨by subst hw; rw [mTell]; simp only [Int.reduceEq, if_true, if_false]; first | rw [if_pos c110] | (rw [if_neg c110]; first | rw [if_pos (by omega)] | rw [if_neg (by omega)]), rfl, rfl, rfl, rfl, rfl⟩)
      · refine r_aload_n K dX8_device_124 rfl ?_
        refine r_getI K dX8_device_125 f_X8_190 rfl (by first | assumption | exact hW.1 _ _ rfl | exact hW.2.2.1 _ _ _ rfl) ?_
        refine r_aload_n K dX8_device_128 rfl ?_
        refine r_getI K dX8_device_129 f_X8_173 rfl (by first | assumption | exact hW.1 _ _ rfl | exact hW.2.2.1 _ _ _ rfl) ?_
        refine r_isub K dX8_device_132 ?_
        refine r_iconst K dX8_device_133 ?_
        refine r_isub K dX8_device_134 ?_
        refine r_iconst K dX8_device_135 ?_
        refine r_idiv K dX8_device_136 (by omega) (by omega) ?_
        refine r_goto K 141 dX8_device_137 (by decide) ?_
        exact q_iret K hQ rfl dX8_device_141 (Nat.le_refl _) (Nat.le_refl _) (⟨by subst hw; rw [mTell]; simp only [Int.reduceEq, if_true, if_false]; first | rw [if_pos c110] | (rw [if_neg c110]; first | rw [if_pos (by omega)] | rw [if_neg (by omega)]), rfl, rfl, rfl, rfl, rfl⟩)
  · refine r_tableIn K 142 dX8_device_1 (by omega) (by omega) (by rw [hw]; rfl) (by decide) ?_
    refine r_aload_n K dX8_device_142 rfl ?_
    refine r_getI K dX8_device_143 f_X8_166 rfl (by first | assumption | exact hW.1 _ _ rfl | exact hW.2.2.1 _ _ _ rfl) ?_
    refine r_if_ne K 153 dX8_device_146 (by decide) (fun c146 => ?_) (fun c146 => ?_)
    · refine r_aload_n K dX8_device_153 rfl ?_
      refine r_getI K dX8_device_154 f_X8_187 rfl (by first | assumption | exact hW.1 _ _ rfl | exact hW.2.2.1 _ _ _ rfl) ?_
      refine r_if_eq K 164 dX8_device_157 (by decide) (fun c157 => ?_) (fun c157 => ?_)
      · refine r_iconst K dX8_device_164 ?_
        exact q_iret K hQ rfl dX8_device_165 (Nat.le_refl _) (Nat.le_refl _) (⟨by subst hw; rw [mTell]; simp only [Int.reduceEq, if_true, if_false]; first | rw [if_pos c146] | (rw [if_neg c146]; first | rw [if_pos c157] | rw [if_neg c157]), rfl, rfl, rfl, rfl, rfl⟩)
      · refine r_iconst K dX8_device_160 ?_
        refine r_goto K 165 dX8_device_161 (by decide) ?_
        exact q_iret K hQ rfl dX8_device_165 (Nat.le_refl _) (Nat.le_refl _) (⟨by subst hw; rw [mTell]; simp only [Int.reduceEq, if_true, if_false]; first | rw [if_pos c146] | (rw [if_neg c146]; first | rw [if_pos c157] | rw [if_neg c157]), rfl, rfl, rfl, rfl, rfl⟩)
    · refine r_iconst K dX8_device_149 ?_
      refine r_goto K 165 dX8_device_150 (by decide) ?_
      exact q_iret K hQ rfl dX8_device_165 (Nat.le_refl _) (Nat.le_refl _) (⟨by subst hw; rw [mTell]; simp only [Int.reduceEq, if_true, if_false]; first | rw [if_pos c146] | (rw [if_neg c146]; first | rw [if_pos c157] | rw [if_neg c157]), rfl, rfl, rfl, rfl, rfl⟩)
  · refine r_tableOut K 166 dX8_device_1 hw (by decide) ?_
    refine r_iload_n K dX8_device_166 rfl ?_
    refine r_bipush K dX8_device_167 ?_
    refine r_sipush K dX8_device_169 ?_
    refine rcS3p K dX8_device_172 c_X8_99 s_X8_isIn k_isIn (by decide) (Nat.le_of_ble_eq_true rfl) ?_
    refine r_if_eq K 194 dX8_device_175 (by decide) (fun c175 => ?_) (fun c175 => ?_)
    · have q2 : ¬ (10 ≤ what ∧ what ≤ 129) := fun q => by rw [if_pos q] at c175; exact absurd c175 (by decide)
      refine r_iconst K dX8_device_194 ?_
      exact q_iret K hQ rfl dX8_device_195 (Nat.le_refl _) (Nat.le_refl _) (⟨by rw [mTell, if_neg (by omega), if_neg (by omega), if_neg (by omega), if_neg (by omega), if_neg (by omega), if_neg (by omega), if_neg (by omega)]; first | rw [if_pos q2] | rw [if_neg q2], rfl, rfl, rfl, rfl, rfl⟩)
    · have q2 : 10 ≤ what ∧ what ≤ 129 := by
        by_cases q : 10 ≤ what ∧ what ≤ 129
        · exact q
        · rw [if_neg q] at c175; exact absurd rfl c175
      have hbb := (d2 (what - 10).toNat (by omega)).1.2
      refine r_aload_n K dX8_device_178 rfl ?_
      refine r_getR K dX8_device_179 f_X8_66 rfl (by first | assumption | exact hW.1 _ _ rfl | exact hW.2.2.1 _ _ _ rfl) (by first | assumption | exact hW.1 _ _ rfl | exact hW.2.2.1 _ _ _ rfl) ?_
      refine r_iload_n K dX8_device_182 rfl ?_
      refine r_bipush K dX8_device_183 ?_
      refine r_isub K dX8_device_185 ?_
      refine r_bald K dX8_device_186 (by first | assumption | exact hW.1 _ _ rfl | exact hW.2.2.1 _ _ _ rfl) (by omega) (by omega) ?_
      refine r_sipush K dX8_device_187 ?_
      refine r_iand K dX8_device_190 ?_
      rw [zAnd_255 ⟨by omega, by omega⟩]
      refine r_goto K 195 dX8_device_191 (by decide) ?_
      exact q_iret K hQ rfl dX8_device_195 (Nat.le_refl _) (Nat.le_refl _) (⟨by rw [mTell, if_neg (by omega), if_neg (by omega), if_neg (by omega), if_neg (by omega), if_neg (by omega), if_neg (by omega), if_neg (by omega)]; first | rw [if_pos q2] | rw [if_neg q2], rfl, rfl, rfl, rfl, rfl⟩)
end MO9
