section SMC
variable {T L : Nat → Nat} {P : Nat → Nat → Option Nat} {I J J1 J2 : Nat → Nat → Int} {hn n : Nat}
theorem ck_area (hD : DV I I) : ck (I 43) (I 42 1).toNat = ck (aBy I) (I 54 24).toNat := by
  rw [hD.1.1]
  exact ck_cong (fun j hj => ((hD.2.1 j (by have := hD.1.2.2; omega)).1.1).symm)
theorem sm_update {a b z1 z2 : Int} (hR : RI n I) (h1 : (¬ (hasV I a ∧ hasV I b) ∧ (some (.inl z1) : Option PV) = some (.inl (-1)) ∧ J1 = I) ∨ ((hasV I a ∧ hasV I b) ∧ I 41 9 ≠ 0 ∧ (some (.inl z1) : Option PV) = some (.inl (-2)) ∧ J1 = I) ∨ ((hasV I a ∧ hasV I b) ∧ I 41 9 = 0 ∧ ¬ fitV I a.toNat ∧ (some (.inl z1) : Option PV) = some (.inl (-3)) ∧ J1 = I) ∨ ((hasV I a ∧ hasV I b) ∧ I 41 9 = 0 ∧ fitV I a.toNat ∧ (some (.inl z1) : Option PV) = some (.inl (cn (kpV I a.toNat b.toNat (wyV I a.toNat b.toNat)) 120 + 1 + 2 * (vN I b.toNat : Int) + 1)) ∧ uB I a.toNat b.toNat J1)) (h2 : muR J1 a b (some (.inl z2)) J2) : z1 = z2 ∧ RI (n + 1) J2 ∧ clF J1 J2 := by
  have hv := hR.2.1
  obtain ⟨hD, w1, w2, w3⟩ := id hR.2.2.2.1
  have c1 : ∀ k, k = 54 ∨ k = 56 ∨ k = 57 ∨ k = 73 → J1 k = I k := fun k hk => by
    rcases h1 with ⟨-, -, a3⟩ | ⟨-, -, -, a3⟩ | ⟨-, -, -, -, a3⟩ | ⟨-, -, -, -, a3⟩
    · rw [a3]
    · rw [a3]
    · rw [a3]
    · exact a3.1 k (by omega) (by omega)
  have e4 := c1 54 (by decide)
  have e6 := c1 56 (by decide)
  have e7 := c1 57 (by decide)
  have e3 := c1 73 (by decide)
  have hal : (hasV I a ∧ hasV I b) ↔ (hasM J1 a ∧ hasM J1 b) := by rw [hasM_cong e7, hasM_cong e7, hv.has, hv.has]
  have hbg : J1 54 29 = I 41 9 := by rw [e4]; exact hD.2.2.1.1
  have hfit : hasV I a → (fitV I a.toNat ↔ fitM J1 a.toNat) := fun q => by
    unfold fitV fitM
    have eA : aBy J1 = aBy I := by unfold aBy; rw [e3]
    have eB : mBy J1 a.toNat = mBy I a.toNat := by unfold mBy; rw [e6]
    rw [eA, eB, e4, e7, ← ck_area hD, ← ck_ver hv q.lt, hD.1.1, (hv.2 _ q.lt).1]
  rcases h1 with ⟨a1, a2, a3⟩ | ⟨a1, a2, a3, a4⟩ | ⟨a1, a2, a3, a4, a5⟩ | ⟨a1, a2, a3, a4, a5⟩
  · rcases h2 with ⟨b1, b2, b3⟩ | ⟨b1, -⟩ | ⟨b1, -⟩ | ⟨b1, -⟩
    · subst b3 a3; exact ⟨(soi a2).trans (soi b2).symm, hR.up, clF.refl _⟩
    · exact absurd (hal.mpr b1) a1
    · exact absurd (hal.mpr b1) a1
    · exact absurd (hal.mpr b1) a1
  · rcases h2 with ⟨b1, -⟩ | ⟨b1, b2, b3, b4⟩ | ⟨b1, b2, -⟩ | ⟨b1, b2, -⟩
    · exact absurd (hal.mp a1) b1
    · subst b4 a4; exact ⟨(soi a3).trans (soi b3).symm, hR.up, clF.refl _⟩
    · exact absurd (hbg.symm.trans b2) a2
    · exact absurd (hbg.symm.trans b2) a2
  · rcases h2 with ⟨b1, -⟩ | ⟨b1, b2, -⟩ | ⟨b1, b2, b3, b4, b5⟩ | ⟨b1, b2, b3, -⟩
    · exact absurd (hal.mp a1) b1
    · exact absurd (hbg.trans a2) b2
    · subst b5 a5; exact ⟨(soi a4).trans (soi b4).symm, hR.up, clF.refl _⟩
    · exact absurd ((hfit a1.1).mpr b3) a3
  · rcases h2 with ⟨b1, -⟩ | ⟨b1, b2, -⟩ | ⟨b1, b2, b3, -⟩ | ⟨b1, b2, b3, b4, b5⟩
    · exact absurd (hal.mp a1) b1
    · exact absurd (hbg.trans a2) b2
    · exact absurd ((hfit a1.1).mp a3) b3
    · have ha := a1.1.lt
      have hb := a1.2.lt
      generalize a.toNat = x at *
      generalize b.toNat = y at *
      have ewy : wyM J1 x y = wyV I x y := by
        rw [hv.wy ha hb]
        show wayB (sM J1 x y) (bM J1 x y) (mN J1 y) = _
        rw [(sM_cong e6 e7 x y).1, (sM_cong e6 e7 x y).2.1, (sM_cong e6 e7 x y).2.2]
      have ekp : kpM J1 x y (wyM J1 x y) = kpV I x y (wyV I x y) := by
        rw [ewy, hv.kp ha hb]
        show kpt (sM J1 x y) (bM J1 x y) _ (mN J1 y) = _
        rw [(sM_cong e6 e7 x y).1, (sM_cong e6 e7 x y).2.1, (sM_cong e6 e7 x y).2.2]
      rw [ekp, ewy, (sM_cong e6 e7 x y).1, (sM_cong e6 e7 x y).2.1] at b5
      rw [ekp, (sM_cong e6 e7 x y).2.2] at b4
      have hw01 : wyV I x y = 0 ∨ wyV I x y = 1 := by unfold wyV wayB; split <;> simp
      obtain ⟨p1, p2, p3, p4, p5, p6, p7, p8, p9, p10, p11, p12⟩ := a5
      generalize wyV I x y = w at *
      generalize hkp : kpV I x y w = kp at *
      obtain ⟨m1, m2, m3, m4, m5, m6, m7, m8, m9, m10⟩ := b5
      rw [(sM_cong e6 e7 x y).2.2] at m5 m9
      have eB : mBy J1 y = mBy I y := by unfold mBy; rw [e6]
      rw [eB] at m9
      have hny := (hv.1.n hb).2
      have enn := hv.nn hb
      rw [enn] at p2 p3 a4
      have hcn := cn_in kp 120
      obtain ⟨d1, d2, d3, d4, d5, -, -, -, -⟩ := hD
      have c : ∀ k, k < 84 → k ≠ 41 → k ≠ 54 → k < 9 ∨ (17 < k ∧ k < 28) ∨ (35 < k ∧ k < 44) ∨ (48 < k ∧ k < 58) ∨ (65 < k ∧ k ≠ 72 ∧ (k < 75 ∨ 79 < k)) → J2 k = I k := fun k k0 k1 k2 k3 => by rw [m1 k k2 (by omega), p1 k k0 (by omega)]
      have j : ∀ k, k < 54 → J2 k = J1 k := fun k hk => m1 k (by omega) (by omega)
      have c10 : I 41 10 = 0 := d5 a2
      have hsrc : ∀ x', x' < mN I y → sV I x y x' = sM I x y x' ∧ (sM I x y x' ≠ -1 → bV I x y x' = bM I x y x') ∧ (sM I x y x' = -1 → bV I x y x' = mBy I y x') ∧ (sM I x y x' = -1 ∨ (0 ≤ sM I x y x' ∧ sM I x y x' < mN I x)) ∧ 0 ≤ bV I x y x' ∧ bV I x y x' < 256 := fun x' hx => hv.src ha hb hx
      have hnx := (hv.1.n ha).2
      have hp3 : ∀ x', x' < mN I y → J2 45 x' = sM I x y x' ∧ J2 46 x' = bV I x y x' := fun x' hx => by
        rw [j 45 (by decide), j 46 (by decide)]
        have q := p3 x' hx
        have q0 : srcF (vB I x) (vB I y) (vN I x) (mN I y) x' = sV I x y x' := by unfold sV; rw [enn]
        have q1 : pluF (vB I x) (vB I y) (vN I x) (mN I y) x' = bV I x y x' := by unfold bV; rw [enn]
        rw [q0, q1] at q
        exact ⟨q.1.trans (hsrc x' hx).1, q.2⟩
      have hkth : ∀ k : Nat, (k : Int) < cn kp 120 → ∃ p, p < 120 ∧ kp p = true ∧ cn kp p = k ∧ J2 48 k = p ∧ J2 78 k = p ∧ J2 79 p = k := fun k hk => by
        obtain ⟨p, q1, q2, q3⟩ := cn_kth (f := kp) (k := (k : Int)) (by omega) hk
        have q4 := p7 p q1 q2
        have q5 := (m10 p q1).1 q2
        rw [q3, Int.toNat_natCast] at q4 q5
        exact ⟨p, q1, q2, q3, by rw [j 48 (by decide)]; exact q4, q5.1, q5.2⟩
      refine ⟨by rw [soi a4, soi b4]; omega, ⟨hR.1.cong (by rw [c 4 (by decide) (by decide) (by decide) (by decide)]) (c 5 (by decide) (by decide) (by decide) (by decide)) (by rw [m2 1 (by decide) (by decide) (by decide), e4]) (c 55 (by decide) (by decide) (by decide) (by decide)), hv.cong (fun k k1 k2 => c k (by omega) (by omega) (by omega) (by omega)) (c 56 (by decide) (by decide) (by decide) (by decide)) (c 57 (by decide) (by decide) (by decide) (by decide)), hR.2.2.1.cong (by rw [m2 20 (by decide) (by decide) (by decide), e4]) (fun k k1 k2 => c k (by omega) (by omega) (by omega) (by omega)) (fun k k1 k2 => c k (by omega) (by omega) (by omega) (by omega)), ⟨⟨?_, ?_, ⟨by rw [m6, j 41 (by decide), p11], Or.inr (by rw [j 41 (by decide), p11])⟩, ⟨by rw [m7, j 41 (by decide), p12, c10], Or.inl (by rw [j 41 (by decide), p12, c10])⟩, fun q => absurd (by rw [j 41 (by decide), p11] at q; exact q) (by decide), fun _ => ⟨⟨?_, ?_, ?_, fun k hk => ?_, fun x' hx => ?_, fun k hk => ?_, ?_⟩, ?_, ?_, ?_, ?_, ?_, fun x' hx => ?_, fun k hk => ?_, fun p hp => ?_⟩, ?_, ?_, ?_⟩, ?_, ?_, ?_⟩, hR.2.2.2.2.1.cong (c 80 (by decide) (by decide) (by decide) (by decide)) (c 51 (by decide) (by decide) (by decide) (by decide)) (c 57 (by decide) (by decide) (by decide) (by decide)), hR.2.2.2.2.2.cong (by rw [c 50 (by decide) (by decide) (by decide) (by decide)]) (c 81 (by decide) (by decide) (by decide) (by decide))⟩, fun k hk => m1 k (by omega) (by omega)⟩
      · rw [m2 24 (by decide) (by decide) (by decide), e4, c 42 (by decide) (by decide) (by decide) (by decide)]; exact d1
      · rw [c 73 (by decide) (by decide) (by decide) (by decide), c 74 (by decide) (by decide) (by decide) (by decide), c 43 (by decide) (by decide) (by decide) (by decide), c 49 (by decide) (by decide) (by decide) (by decide)]; exact d2
      · rw [j 41 (by decide), p6]; exact hcn
      · rw [dAll, j 41 (by decide), j 44 (by decide), p8, p6, p2]; omega
      · rw [j 44 (by decide), p2]; omega
      · rw [j 41 (by decide), p6] at hk
        obtain ⟨p, q1, q2, q3, q4, q5, q6⟩ := hkth k hk
        rw [q4]; omega
      · rw [j 44 (by decide), p2] at hx
        have q := hp3 x' (by omega)
        have q2 := hsrc x' (by omega)
        rw [q.1, q.2]
        exact ⟨by rcases q2.2.2.2.1 with u | u <;> omega, q2.2.2.2.2⟩
      · rw [c 43 (by decide) (by decide) (by decide) (by decide), c 49 (by decide) (by decide) (by decide) (by decide)]
        have := (d2 k hk).1.1
        exact ⟨by omega, (d2 k hk).2.2⟩
      · rw [j 41 (by decide), p4]; exact hw01
      · rw [m3, j 41 (by decide), p8]
      · rw [m4, j 41 (by decide), p6]
      · rw [m5, j 44 (by decide), p2]
      · rw [m8, j 41 (by decide), p4]
      · rw [j 41 (by decide), p9, p8, p6, if_neg (by omega)]
      · rw [j 44 (by decide), p2] at hx
        have q := hp3 x' (by omega)
        have q2 := hsrc x' (by omega)
        have q3 := m9 x' (by omega)
        rw [q.1, q.2, q3.1, q3.2.1, q3.2.2]
        exact ⟨rfl, fun u => (q2.2.2.1 u).symm, fun u => (q2.2.1 u).symm⟩
      · rw [j 41 (by decide), p6] at hk
        obtain ⟨p, q1, q2, q3, q4, q5, q6⟩ := hkth k hk
        rw [q4, q5, Int.toNat_natCast, q6, j 41 (by decide), p8]
        exact ⟨rfl, rfl, fun u => absurd u (by omega)⟩
      · rw [j 47 (by decide), p5 p hp, j 41 (by decide), p6]
        cases hk : kp p with
        | true =>
          refine ⟨fun u => absurd u (by decide), fun _ => ?_⟩
          have q1 := (m10 p hp).1 hk
          have q2 := cn_lt (f := kp) hp hk
          have q3 := cn_in kp p
          refine ⟨(cn kp p).toNat, by omega, by rw [q1.2]; omega, ?_⟩
          rw [j 48 (by decide)]; exact p7 p hp hk
        | false => exact ⟨fun _ => (m10 p hp).2 hk, fun u => absurd rfl u⟩
      · rw [j 41 (by decide), p6]; exact hcn
      · rw [j 41 (by decide), p9]; omega
      · rw [j 44 (by decide), p2]; omega
      · rw [m2 25 (by decide) (by decide) (by decide), e4, j 41 (by decide), p10]; exact w1
      · rw [j 41 (by decide), p10]; exact w2
      · rw [j 41 (by decide), p10]; omega
theorem eq_device (hR : RI n I) (what : Int) : (if what < 10 then dTell I what else if what - 10 < 120 then I 43 (what - 10).toNat else -1) = mTell I what := by
  obtain ⟨hD, w1, w2, w3⟩ := id hR.2.2.2.1
  have hck := ck_area hD
  obtain ⟨d1, d2, d3, d4, d5, d6, -⟩ := id hD
  by_cases q : what < 10
  · rw [if_pos q]
    unfold dTell mTell
    rw [d3.1, d4.1, w1, hck, d1.1]
    by_cases h0 : what = 0
    · rw [if_pos h0, if_pos h0]
    · rw [if_neg h0, if_neg h0]
      by_cases h1 : what = 1
      · rw [if_pos h1, if_pos h1]
      · rw [if_neg h1, if_neg h1]
        by_cases h2 : what = 2
        · rw [if_pos h2, if_pos h2]
        · rw [if_neg h2, if_neg h2]
          by_cases h3 : what = 3
          · rw [if_pos h3, if_pos h3]
          · rw [if_neg h3, if_neg h3]
            by_cases hb : I 41 9 = 0
            · rw [if_pos hb, if_pos hb, if_pos hb, if_pos hb, if_pos hb, if_pos hb]
              rw [if_neg (show ¬ (10 ≤ what ∧ what ≤ 129) by omega)]
            · obtain ⟨hDB, u26, u27, u28, u31, u7, -⟩ := d6 hb
              rw [if_neg hb, if_neg hb, if_neg hb, if_neg hb, if_neg hb, if_neg hb, u26, u27, u31, u7, if_neg (show ¬ (10 ≤ what ∧ what ≤ 129) by omega)]
              have e5 : I 41 5 = if I 41 5 = 0 then 0 else 1 := by
                rcases hDB.2.2.2.2.2.2 with w | w <;> rw [w] <;> rfl
              rw [← e5]
  · rw [if_neg q]
    unfold mTell
    by_cases w : what - 10 < 120
    · rw [if_pos w, if_neg (by omega), if_neg (by omega), if_neg (by omega), if_neg (by omega), if_neg (by omega), if_neg (by omega), if_neg (by omega), if_pos (by omega)]
      exact ((d2 (what - 10).toNat (by omega)).1.1).symm
    · rw [if_neg w, if_neg (by omega), if_neg (by omega), if_neg (by omega), if_neg (by omega), if_neg (by omega), if_neg (by omega), if_neg (by omega), if_neg (by omega)]
theorem sm_fleet {v m : Int} (hR : RI n I) (hJ1 : J1 = if hasV I v ∧ 0 ≤ m ∧ m ≤ 1000 then mI I 51 v.toNat m else I) (hJ2 : J2 = if hasM J1 v ∧ 0 ≤ m ∧ m ≤ 1000 then mI J1 80 v.toNat m else J1) : (if hasV I v ∧ 0 ≤ m ∧ m ≤ 1000 then (1 : Int) else 0) = (if hasM J1 v ∧ 0 ≤ m ∧ m ≤ 1000 then 1 else 0) ∧ RI (n + 1) J2 ∧ clF I J2 := by
  have hv := hR.2.1
  by_cases q : hasV I v ∧ 0 ≤ m ∧ m ≤ 1000
  · rw [if_pos q] at hJ1
    have x57 : J1 57 = I 57 := by rw [hJ1, mI_ne (by decide)]
    have hm := (hv.has v).mp q.1
    have q2 : hasM J1 v ∧ 0 ≤ m ∧ m ≤ 1000 := ⟨(hasM_cong x57 v).mpr hm, q.2⟩
    rw [if_pos q2] at hJ2
    have c : ∀ k, k ≠ 51 → k ≠ 80 → J2 k = I k := fun k k1 k2 => by rw [hJ2, mI_ne k2, hJ1, mI_ne k1]
    obtain ⟨h1, h2, h3, h4, h5, h6⟩ := hR
    refine ⟨by rw [if_pos q, if_pos q2], ⟨h1.cong (by rw [c 4 (by decide) (by decide)]) (c 5 (by decide) (by decide)) (by rw [c 54 (by decide) (by decide)]) (c 55 (by decide) (by decide)), h2.cong (fun k k1 k2 => c k (by omega) (by omega)) (c 56 (by decide) (by decide)) (c 57 (by decide) (by decide)), h3.cong (by rw [c 54 (by decide) (by decide)]) (fun k k1 k2 => c k (by omega) (by omega)) (fun k k1 k2 => c k (by omega) (by omega)), h4.cong (Nat.le_succ n) (fun k k1 k2 => c k (by omega) (by omega)) (fun k k1 k2 => c k (by omega) (by omega)) (fun j _ _ => by rw [c 54 (by decide) (by decide)]), fun u hu => ?_, h6.cong (by rw [c 50 (by decide) (by decide)]) (c 81 (by decide) (by decide))⟩, fun k hk => c k (by omega) (by omega)⟩
    have e80 : J2 80 u = if u = v.toNat then m else I 80 u := by rw [hJ2, mI_row, hJ1, mI_ne (by decide)]
    have e51 : J2 51 u = if u = v.toNat then m else I 51 u := by rw [hJ2, mI_ne (by decide), hJ1, mI_row]
    rw [e80, e51, c 57 (by decide) (by decide)]
    by_cases w : u = v.toNat
    · rw [if_pos w, if_pos w]
      refine ⟨rfl, q.2, fun z => ?_⟩
      have := hm.2.2
      rw [← w, z] at this
      exact absurd this (by decide)
    · rw [if_neg w, if_neg w]; exact h5 u hu
  · rw [if_neg q] at hJ1
    subst hJ1
    have q2 : ¬ (hasM J1 v ∧ 0 ≤ m ∧ m ≤ 1000) := fun w => q ⟨(hv.has v).mpr w.1, w.2⟩
    rw [if_neg q2] at hJ2
    subst hJ2
    exact ⟨by rw [if_neg q, if_neg q2], hR.up, clF.refl _⟩
theorem sm_hold {a b is z1 z2 : Int} {S : Nat} (hR : RI n I) (h01 : is = 0 ∨ is = 1) (hS1 : S < 1024) (hS : I 50 3 = S) (h81 : ∀ k, k < 10 → I 81 k = if S.testBit k = true then 1 else 0) (h1 : (¬ (hasV I a ∧ hasV I b ∧ a < b ∧ (if S.testBit (pIx a.toNat b.toNat) then (1 : Int) else 0) ≠ is) ∧ (some (.inl z1) : Option PV) = some (.inl 0) ∧ J1 = I) ∨ ((hasV I a ∧ hasV I b ∧ a < b ∧ (if S.testBit (pIx a.toNat b.toNat) then (1 : Int) else 0) ≠ is) ∧ (some (.inl z1) : Option PV) = some (.inl 1) ∧ J1 = mI I 50 3 ((S ^^^ 2 ^ pIx a.toNat b.toNat : Nat) : Int))) (h2 : (¬ (hasM J1 a ∧ hasM J1 b ∧ a < b ∧ J1 81 (pIx a.toNat b.toNat) ≠ is) ∧ (some (.inl z2) : Option PV) = some (.inl 0) ∧ J2 = J1) ∨ ((hasM J1 a ∧ hasM J1 b ∧ a < b ∧ J1 81 (pIx a.toNat b.toNat) ≠ is) ∧ (some (.inl z2) : Option PV) = some (.inl 1) ∧ J2 = mI J1 81 (pIx a.toNat b.toNat) is)) : z1 = z2 ∧ RI (n + 1) J2 ∧ clF I J2 := by
  have hv := hR.2.1
  have x57 : J1 57 = I 57 := by
    rcases h1 with ⟨-, -, a3⟩ | ⟨-, -, a3⟩
    · rw [a3]
    · rw [a3, mI_ne (by decide)]
  have x81 : J1 81 = I 81 := by
    rcases h1 with ⟨-, -, a3⟩ | ⟨-, -, a3⟩
    · rw [a3]
    · rw [a3, mI_ne (by decide)]
  have hix : hasV I a → hasV I b → a < b → pIx a.toNat b.toNat < 10 := fun u1 u2 u3 => pIx_in (by have := u1.1; omega) u2.lt
  have hal : (hasV I a ∧ hasV I b ∧ a < b ∧ (if S.testBit (pIx a.toNat b.toNat) then (1 : Int) else 0) ≠ is) ↔ (hasM J1 a ∧ hasM J1 b ∧ a < b ∧ J1 81 (pIx a.toNat b.toNat) ≠ is) := by
    rw [hasM_cong x57, hasM_cong x57, x81]
    constructor
    · rintro ⟨u1, u2, u3, u4⟩
      rw [h81 _ (hix u1 u2 u3)]
      exact ⟨(hv.has a).mp u1, (hv.has b).mp u2, u3, u4⟩
    · rintro ⟨u1, u2, u3, u4⟩
      have v1 := (hv.has a).mpr u1
      have v2 := (hv.has b).mpr u2
      rw [h81 _ (hix v1 v2 u3)] at u4
      exact ⟨v1, v2, u3, u4⟩
  rcases h1 with ⟨a1, a2, a3⟩ | ⟨a1, a2, a3⟩ <;> rcases h2 with ⟨b1, b2, b3⟩ | ⟨b1, b2, b3⟩
  · subst b3 a3; exact ⟨(soi a2).trans (soi b2).symm, hR.up, clF.refl _⟩
  · exact absurd (hal.mpr b1) a1
  · exact absurd (hal.mp a1) b1
  · have hi := hix a1.1 a1.2.1 a1.2.2.1
    generalize pIx a.toNat b.toNat = i at *
    have c : ∀ k, k ≠ 50 → k ≠ 81 → J2 k = I k := fun k k1 k2 => by rw [b3, mI_ne k2, a3, mI_ne k1]
    obtain ⟨g1, g2, g3, g4, g5, g6⟩ := hR
    refine ⟨(soi a2).trans (soi b2).symm, ⟨g1.cong (by rw [c 4 (by decide) (by decide)]) (c 5 (by decide) (by decide)) (by rw [c 54 (by decide) (by decide)]) (c 55 (by decide) (by decide)), g2.cong (fun k k1 k2 => c k (by omega) (by omega)) (c 56 (by decide) (by decide)) (c 57 (by decide) (by decide)), g3.cong (by rw [c 54 (by decide) (by decide)]) (fun k k1 k2 => c k (by omega) (by omega)) (fun k k1 k2 => c k (by omega) (by omega)), g4.cong (Nat.le_succ n) (fun k k1 k2 => c k (by omega) (by omega)) (fun k k1 k2 => c k (by omega) (by omega)) (fun j _ _ => by rw [c 54 (by decide) (by decide)]), g5.cong (c 80 (by decide) (by decide)) (c 51 (by decide) (by decide)) (c 57 (by decide) (by decide)), ⟨S ^^^ 2 ^ i, Nat.xor_lt_two_pow (n := 10) hS1 (pow_lt hi), ?_, fun k hk => ?_⟩⟩, fun k hk => c k (by omega) (by omega)⟩
    · rw [b3, mI_ne (by decide), a3, mI_eq]
    · have e81 : J2 81 k = if k = i then is else I 81 k := by rw [b3, mI_row, x81]
      rw [e81, Nat.testBit_xor]
      by_cases w : k = i
      · subst w
        rw [if_pos rfl]
        have u4 := a1.2.2.2
        cases hb : S.testBit k with
        | true =>
          rw [hb] at u4
          have u4 : (1 : Int) ≠ is := u4
          have e : (true ^^ (2 ^ k).testBit k) = false := by simp
          rw [e]
          have : is = 0 := by omega
          rw [this]; rfl
        | false =>
          rw [hb] at u4
          have u4 : (0 : Int) ≠ is := u4
          have e : (false ^^ (2 ^ k).testBit k) = true := by simp
          rw [e]
          have : is = 1 := by omega
          rw [this]; rfl
      · rw [if_neg w, h81 k hk, Nat.testBit_two_pow_of_ne (fun z => w z.symm), Bool.xor_false]
/-- the prices of all pairs -/
abbrev prA (I : Nat → Nat → Int) (k : Nat) : Int := prcI I (pF k : Nat) (pT k : Nat)
theorem snt_eq (hR : RI n I) (hs : same I J1) (hg : grV I ≠ -1) (S : Nat) : sntF (I 51) (prA I) (grV I) (whV I) S = fsI J1 S := by
  have hR1 := hR.cong (Nat.le_refl n) hs
  have hv := hR.2.1
  have hv1 := hR1.2.1
  have e57 : J1 57 = I 57 := hs.1 57 (by omega)
  have eg : grM J1 = grV I := by rw [hv.grt]; unfold grM; rw [e57]
  have hgi := gre_in (fun v => I (18 + 2 * v) 1) 5
  have hg5 : (grV I).toNat < 5 := by
    have h1 := hgi.1
    have h2 := hgi.2.1
    have e : grV I = gre (fun v => I (18 + 2 * v) 1) 5 := rfl
    omega
  have ew : whM J1 = whV I := by
    unfold whM whV
    rw [if_neg hg, eg, e57, (hv.2 _ hg5).1]
  show _ = sntF (J1 80) (prM J1) (grM J1) (whM J1) S
  rw [eg, ew]
  refine sntF_cong (fun v hv' => ?_) (fun k hk => ?_)
  · rw [hs.1 80 (by omega)]; exact ((hR.2.2.2.2.1 v hv').1).symm
  · show prcI I _ _ = prcM J1 _ _
    rw [← hv1.prc]
    exact (prcI_cong (fun k k1 k2 => hs.1 k (by omega)) _ _).symm
theorem sm_sent {S : Nat} (hR : RI n I) (h1 : sFr I J1) (h2 : mScr J1 J2) : (if grV I = -1 then -1 else sntF (I 51) (prS I S) (grV I) (whV I) S) = (if grM J1 = -1 then -1 else sntF (J1 80) (prM J1) (grM J1) (whM J1) S) ∧ RI (n + 1) J2 ∧ clF J1 J2 := by
  have hs := same_s h1
  have hR1 := hR.cong (Nat.le_refl n) hs
  refine ⟨?_, hR1.cong (Nat.le_succ n) h2.same, h2.clF⟩
  have eg : grM J1 = grV I := by rw [hR.2.1.grt]; unfold grM; rw [hs.1 57 (by omega)]
  by_cases q : grV I = -1
  · rw [if_pos q, if_pos (eg.trans q)]
  · rw [if_neg q, if_neg (by rw [eg]; exact q)]
    have e := snt_eq hR hs q S
    rw [← show fsI J1 S = sntF (J1 80) (prM J1) (grM J1) (whM J1) S from rfl, ← e]
    refine snt_S (fun k hk => ?_)
    unfold prS
    constructor
    · constructor
      · rintro ⟨u1, u2⟩; rw [if_pos u1] at u2; exact ⟨u1, u2⟩
      · rintro ⟨u1, u2⟩; rw [if_pos u1]; exact ⟨u1, u2⟩
    · intro u1 _; rw [if_pos u1]
theorem tb1023 : ∀ k : Fin 10, (1023 : Nat).testBit k.val = true := by decide
theorem bst_eq (hR : RI n I) (hs : same I J1) (hg : grV I ≠ -1) (k : Nat) : bsV I k = bstF (fsI J1) k := by
  have e : (sntF (I 51) (prA I) (grV I) (whV I)) = fsI J1 := by funext S; exact snt_eq hR hs hg S
  rw [← e]
  unfold bsV
  by_cases q : k = 0
  · subst q
    rw [if_pos rfl]
    show (sntF (I 51) (prS I 0) (grV I) (whV I) 0, (0 : Int)) = (sntF (I 51) (prA I) (grV I) (whV I) 0, (0 : Int))
    rw [snt_S (S' := 0) (pr' := prA I) (fun k hk => ⟨⟨fun u => absurd u.1 (by rw [Nat.zero_testBit]; decide), fun u => absurd u.1 (by rw [Nat.zero_testBit]; decide)⟩, fun u => absurd u (by rw [Nat.zero_testBit]; decide)⟩)]
  · have e2 : (sntF (I 51) (prS I 1023) (grV I) (whV I)) = sntF (I 51) (prA I) (grV I) (whV I) := by
      funext S
      refine sntF_cong (fun _ _ => rfl) (fun k hk => ?_)
      unfold prS
      exact if_pos (tb1023 ⟨k, hk⟩)
    rw [if_neg q, e2]
theorem sm_best {k what z1 z2 : Int} (hR : RI n I) (h1 : sFr I J1) (hz1 : (¬ ((0 ≤ k ∧ k ≤ 3) ∧ (0 ≤ what ∧ what ≤ 2) ∧ grV I ≠ -1) ∧ z1 = -1) ∨ (((0 ≤ k ∧ k ≤ 3) ∧ (0 ≤ what ∧ what ≤ 2)) ∧ grV I ≠ -1 ∧ z1 = if what = 0 then (bsV I k.toNat).1 else if what = 1 then ((pcn (bsV I k.toNat).2.toNat : Nat) : Int) else (bsV I k.toNat).2)) (h2 : mScr J1 J2) (hz2 : (¬ ((0 ≤ k ∧ k ≤ 3) ∧ (0 ≤ what ∧ what ≤ 2) ∧ grM J1 ≠ -1) ∧ z2 = -1) ∨ (((0 ≤ k ∧ k ≤ 3) ∧ (0 ≤ what ∧ what ≤ 2)) ∧ grM J1 ≠ -1 ∧ z2 = bA J1 k.toNat what)) : z1 = z2 ∧ RI (n + 1) J2 ∧ clF J1 J2 := by
  have hs := same_s h1
  have hR1 := hR.cong (Nat.le_refl n) hs
  refine ⟨?_, hR1.cong (Nat.le_succ n) h2.same, h2.clF⟩
  have eg : grM J1 = grV I := by rw [hR.2.1.grt]; unfold grM; rw [hs.1 57 (by omega)]
  rw [eg] at hz2
  rcases hz1 with ⟨a1, a2⟩ | ⟨a1, a2, a3⟩ <;> rcases hz2 with ⟨b1, b2⟩ | ⟨b1, b2, b3⟩
  · omega
  · exact absurd ⟨b1.1, b1.2, b2⟩ a1
  · exact absurd ⟨a1.1, a1.2, a2⟩ b1
  · rw [a3, b3, bst_eq hR hs a2]; rfl
end SMC
