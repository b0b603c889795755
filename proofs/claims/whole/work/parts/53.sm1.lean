section SMA
variable {T L : Nat → Nat} {P : Nat → Nat → Option Nat} {I J J1 J2 : Nat → Nat → Int} {hn n : Nat}
theorem same_a (h : ∀ k, k < 84 → k < 9 ∨ 17 < k → J k = I k) : same I J := ⟨fun k hk => h k (by omega) (by omega), fun j _ _ => by rw [h 54 (by decide) (by decide)], by rw [h 50 (by decide) (by decide)]⟩
theorem same_r (h : ∀ k, k < 84 → k < 9 ∨ (17 < k ∧ k < 28) ∨ 35 < k → J k = I k) : same I J := ⟨fun k hk => h k (by omega) (by omega), fun j _ _ => by rw [h 54 (by decide) (by decide)], by rw [h 50 (by decide) (by decide)]⟩
theorem same_s (h : sFr I J) : same I J := ⟨fun k hk => h.1 k (by omega) (by omega), fun j _ _ => by rw [h.1 54 (by decide) (by decide)], h.2⟩
theorem RI.up (h : RI n I) : RI (n + 1) I := h.cong (Nat.le_succ n) (same.refl I)
theorem sm_feed {c : Nat} {x : Nat → Int} {z1 z2 : Int} (hR : RI n I) (hc : I 4 1 = c) (h1 : (200 < c + 20 ∧ (some (.inl z1) : Option PV) = some (.inl (-1)) ∧ J1 = I) ∨ (c + 20 ≤ 200 ∧ (some (.inl z1) : Option PV) = some (.inl ((c : Int) + 20)) ∧ fedP I c x J1)) (h2 : (200 < c + 20 ∧ (some (.inl z2) : Option PV) = some (.inl (-1)) ∧ J2 = J1) ∨ (c + 20 ≤ 200 ∧ (some (.inl z2) : Option PV) = some (.inl ((c : Int) + 20)) ∧ mfed J1 c x J2)) : z1 = z2 ∧ RI (n + 1) J2 ∧ clF I J2 := by
  rcases h1 with ⟨a1, a2, a3⟩ | ⟨a1, a2, a3⟩ <;> rcases h2 with ⟨b1, b2, b3⟩ | ⟨b1, b2, b3⟩
  · subst b3 a3; exact ⟨(soi a2).trans (soi b2).symm, hR.up, clF.refl _⟩
  · omega
  · omega
  · obtain ⟨⟨⟨c', t1, t2, t3⟩, t4, t5⟩, hv, hm, hd, hf, hh⟩ := hR
    have e : ∀ k, k ≠ 4 → k ≠ 5 → k ≠ 54 → k ≠ 55 → J2 k = I k := fun k k1 k2 k3 k4 => by rw [b3.1 k k3 k4, a3.1 k k1 k2]
    have e54 : ∀ j, j ≠ 1 → J2 54 j = I 54 j := fun j hj => by rw [b3.2.1 j hj, a3.1 54 (by decide) (by decide)]
    have e55 : J1 55 = I 55 := a3.1 55 (by decide) (by decide)
    refine ⟨(soi a2).trans (soi b2).symm, ⟨⟨⟨c + 20, by rw [b3.1 4 (by decide) (by decide), a3.2.1]; omega, by rw [b3.2.2.1]; omega, a1⟩, fun j hj => ?_, fun j => ?_⟩, hv.cong (fun k k1 k2 => e k (by omega) (by omega) (by omega) (by omega)) (e 56 (by decide) (by decide) (by decide) (by decide)) (e 57 (by decide) (by decide) (by decide) (by decide)), hm.cong (e54 20 (by decide)) (fun k k1 k2 => e k (by omega) (by omega) (by omega) (by omega)) (fun k k1 k2 => e k (by omega) (by omega) (by omega) (by omega)), hd.cong (Nat.le_succ n) (fun k k1 k2 => e k (by omega) (by omega) (by omega) (by omega)) (fun k k1 k2 => e k (by omega) (by omega) (by omega) (by omega)) (fun j j1 j2 => e54 j (by omega)), hf.cong (e 80 (by decide) (by decide) (by decide) (by decide)) (e 51 (by decide) (by decide) (by decide) (by decide)) (e 57 (by decide) (by decide) (by decide) (by decide)), hh.cong (by rw [e 50 (by decide) (by decide) (by decide) (by decide)]) (e 81 (by decide) (by decide) (by decide) (by decide))⟩, fun k hk => e k (by omega) (by omega) (by omega) (by omega)⟩
    · rw [b3.1 5 (by decide) (by decide), a3.2.2 j]
      by_cases w : c ≤ j ∧ j < c + 20
      · have q := (b3.2.2.2.2 (j - c) (by omega)).1
        rw [show c + (j - c) = j by omega] at q
        rw [if_pos w]; exact q
      · rw [if_neg w, b3.2.2.2.1 j (by omega), e55]; exact t4 j hj
    · by_cases w : c ≤ j ∧ j < c + 20
      · have q := (b3.2.2.2.2 (j - c) (by omega)).2
        rw [show c + (j - c) = j by omega] at q
        exact q
      · rw [b3.2.2.2.1 j (by omega), e55]; exact t5 j
theorem sm_version {v m z1 z2 : Int} (hR : RI n I) (hC : CI T L P I hn) (h1 : (¬ (0 ≤ v ∧ v < 5 ∧ 1 ≤ m ∧ m ≤ 120 ∧ m ≤ I 4 1) ∧ (some (.inl z1) : Option PV) = some (.inl (-1)) ∧ J1 = I) ∨ ((0 ≤ v ∧ v < 5 ∧ 1 ≤ m ∧ m ≤ 120 ∧ m ≤ I 4 1) ∧ (some (.inl z1) : Option PV) = some (.inl m) ∧ vPost T L P hn I v.toNat m J1)) (h2 : (¬ (0 ≤ v ∧ v < 5 ∧ 1 ≤ m ∧ m ≤ 120 ∧ m ≤ J1 54 1) ∧ (some (.inl z2) : Option PV) = some (.inl (-1)) ∧ J2 = J1) ∨ ((0 ≤ v ∧ v < 5 ∧ 1 ≤ m ∧ m ≤ 120 ∧ m ≤ J1 54 1) ∧ (some (.inl z2) : Option PV) = some (.inl m) ∧ mvPost J1 v.toNat m J2)) : z1 = z2 ∧ RI (n + 1) J2 ∧ CI T L P J2 hn := by
  obtain ⟨c', t1, t2, t3⟩ := hR.1.1
  have e1 : J1 54 1 = I 4 1 := by
    rcases h1 with ⟨a1, a2, a3⟩ | ⟨a1, a2, a3⟩
    · rw [a3, t2, t1]
    · rw [a3.2.1 54 (by omega) (by omega) (by omega) (by omega), t2, t1]
  rw [e1] at h2
  rcases h1 with ⟨a1, a2, a3⟩ | ⟨a1, a2, a3⟩ <;> rcases h2 with ⟨b1, b2, b3⟩ | ⟨b1, b2, b3⟩
  · subst b3 a3; exact ⟨(soi a2).trans (soi b2).symm, hR.up, hC⟩
  · exact absurd b1 a1
  · exact absurd a1 b1
  · obtain ⟨⟨-, t4, t5⟩, hv, hm, hd, hf, hh⟩ := hR
    obtain ⟨u, hu⟩ : ∃ u : Nat, v = u := ⟨v.toNat, by omega⟩
    subst hu
    rw [Int.toNat_natCast] at a3 b3
    have hu5 : u < 5 := by omega
    obtain ⟨a31, a32, a33, a34, a35, a36⟩ := a3
    obtain ⟨b31, b32, b33, b34, b35⟩ := b3
    have e : ∀ k, k ≠ 4 → k ≠ 9 → k ≠ 18 + 2 * u → k ≠ 19 + 2 * u → k ≠ 54 → k ≠ 56 → k ≠ 57 → J2 k = I k := fun k k1 k2 k3 k4 k5 k6 k7 => by rw [b31 k k5 k6 k7, a32 k k1 k2 k3 k4]
    have e54 : ∀ j, j ≠ 1 → J2 54 j = I 54 j := fun j hj => by rw [b32 j hj, a32 54 (by omega) (by omega) (by omega) (by omega)]
    have x55 : J1 55 = I 55 := a32 55 (by omega) (by omega) (by omega) (by omega)
    have x56 : J1 56 = I 56 := a32 56 (by omega) (by omega) (by omega) (by omega)
    have x57 : J1 57 = I 57 := a32 57 (by omega) (by omega) (by omega) (by omega)
    rw [x57] at b34
    rw [x55, x56] at b35
    refine ⟨(soi a2).trans (soi b2).symm, ⟨⟨⟨0, by rw [b31 4 (by decide) (by decide) (by decide), a33]; rfl, by rw [b33]; rfl, by decide⟩, ?_, ?_⟩, ⟨⟨fun w hw => ?_, fun j => ?_⟩, fun w hw => ⟨?_, fun j hj => ?_⟩⟩, hm.cong (e54 20 (by decide)) (fun k k1 k2 => e k (by omega) (by omega) (by omega) (by omega) (by omega) (by omega) (by omega)) (fun k k1 k2 => e k (by omega) (by omega) (by omega) (by omega) (by omega) (by omega) (by omega)), hd.cong (Nat.le_succ n) (fun k k1 k2 => e k (by omega) (by omega) (by omega) (by omega) (by omega) (by omega) (by omega)) (fun k k1 k2 => e k (by omega) (by omega) (by omega) (by omega) (by omega) (by omega) (by omega)) (fun j j1 j2 => e54 j (by omega)), fun w hw => ?_, hh.cong (by rw [e 50 (by omega) (by omega) (by omega) (by omega) (by omega) (by omega) (by omega)]) (e 81 (by omega) (by omega) (by omega) (by omega) (by omega) (by omega) (by omega))⟩, a31.cong (fun k hk => b31 k (by omega) (by omega) (by omega))⟩
    · rw [e 55 (by omega) (by omega) (by omega) (by omega) (by omega) (by omega) (by omega), e 5 (by omega) (by omega) (by omega) (by omega) (by omega) (by omega) (by omega)]; exact t4
    · rw [e 55 (by omega) (by omega) (by omega) (by omega) (by omega) (by omega) (by omega)]; exact t5
    · rw [b34 w]
      split
      · omega
      · exact hv.1.1 w hw
    · rw [b35 j]
      split
      · exact t5 _
      · exact hv.1.2 j
    · rw [b34 w]
      by_cases q : w = u
      · rw [if_pos q, q, b31 (18 + 2 * u) (by omega) (by omega) (by omega), a35]
      · rw [if_neg q, e (18 + 2 * w) (by omega) (by omega) (by omega) (by omega) (by omega) (by omega) (by omega)]; exact (hv.2 w hw).1
    · rw [b34 w] at hj
      show J2 56 (120 * w + j) % 256 = _
      rw [b35]
      by_cases q : w = u
      · rw [if_pos q] at hj
        subst q
        rw [if_pos (by omega), show 120 * w + j - 120 * w = j by omega, t4 j (by omega), b31 (19 + 2 * w) (by omega) (by omega) (by omega), a36 j hj]
      · rw [if_neg q] at hj
        have := (hv.1.1 w hw).2
        rw [if_neg (by omega), e (19 + 2 * w) (by omega) (by omega) (by omega) (by omega) (by omega) (by omega) (by omega)]
        exact (hv.2 w hw).2 j hj
    · rw [e 80 (by omega) (by omega) (by omega) (by omega) (by omega) (by omega) (by omega), e 51 (by omega) (by omega) (by omega) (by omega) (by omega) (by omega) (by omega)]
      refine ⟨(hf w hw).1, (hf w hw).2.1, fun q => (hf w hw).2.2 ?_⟩
      rw [b34 w] at q
      by_cases z : w = u
      · rw [if_pos z] at q; omega
      · rw [if_neg z] at q; exact q
theorem eq_told (hR : RI n I) (v i : Int) : (if hasV I v then (if i = -1 then I (18 + 2 * v.toNat) 1 else if 0 ≤ i ∧ i < I (18 + 2 * v.toNat) 1 ∧ i < 120 then I (19 + 2 * v.toNat) i.toNat else -1) else -1) = (if hasM I v then (if i = -1 then I 57 v.toNat else if 0 ≤ i ∧ i < I 57 v.toNat ∧ i < 120 then mBy I v.toNat i.toNat else -1) else -1) := by
  have hv := hR.2.1
  by_cases q : hasV I v
  · have q2 := (hv.has v).mp q
    have h5 := q.lt
    rw [if_pos q, if_pos q2, ← (hv.2 _ h5).1]
    by_cases w : i = -1
    · rw [if_pos w, if_pos w]
    · rw [if_neg w, if_neg w]
      by_cases w2 : 0 ≤ i ∧ i < I 57 v.toNat ∧ i < 120
      · rw [if_pos w2, if_pos w2, (hv.2 _ h5).2 i.toNat (by omega)]
      · rw [if_neg w2, if_neg w2]
  · rw [if_neg q, if_neg (fun w => q ((hv.has v).mpr w))]
theorem ck_ver (hv : VR I) {v : Nat} (h5 : v < 5) : ck (I (19 + 2 * v)) (I (18 + 2 * v) 1).toNat = ck (mBy I v) (I 57 v).toNat := by
  rw [← (hv.2 v h5).1]
  exact ck_cong (fun j hj => ((hv.2 v h5).2 j (by omega)).symm)
theorem eq_check (hR : RI n I) (v : Int) : (if hasV I v then ck (I (19 + 2 * v.toNat)) (I (18 + 2 * v.toNat) 1).toNat else -1) = (if hasM I v then ck (mBy I v.toNat) (I 57 v.toNat).toNat else -1) := by
  have hv := hR.2.1
  by_cases q : hasV I v
  · rw [if_pos q, if_pos ((hv.has v).mp q), ck_ver hv q.lt]
  · rw [if_neg q, if_neg (fun w => q ((hv.has v).mpr w))]
theorem sm_cost {a b : Int} (hR : RI n I) (h1 : ∀ k, k < 84 → k < 9 ∨ 17 < k → J1 k = I k) (h2 : mScr J1 J2) : prcI I a b = prcM J1 a b ∧ RI (n + 1) J2 ∧ clF J1 J2 := by
  have hR1 := hR.cong (Nat.le_refl n) (same_a h1)
  exact ⟨by rw [← prcI_cong (fun k k1 k2 => h1 k (by omega) (by omega)) a b]; exact hR1.2.1.prc a b, hR1.cong (Nat.le_succ n) h2.same, h2.clF⟩
theorem sm_step {a b k what z1 z2 : Int} (hR : RI n I) (h1 : ∀ k, k < 84 → k < 9 ∨ 17 < k → J1 k = I k) (hz1 : (¬ (hasV I a ∧ hasV I b) ∧ z1 = -1) ∨ ((hasV I a ∧ hasV I b) ∧ stA (vB I a.toNat) (vB I b.toNat) (vN I a.toNat) (vN I b.toNat) k what z1)) (h2 : mScr J1 J2) (hz2 : (¬ (hasM J1 a ∧ hasM J1 b) ∧ z2 = -1) ∨ ((hasM J1 a ∧ hasM J1 b) ∧ stA (mBy J1 a.toNat) (mBy J1 b.toNat) (mN J1 a.toNat) (mN J1 b.toNat) k what z2)) : z1 = z2 ∧ RI (n + 1) J2 ∧ clF J1 J2 := by
  have hR1 := hR.cong (Nat.le_refl n) (same_a h1)
  refine ⟨?_, hR1.cong (Nat.le_succ n) h2.same, h2.clF⟩
  have e : ∀ k, 18 ≤ k → k ≤ 27 → J1 k = I k := fun k k1 k2 => h1 k (by omega) (by omega)
  have hv := hR1.2.1
  rcases hz1 with ⟨a1, a2⟩ | ⟨a1, a2⟩ <;> rcases hz2 with ⟨b1, b2⟩ | ⟨b1, b2⟩
  · omega
  · exact absurd ⟨(hasV_cong e a).mp ((hv.has a).mpr b1.1), (hasV_cong e b).mp ((hv.has b).mpr b1.2)⟩ a1
  · exact absurd ⟨(hv.has a).mp ((hasV_cong e a).mpr a1.1), (hv.has b).mp ((hasV_cong e b).mpr a1.2)⟩ b1
  · have ha := a1.1.lt
    have hb := a1.2.lt
    rw [← (vB_cong e ha).1, ← (vB_cong e ha).2, ← (vB_cong e hb).1, ← (vB_cong e hb).2, hv.nn ha, hv.nn hb] at a2
    exact stA_eq (hv.b ha) (hv.b hb) a2 b2
theorem sm_room {a b what : Int} (hR : RI n I) (h1 : ∀ k, k < 84 → k < 9 ∨ (17 < k ∧ k < 28) ∨ 35 < k → J1 k = I k) (h2 : mScr J1 J2) : (if hasV I a ∧ hasV I b ∧ 0 ≤ what ∧ what ≤ 2 then (if what = 0 then cn (kpV I a.toNat b.toNat 0) 120 else if what = 1 then cn (kpV I a.toNat b.toNat 1) 120 else min (cn (kpV I a.toNat b.toNat 0) 120) (cn (kpV I a.toNat b.toNat 1) 120)) else -1) = (if hasM J1 a ∧ hasM J1 b ∧ 0 ≤ what ∧ what ≤ 2 then (if what = 0 then cn (kpM J1 a.toNat b.toNat 0) 120 else if what = 1 then cn (kpM J1 a.toNat b.toNat 1) 120 else min (cn (kpM J1 a.toNat b.toNat 0) 120) (cn (kpM J1 a.toNat b.toNat 1) 120)) else -1) ∧ RI (n + 1) J2 ∧ clF J1 J2 := by
  have hR1 := hR.cong (Nat.le_refl n) (same_r h1)
  refine ⟨?_, hR1.cong (Nat.le_succ n) h2.same, h2.clF⟩
  have e : ∀ k, 18 ≤ k → k ≤ 27 → J1 k = I k := fun k k1 k2 => h1 k (by omega) (by omega)
  have hv := hR1.2.1
  by_cases q : hasV I a ∧ hasV I b ∧ 0 ≤ what ∧ what ≤ 2
  · have q2 : hasM J1 a ∧ hasM J1 b ∧ 0 ≤ what ∧ what ≤ 2 := ⟨(hv.has a).mp ((hasV_cong e a).mpr q.1), (hv.has b).mp ((hasV_cong e b).mpr q.2.1), q.2.2⟩
    have k0 := (kpV_cong e q.1.lt q.2.1.lt 0).symm.trans (hv.kp q.1.lt q.2.1.lt 0)
    have k1 := (kpV_cong e q.1.lt q.2.1.lt 1).symm.trans (hv.kp q.1.lt q.2.1.lt 1)
    rw [if_pos q, if_pos q2, k0, k1]
  · rw [if_neg q, if_neg (fun w => q ⟨(hasV_cong e a).mp ((hv.has a).mpr w.1), (hasV_cong e b).mp ((hv.has b).mpr w.2.1), w.2.2⟩)]
theorem eq_melted (hR : RI n I) (k what : Int) : (if I 36 4 = 0 then -1 else ptell (I 36 4) (I 37) (I 38) (I 39) (I 40) k what) = (if I 54 20 = 0 then -1 else ptell (I 54 20) (I 68) (I 69) (I 70) (I 71) k what) := by
  obtain ⟨h1, h2, h3, h4⟩ := hR.2.2.1
  obtain ⟨N, hN⟩ : ∃ N : Nat, I 36 4 = N := ⟨(I 36 4).toNat, by omega⟩
  rw [h1, hN]
  by_cases q : (N : Int) = 0
  · rw [if_pos q, if_pos q]
  · rw [if_neg q, if_neg q]
    exact ptell_cong (fun k hk => h4 k (by omega)) k what
end SMA
