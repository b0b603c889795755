section SMB
variable {T L : Nat → Nat} {P : Nat → Nat → Option Nat} {I J J1 J2 : Nat → Nat → Int} {hn n : Nat}
theorem sM_cong (e6 : J 56 = I 56) (e7 : J 57 = I 57) (a b : Nat) : sM J a b = sM I a b ∧ bM J a b = bM I a b ∧ mN J b = mN I b := by
  unfold sM bM mN mBy
  rw [e6, e7]
  exact ⟨rfl, rfl, rfl⟩
theorem hasM_cong (e7 : J 57 = I 57) (v : Int) : hasM J v ↔ hasM I v := by unfold hasM; rw [e7]
theorem mpos_un {s b : Nat → Int} {n N N' : Nat} (h1 : mpos s b n N = n) (h2 : ∀ k, k < N → mpos s b n k < n) (h1' : mpos s b n N' = n) (h2' : ∀ k, k < N' → mpos s b n k < n) : N = N' := by
  rcases Nat.lt_trichotomy N N' with q | q | q
  · have := h2' N q; omega
  · exact q
  · have := h2 N' q; omega
theorem sm_melt {a b c z1 z2 : Int} (hR : RI n I) (h1 : (¬ allV I a b c ∧ (some (.inl z1) : Option PV) = some (.inl (-1)) ∧ J1 = I) ∨ (allV I a b c ∧ (some (.inl z1) : Option PV) = some (.inl (J1 36 5)) ∧ (∀ k, k < 84 → k < 9 ∨ (17 < k ∧ k < 28) ∨ 40 < k → J1 k = I k) ∧ MK (mS (sV I a.toNat b.toNat) (sV I b.toNat c.toNat)) (mB (bV I a.toNat b.toNat) (sV I b.toNat c.toNat) (bV I b.toNat c.toNat)) (vN I c.toNat) 36 37 38 39 40 J1)) (h2 : mlR J1 a b c (some (.inl z2)) J2) : z1 = z2 ∧ RI (n + 1) J2 ∧ clF J1 J2 := by
  have hv := hR.2.1
  have e7 : J1 57 = I 57 := by
    rcases h1 with ⟨a1, a2, a3⟩ | ⟨a1, a2, a3, a4⟩
    · rw [a3]
    · exact a3 57 (by decide) (by decide)
  have e6 : J1 56 = I 56 := by
    rcases h1 with ⟨a1, a2, a3⟩ | ⟨a1, a2, a3, a4⟩
    · rw [a3]
    · exact a3 56 (by decide) (by decide)
  have hal : allV I a b c ↔ allM J1 a b c := by
    unfold allV allM
    rw [hasM_cong e7, hasM_cong e7, hasM_cong e7, hv.has, hv.has, hv.has]
  rcases h1 with ⟨a1, a2, a3⟩ | ⟨a1, a2, a3, a4⟩ <;> rcases h2 with ⟨b1, b2, b3⟩ | ⟨b1, z, b2, b3⟩
  · subst b3 a3; exact ⟨(soi a2).trans (soi b2).symm, hR.up, clF.refl _⟩
  · exact absurd (hal.mpr b1) a1
  · exact absurd (hal.mp a1) b1
  · have ha := a1.1.lt
    have hb := a1.2.1.lt
    have hc := a1.2.2.lt
    obtain ⟨b31, b32, N', m1', m2', m3', m4', m5'⟩ := b3
    rw [(sM_cong e6 e7 a.toNat b.toNat).1, (sM_cong e6 e7 a.toNat b.toNat).2.1, (sM_cong e6 e7 b.toNat c.toNat).1, (sM_cong e6 e7 b.toNat c.toNat).2.1, (sM_cong e6 e7 b.toNat c.toNat).2.2] at m1' m2' m3' m5'
    rw [hv.nn hc] at a4
    have hx : ∀ x, x < mN I c.toNat → (mS (sV I a.toNat b.toNat) (sV I b.toNat c.toNat) x = mS (sM I a.toNat b.toNat) (sM I b.toNat c.toNat) x ∧ (mS (sV I a.toNat b.toNat) (sV I b.toNat c.toNat) x ≠ -1 → mB (bV I a.toNat b.toNat) (sV I b.toNat c.toNat) (bV I b.toNat c.toNat) x = bMM (sM I a.toNat b.toNat) (bM I a.toNat b.toNat) (sM I b.toNat c.toNat) (bM I b.toNat c.toNat) x)) ∧ -1 ≤ mS (sV I a.toNat b.toNat) (sV I b.toNat c.toNat) x := by
      intro x hx
      obtain ⟨p1, p2, p3, p4, p5⟩ := hv.src hb hc hx
      have hd : mS (sM I a.toNat b.toNat) (sM I b.toNat c.toNat) x = if 0 ≤ sM I b.toNat c.toNat x then sM I a.toNat b.toNat (sM I b.toNat c.toNat x).toNat else sM I b.toNat c.toNat x := rfl
      have hd2 : mS (sV I a.toNat b.toNat) (sV I b.toNat c.toNat) x = if 0 ≤ sM I b.toNat c.toNat x then sV I a.toNat b.toNat (sM I b.toNat c.toNat x).toNat else sM I b.toNat c.toNat x := by
        show (if 0 ≤ sV I b.toNat c.toNat x then sV I a.toNat b.toNat (sV I b.toNat c.toNat x).toNat else sV I b.toNat c.toNat x) = _
        rw [p1]
      have hd3 : mB (bV I a.toNat b.toNat) (sV I b.toNat c.toNat) (bV I b.toNat c.toNat) x = if 0 ≤ sM I b.toNat c.toNat x then (bV I b.toNat c.toNat x + bV I a.toNat b.toNat (sM I b.toNat c.toNat x).toNat) % 256 else bV I b.toNat c.toNat x := by
        show (if 0 ≤ sV I b.toNat c.toNat x then (bV I b.toNat c.toNat x + bV I a.toNat b.toNat (sV I b.toNat c.toNat x).toNat) % 256 else bV I b.toNat c.toNat x) = _
        rw [p1]
      rcases p4 with w | w
      · have hd4 : mS (sM I a.toNat b.toNat) (sM I b.toNat c.toNat) x = -1 := by rw [hd, if_neg (by omega), w]
        have hd5 : mS (sV I a.toNat b.toNat) (sV I b.toNat c.toNat) x = -1 := by rw [hd2, if_neg (by omega), w]
        exact ⟨⟨hd5.trans hd4.symm, fun q => absurd hd5 q⟩, by rw [hd5]; decide⟩
      · obtain ⟨q1, q2, q3, q4, q5⟩ := hv.src ha hb (x := (sM I b.toNat c.toNat x).toNat) (by omega)
        rw [if_pos w.1] at hd hd2 hd3
        refine ⟨⟨by rw [hd, hd2, q1], fun q => ?_⟩, by rw [hd2, q1]; rcases q4 with u | u <;> omega⟩
        rw [hd2, q1] at q
        rw [hd3, q2 q, p2 (by omega)]
        unfold bMM
        rw [hd, if_neg q]
    have a5 := MK.cong a4 (fun x h => (hx x h).1) (fun x h => (hx x h).2)
    obtain ⟨N, m1, m2, m3, m4, m5⟩ := a5
    have hN := mpos_un m1 m2 m1' m2'
    subst hN
    have hnc := (hv.1.n hc).2
    have hN120 : N ≤ 120 := by have := (mpos_ge hnc m2 N (Nat.le_refl _)).1; omega
    have e : ∀ k, k < 84 → k ≠ 54 → k < 9 ∨ (17 < k ∧ k < 28) ∨ (40 < k ∧ k < 58) ∨ 71 < k → J2 k = I k := fun k k1 k2 k3 => by rw [b31 k k2 (by omega), a3 k k1 (by omega)]
    have e54 : ∀ j, j ≠ 10 → j ≠ 11 → j ≠ 20 → J2 54 j = I 54 j := fun j j1 j2 j3 => by rw [b32 j j1 j2 j3, a3 54 (by decide) (by decide)]
    have e3 : ∀ k, 36 ≤ k → k ≤ 40 → J2 k = J1 k := fun k k1 k2 => b31 k (by omega) (by omega)
    obtain ⟨ht, -, -, hd, hf, hh⟩ := hR
    refine ⟨by rw [soi a2, soi b2, m4, m3'], ⟨ht.cong (by rw [e 4 (by decide) (by decide) (by decide)]) (e 5 (by decide) (by decide) (by decide)) (e54 1 (by decide) (by decide) (by decide)) (e 55 (by decide) (by decide) (by decide)), hv.cong (fun k k1 k2 => e k (by omega) (by omega) (by omega)) (e 56 (by decide) (by decide) (by decide)) (e 57 (by decide) (by decide) (by decide)), ?_, hd.cong (Nat.le_succ n) (fun k k1 k2 => e k (by omega) (by omega) (by omega)) (fun k k1 k2 => e k (by omega) (by omega) (by omega)) (fun j j1 j2 => e54 j (by omega) (by omega) (by omega)), hf.cong (e 80 (by decide) (by decide) (by decide)) (e 51 (by decide) (by decide) (by decide)) (e 57 (by decide) (by decide) (by decide)), hh.cong (by rw [e 50 (by decide) (by decide) (by decide)]) (e 81 (by decide) (by decide) (by decide))⟩, fun k hk => b31 k (by omega) (by omega)⟩
    unfold ML
    rw [e3 36 (by decide) (by decide), e3 37 (by decide) (by decide), e3 38 (by decide) (by decide), e3 39 (by decide) (by decide), e3 40 (by decide) (by decide), m3, m4']
    exact ⟨rfl, by omega, by omega, fun k hk => by rw [m5 k (by omega), m5' k (by omega)]⟩
theorem UD.cong {C M C' M' : Nat → Nat → Int} (h : UD C M) (e41 : ∀ j, 4 ≤ j → j ≤ 7 → C' 41 j = C 41 j) (e1 : ∀ k, 43 ≤ k → k ≤ 49 → C' k = C k) (e54 : ∀ j, j = 26 ∨ j = 27 ∨ j = 28 ∨ j = 31 → M' 54 j = M 54 j) (e2 : ∀ k, 74 ≤ k → k ≤ 79 → M' k = M k) : UD C' M' := by
  unfold UD DB dAll at h ⊢
  rw [e41 4 (by decide) (by decide), e41 5 (by decide) (by decide), e41 6 (by decide) (by decide), e41 7 (by decide) (by decide), e1 43 (by decide) (by decide), e1 44 (by decide) (by decide), e1 45 (by decide) (by decide), e1 46 (by decide) (by decide), e1 47 (by decide) (by decide), e1 48 (by decide) (by decide), e1 49 (by decide) (by decide), e2 74 (by decide) (by decide), e2 75 (by decide) (by decide), e2 76 (by decide) (by decide), e2 77 (by decide) (by decide), e2 78 (by decide) (by decide), e2 79 (by decide) (by decide), e54 26 (by decide), e54 27 (by decide), e54 28 (by decide), e54 31 (by decide)]
  exact h
theorem DV.c8 {C M C' M' : Nat → Nat → Int} (h : DV C M) (e41 : ∀ j, j ≠ 8 → C' 41 j = C 41 j) (e1 : ∀ k, 42 ≤ k → k ≤ 49 → C' k = C k) (e54 : ∀ j, 24 ≤ j → j ≠ 25 → j ≤ 31 → M' 54 j = M 54 j) (e2 : ∀ k, 73 ≤ k → k ≤ 79 → M' k = M k) : DV C' M' := by
  obtain ⟨d1, d2, d3, d4, d5, d6, d7, d8, d9⟩ := h
  unfold DV
  rw [e41 4 (by decide), e41 7 (by decide), e41 9 (by decide), e41 10 (by decide), e1 42 (by decide) (by decide), e1 43 (by decide) (by decide), e1 44 (by decide) (by decide), e1 49 (by decide) (by decide), e2 73 (by decide) (by decide), e2 74 (by decide) (by decide), e54 24 (by decide) (by decide) (by decide), e54 29 (by decide) (by decide) (by decide), e54 30 (by decide) (by decide) (by decide)]
  exact ⟨d1, d2, d3, d4, d5, fun w => (d6 w).cong (fun j j1 j2 => e41 j (by omega)) (fun k k1 k2 => e1 k (by omega) (by omega)) (fun j hj => e54 j (by omega) (by omega) (by omega)) (fun k k1 k2 => e2 k (by omega) (by omega)), d7, d8, d9⟩
/-- all but the device stays -/
theorem RI.dev {m : Nat} (h : RI n I) (e : ∀ k, k < 41 ∨ (49 < k ∧ k ≠ 54 ∧ k < 73) ∨ 74 < k → J k = I k) (e54 : ∀ j, j < 24 ∨ 31 < j → J 54 j = I 54 j) (hd : DW m J) : RI m J := by
  obtain ⟨h1, h2, h3, -, h5, h6⟩ := h
  exact ⟨h1.cong (by rw [e 4 (by omega)]) (e 5 (by omega)) (e54 1 (by decide)) (e 55 (by omega)), h2.cong (fun k k1 k2 => e k (by omega)) (e 56 (by omega)) (e 57 (by omega)), h3.cong (e54 20 (by decide)) (fun k k1 k2 => e k (by omega)) (fun k k1 k2 => e k (by omega)), hd, h5.cong (e 80 (by omega)) (e 51 (by omega)) (e 57 (by omega)), h6.cong (by rw [e 50 (by omega)]) (e 81 (by omega))⟩
theorem sm_install {v z2 : Int} (hR : RI n I) (hJ1 : J1 = if hasV I v then mI (mI (mI (mR I 43 (fun j => if j < (I (18 + 2 * v.toNat) 1).toNat then I (19 + 2 * v.toNat) j else if j < 120 then 0 else I 43 j)) 42 1 (I (18 + 2 * v.toNat) 1)) 41 9 0) 41 10 0 else I) (h2 : (¬ hasM J1 v ∧ (some (.inl z2) : Option PV) = some (.inl 0) ∧ J2 = J1) ∨ (hasM J1 v ∧ (some (.inl z2) : Option PV) = some (.inl 1) ∧ minP J1 v.toNat J2)) : (if hasV I v then (1 : Int) else 0) = z2 ∧ RI (n + 1) J2 ∧ clF I J2 := by
  have hv := hR.2.1
  by_cases q : hasV I v
  · rw [if_pos q] at hJ1
    have h5 := q.lt
    have c1 : ∀ c, c ≠ 41 → c ≠ 42 → c ≠ 43 → J1 c = I c := fun c c1 c2 c3 => by rw [hJ1, mI_ne c1, mI_ne c1, mI_ne c2, mR_ne c3]
    have c41 : ∀ j, j ≠ 9 → j ≠ 10 → J1 41 j = I 41 j := fun j j1 j2 => by rw [hJ1, mI_nj j2, mI_nj j1, mI_ne (by decide), mR_ne (by decide)]
    have c9 : J1 41 9 = 0 := by rw [hJ1, mI_nj (by decide), mI_eq]
    have c10 : J1 41 10 = 0 := by rw [hJ1, mI_eq]
    have c42 : J1 42 1 = I (18 + 2 * v.toNat) 1 := by rw [hJ1, mI_ne (by decide), mI_ne (by decide), mI_eq]
    have c43 : ∀ j, J1 43 j = if j < (I (18 + 2 * v.toNat) 1).toNat then I (19 + 2 * v.toNat) j else if j < 120 then 0 else I 43 j := fun j => by rw [hJ1, mI_ne (by decide), mI_ne (by decide), mI_ne (by decide), mR_eq]
    rcases h2 with ⟨b1, b2, b3⟩ | ⟨b1, b2, b3⟩
    · exact absurd ((hasM_cong (c1 57 (by decide) (by decide) (by decide)) v).mpr ((hv.has v).mp q)) b1
    · obtain ⟨m1, m2, m3, m4, m5, m6⟩ := b3
      rw [c1 57 (by decide) (by decide) (by decide)] at m3 m6
      rw [c1 56 (by decide) (by decide) (by decide)] at m6
      have hvs := hv.2 _ h5
      have hmv := hv.1.1 _ h5
      obtain ⟨⟨⟨-, -⟩, d2, -, -, -, -, d7, d8, d9⟩, w1, w2, w3⟩ := hR.2.2.2.1
      refine ⟨by rw [if_pos q]; exact (soi b2).symm, hR.dev (fun k hk => by rw [m1 k (by omega) (by omega), c1 k (by omega) (by omega) (by omega)]) (fun j hj => by rw [m2 j (by omega) (by omega) (by omega), c1 54 (by decide) (by decide) (by decide)]) ⟨⟨⟨by rw [m3, m1 42 (by decide) (by decide), c42]; exact hvs.1, by rw [m1 42 (by decide) (by decide), c42, ← hvs.1]; exact hmv.1, by rw [m1 42 (by decide) (by decide), c42, ← hvs.1]; exact hmv.2⟩, fun j hj => ⟨?_, ?_⟩, ⟨by rw [m4, m1 41 (by decide) (by decide), c9], Or.inl (by rw [m1 41 (by decide) (by decide), c9])⟩, ⟨by rw [m5, m1 41 (by decide) (by decide), c10], Or.inl (by rw [m1 41 (by decide) (by decide), c10])⟩, fun _ => by rw [m1 41 (by decide) (by decide), c10], fun w => absurd (by rw [m1 41 (by decide) (by decide), c9]) w, by rw [m1 41 (by decide) (by decide), c41 4 (by decide) (by decide)]; exact d7, by rw [m1 41 (by decide) (by decide), c41 7 (by decide) (by decide)]; exact d8, by rw [m1 44 (by decide) (by decide), c1 44 (by decide) (by decide) (by decide)]; exact d9⟩, by rw [m2 25 (by decide) (by decide) (by decide), c1 54 (by decide) (by decide) (by decide), m1 41 (by decide) (by decide), c41 8 (by decide) (by decide)]; exact w1, by rw [m1 41 (by decide) (by decide), c41 8 (by decide) (by decide)]; exact w2, by rw [m1 41 (by decide) (by decide), c41 8 (by decide) (by decide)]; omega⟩, fun k hk => by rw [m1 k (by omega) (by omega), c1 k (by omega) (by omega) (by omega)]⟩
      · rw [m6 j hj, m1 43 (by decide) (by decide), c43 j, ← hvs.1]
        by_cases w : (j : Int) < I 57 v.toNat
        · rw [if_pos w, if_pos (by omega)]
          exact ⟨hvs.2 j w, hv.1.2 _⟩
        · rw [if_neg w, if_neg (by omega), if_pos hj]
          exact ⟨rfl, by decide, by decide⟩
      · rw [m1 74 (by decide) (by decide), m1 49 (by decide) (by decide), c1 74 (by decide) (by decide) (by decide), c1 49 (by decide) (by decide) (by decide)]
        exact (d2 j hj).2
  · rw [if_neg q] at hJ1
    subst hJ1
    rcases h2 with ⟨b1, b2, b3⟩ | ⟨b1, b2, b3⟩
    · subst b3
      exact ⟨by rw [if_neg q]; exact (soi b2).symm, hR.up, clF.refl _⟩
    · exact absurd ((hv.has v).mpr b1) q
theorem sm_write {w z1 z2 : Int} (hR : RI n I) (h1 : (¬ (0 ≤ w ∧ w ≤ 1000) ∧ (some (.inl z1) : Option PV) = some (.inl (-1)) ∧ J1 = I) ∨ ((0 ≤ w ∧ w ≤ 1000) ∧ (I 41 9 = 0 ∨ I 41 10 ≠ 0) ∧ (some (.inl z1) : Option PV) = some (.inl (-2)) ∧ J1 = I) ∨ ((0 ≤ w ∧ w ≤ 1000) ∧ I 41 9 ≠ 0 ∧ I 41 10 = 0 ∧ (some (.inl z1) : Option PV) = some (.inl ((dIt w.toNat I).2 : Nat)) ∧ J1 = mI (dIt w.toNat I).1 41 8 (I 41 8 + (dIt w.toNat I).2))) (h2 : (¬ (0 ≤ w ∧ w ≤ 1000) ∧ (some (.inl z2) : Option PV) = some (.inl (-1)) ∧ J2 = J1) ∨ ((0 ≤ w ∧ w ≤ 1000) ∧ (J1 54 29 = 0 ∨ J1 54 30 ≠ 0) ∧ (some (.inl z2) : Option PV) = some (.inl (-2)) ∧ J2 = J1) ∨ ((0 ≤ w ∧ w ≤ 1000) ∧ J1 54 29 ≠ 0 ∧ J1 54 30 = 0 ∧ (some (.inl z2) : Option PV) = some (.inl ((mIt w.toNat J1).2 : Nat)) ∧ J2 = (mIt w.toNat J1).1)) : z1 = z2 ∧ RI (n + 1) J2 ∧ clF I J2 := by
  obtain ⟨hD, w1, w2, w3⟩ := hR.2.2.2.1
  have d3 := hD.2.2.1.1
  have d4 := hD.2.2.2.1.1
  rcases h1 with ⟨a1, a2, a3⟩ | ⟨a1, a2, a3, a4⟩ | ⟨a1, a2, a3, a4, a5⟩
  · subst a3
    rcases h2 with ⟨b1, b2, b3⟩ | ⟨b1, -⟩ | ⟨b1, -⟩
    · subst b3; exact ⟨(soi a2).trans (soi b2).symm, hR.up, clF.refl _⟩
    · exact absurd b1 a1
    · exact absurd b1 a1
  · subst a4
    rcases h2 with ⟨b1, -⟩ | ⟨b1, b2, b3, b4⟩ | ⟨b1, b2, b3, -⟩
    · exact absurd a1 b1
    · subst b4; exact ⟨(soi a3).trans (soi b3).symm, hR.up, clF.refl _⟩
    · omega
  · have c1 : ∀ c, c ≠ 41 → c ≠ 42 → c ≠ 43 → c ≠ 49 → J1 c = I c := fun c c1 c2 c3 c4 => by rw [a5, mI_ne c1]; exact dIt_fr _ I c c1 c2 c3 c4
    have x54 : J1 54 = I 54 := c1 54 (by decide) (by decide) (by decide) (by decide)
    rcases h2 with ⟨b1, -⟩ | ⟨b1, b2, -⟩ | ⟨b1, b2, b3, b4, b5⟩
    · exact absurd a1 b1
    · rw [x54] at b2; omega
    · have hD1 : DV I J1 := hD.cong (fun _ _ _ => rfl) (fun k k1 k2 => c1 k (by omega) (by omega) (by omega) (by omega)) (fun j _ _ _ => by rw [x54])
      have hit := DV.it w.toNat hD1 a3
      have hf := mIt_fr w.toNat J1
      have h8 := dIt_8 w.toNat I
      rw [← b5] at hf hit
      obtain ⟨f1, f2, f3, f4⟩ := hf
      have j41 : ∀ j, j ≠ 8 → J2 41 j = (dIt w.toNat I).1 41 j := fun j hj => by rw [f1 41 (by decide) (by decide) (by decide), a5, mI_nj hj]
      have j48 : J2 41 8 = I 41 8 + ((dIt w.toNat I).2 : Nat) := by rw [f1 41 (by decide) (by decide) (by decide), a5, mI_eq]
      have jk : ∀ k, 42 ≤ k → k ≤ 49 → J2 k = (dIt w.toNat I).1 k := fun k k1 k2 => by rw [f1 k (by omega) (by omega) (by omega), a5, mI_ne (by omega)]
      refine ⟨by rw [soi a4, soi b4, hit.2], hR.dev (fun k hk => ?_) (fun j hj => by rw [f2 j hj, x54]) ⟨hit.1.c8 j41 jk (fun _ _ _ _ => rfl) (fun _ _ _ => rfl), ?_, ?_, ?_⟩, fun k hk => ?_⟩
      · rw [f1 k (by omega) (by omega) (by omega), c1 k (by omega) (by omega) (by omega) (by omega)]
      · rw [f3, x54, j48, w1, hit.2]
      · rw [j48]; omega
      · rw [j48]; have := h8.2; omega
      · rw [f1 k (by omega) (by omega) (by omega), c1 k (by omega) (by omega) (by omega) (by omega)]
theorem sm_cut (hR : RI n I) (hJ1 : J1 = if I 41 9 ≠ 0 ∧ I 41 10 = 0 then mI I 41 10 1 else I) (hJ2 : J2 = if J1 54 29 ≠ 0 ∧ J1 54 30 = 0 then mI J1 54 30 1 else J1) : (if I 41 9 ≠ 0 ∧ I 41 10 = 0 then (1 : Int) else 0) = (if J1 54 29 ≠ 0 ∧ J1 54 30 = 0 then 1 else 0) ∧ RI (n + 1) J2 ∧ clF I J2 := by
  obtain ⟨⟨d1, d2, d3, d4, d5, d6, d7, d8, d9⟩, w1, w2, w3⟩ := id hR.2.2.2.1
  by_cases q : I 41 9 ≠ 0 ∧ I 41 10 = 0
  · rw [if_pos q] at hJ1
    have x54 : J1 54 = I 54 := by rw [hJ1, mI_ne (by decide)]
    have q2 : J1 54 29 ≠ 0 ∧ J1 54 30 = 0 := by rw [x54, d3.1, d4.1]; exact q
    rw [if_pos q2] at hJ2
    have c : ∀ k, k ≠ 41 → k ≠ 54 → J2 k = I k := fun k k1 k2 => by rw [hJ2, mI_ne k2, hJ1, mI_ne k1]
    have c41 : ∀ j, j ≠ 10 → J2 41 j = I 41 j := fun j hj => by rw [hJ2, mI_ne (by decide), hJ1, mI_nj hj]
    have c10 : J2 41 10 = 1 := by rw [hJ2, mI_ne (by decide), hJ1, mI_eq]
    have c54 : ∀ j, j ≠ 30 → J2 54 j = I 54 j := fun j hj => by rw [hJ2, mI_nj hj, x54]
    have c30 : J2 54 30 = 1 := by rw [hJ2, mI_eq]
    refine ⟨by rw [if_pos q, if_pos q2], hR.dev (fun k hk => c k (by omega) (by omega)) (fun j hj => c54 j (by omega)) ⟨⟨?_, ?_, ?_, ⟨by rw [c30, c10], Or.inr c10⟩, fun w => absurd (by rw [← c41 9 (by decide)]; exact w) q.1, fun _ => (d6 q.1).cong (fun j j1 j2 => c41 j (by omega)) (fun k k1 k2 => c k (by omega) (by omega)) (fun j hj => c54 j (by omega)) (fun k k1 k2 => c k (by omega) (by omega)), ?_, ?_, ?_⟩, ?_, ?_, ?_⟩, fun k hk => c k (by omega) (by omega)⟩
    · rw [c54 24 (by decide), c 42 (by decide) (by decide)]; exact d1
    · rw [c 73 (by decide) (by decide), c 74 (by decide) (by decide), c 43 (by decide) (by decide), c 49 (by decide) (by decide)]; exact d2
    · rw [c54 29 (by decide), c41 9 (by decide)]; exact d3
    · rw [c41 4 (by decide)]; exact d7
    · rw [c41 7 (by decide)]; exact d8
    · rw [c 44 (by decide) (by decide)]; exact d9
    · rw [c54 25 (by decide), c41 8 (by decide)]; exact w1
    · rw [c41 8 (by decide)]; exact w2
    · rw [c41 8 (by decide)]; omega
  · rw [if_neg q] at hJ1
    subst hJ1
    have q2 : ¬ (J1 54 29 ≠ 0 ∧ J1 54 30 = 0) := by rw [d3.1, d4.1]; exact q
    rw [if_neg q2] at hJ2
    subst hJ2
    exact ⟨by rw [if_neg q, if_neg q2], hR.up, clF.refl _⟩
theorem sm_on {z1 z2 : Int} (hR : RI n I) (h1 : (I 41 10 = 0 ∧ (some (.inl z1) : Option PV) = some (.inl (-2)) ∧ J1 = I) ∨ (I 41 10 ≠ 0 ∧ (some (.inl z1) : Option PV) = some (.inl (if I 41 9 ≠ 0 then dAll I - (if I 41 7 = -1 then 0 else I 41 4 + 1 + 2 * I 41 7) else 0)) ∧ J1 = mI (mI I 41 10 0) 41 6 (if I 41 7 = -1 then 0 else I 41 4 + 1 + 2 * I 41 7))) (h2 : (J1 54 30 = 0 ∧ (some (.inl z2) : Option PV) = some (.inl (-2)) ∧ J2 = J1) ∨ (J1 54 30 ≠ 0 ∧ (some (.inl z2) : Option PV) = some (.inl (mAll J1 - mOn J1)) ∧ J2 = mI (mI J1 54 30 0) 54 26 (mOn J1))) : z1 = z2 ∧ RI (n + 1) J2 ∧ clF I J2 := by
  obtain ⟨⟨d1, d2, d3, d4, d5, d6, d7, d8, d9⟩, w1, w2, w3⟩ := id hR.2.2.2.1
  rcases h1 with ⟨a1, a2, a3⟩ | ⟨a1, a2, a3⟩
  · subst a3
    rcases h2 with ⟨b1, b2, b3⟩ | ⟨b1, -⟩
    · subst b3; exact ⟨(soi a2).trans (soi b2).symm, hR.up, clF.refl _⟩
    · rw [d4.1] at b1; exact absurd a1 b1
  · have x54 : J1 54 = I 54 := by rw [a3, mI_ne (by decide), mI_ne (by decide)]
    rcases h2 with ⟨b1, -⟩ | ⟨b1, b2, b3⟩
    · rw [x54, d4.1] at b1; exact absurd b1 a1
    · have hb : I 41 9 ≠ 0 := fun q => a1 (d5 q)
      obtain ⟨⟨e1, e2, e3, e4, e5, e6, e0⟩, u26, u27, u28, u31, u7, u1, u2, u3⟩ := d6 hb
      have hall : dAll I = I 41 4 + 1 + 2 * I 44 3 + 1 := rfl
      have hmall : mAll J1 = I 54 27 + 2 + 2 * I 54 28 := by rw [mAll, x54]
      obtain ⟨x, hx⟩ : ∃ x, x = (if I 41 7 = -1 then 0 else I 41 4 + 1 + 2 * I 41 7) := ⟨_, rfl⟩
      have hox : mOn J1 = x := by
        rw [mOn, x54, u26, u27, hx, u7]
        by_cases q : I 41 4 < I 41 6
        · rw [if_neg (by omega), if_pos q, if_neg (by omega)]; omega
        · rw [if_pos (by omega), if_neg q, if_pos rfl]
      have hxb : 0 ≤ x ∧ x ≤ I 41 6 := by
        rw [hx, u7]
        by_cases q : I 41 4 < I 41 6
        · rw [if_pos q, if_neg (by omega)]; omega
        · rw [if_neg q, if_pos rfl]; omega
      have hxm : I 41 7 = (if I 41 4 < x then (x - I 41 4 - 1) / 2 else -1) := by
        by_cases q : I 41 4 < I 41 6
        · have e7 : I 41 7 = (I 41 6 - I 41 4 - 1) / 2 := by rw [u7, if_pos q]
          have ex : x = I 41 4 + 1 + 2 * I 41 7 := by rw [hx, if_neg (by omega)]
          rw [if_pos (by omega)]; omega
        · have e7 : I 41 7 = -1 := by rw [u7, if_neg q]
          have ex : x = 0 := by rw [hx, if_pos e7]
          rw [if_neg (by omega)]; exact e7
      rw [← hx] at a2 a3
      rw [hox] at b2 b3
      have c : ∀ k, k ≠ 41 → k ≠ 54 → J2 k = I k := fun k k1 k2 => by rw [b3, mI_ne k2, mI_ne k2, a3, mI_ne k1, mI_ne k1]
      have c41 : ∀ j, j ≠ 6 → j ≠ 10 → J2 41 j = I 41 j := fun j j1 j2 => by rw [b3, mI_ne (by decide), mI_ne (by decide), a3, mI_nj j1, mI_nj j2]
      have c10 : J2 41 10 = 0 := by rw [b3, mI_ne (by decide), mI_ne (by decide), a3, mI_nj (by decide), mI_eq]
      have c6 : J2 41 6 = x := by rw [b3, mI_ne (by decide), mI_ne (by decide), a3, mI_eq]
      have c54 : ∀ j, j ≠ 26 → j ≠ 30 → J2 54 j = I 54 j := fun j j1 j2 => by rw [b3, mI_nj j1, mI_nj j2, x54]
      have c30 : J2 54 30 = 0 := by rw [b3, mI_nj (by decide), mI_eq]
      have c26 : J2 54 26 = x := by rw [b3, mI_eq]
      refine ⟨by rw [soi a2, soi b2, if_pos hb, hmall]; omega, hR.dev (fun k hk => c k (by omega) (by omega)) (fun j hj => c54 j (by omega) (by omega)) ⟨⟨?_, ?_, ?_, ⟨by rw [c30, c10], Or.inl c10⟩, fun _ => c10, fun _ => ⟨⟨?_, ⟨?_, ?_⟩, ?_, ?_, ?_, ?_, ?_⟩, ?_, ?_, ?_, ?_, ?_, ?_, fun k hk => ?_, ?_⟩, ?_, ?_, ?_⟩, ?_, ?_, ?_⟩, fun k hk => c k (by omega) (by omega)⟩
      · rw [c54 24 (by decide) (by decide), c 42 (by decide) (by decide)]; exact d1
      · rw [c 73 (by decide) (by decide), c 74 (by decide) (by decide), c 43 (by decide) (by decide), c 49 (by decide) (by decide)]; exact d2
      · rw [c54 29 (by decide) (by decide), c41 9 (by decide) (by decide)]; exact d3
      · rw [c41 4 (by decide) (by decide)]; exact e1
      · rw [c6]; exact hxb.1
      · rw [c6, dAll_keep (c41 4 (by decide) (by decide)) (c 44 (by decide) (by decide))]; omega
      · rw [c 44 (by decide) (by decide)]; exact e3
      · rw [c41 4 (by decide) (by decide), c 48 (by decide) (by decide)]; exact e4
      · rw [c 44 (by decide) (by decide), c 45 (by decide) (by decide), c 46 (by decide) (by decide)]; exact e5
      · rw [c 43 (by decide) (by decide), c 49 (by decide) (by decide)]; exact e6
      · rw [c41 5 (by decide) (by decide)]; exact e0
      · rw [c26, c6]
      · rw [c54 27 (by decide) (by decide), c41 4 (by decide) (by decide)]; exact u27
      · rw [c54 28 (by decide) (by decide), c 44 (by decide) (by decide)]; exact u28
      · rw [c54 31 (by decide) (by decide), c41 5 (by decide) (by decide)]; exact u31
      · rw [c41 7 (by decide) (by decide), c41 4 (by decide) (by decide), c6]; exact hxm
      · rw [c 44 (by decide) (by decide), c 45 (by decide) (by decide), c 46 (by decide) (by decide), c 75 (by decide) (by decide), c 76 (by decide) (by decide), c 77 (by decide) (by decide)]; exact u1
      · rw [c41 4 (by decide) (by decide)] at hk
        rw [c 78 (by decide) (by decide), c 79 (by decide) (by decide), c 48 (by decide) (by decide), c 74 (by decide) (by decide), c 49 (by decide) (by decide), c6]
        exact ⟨(u2 k hk).1, (u2 k hk).2.1, fun w => (u2 k hk).2.2 (by omega)⟩
      · rw [c 47 (by decide) (by decide), c 48 (by decide) (by decide), c41 4 (by decide) (by decide), c 79 (by decide) (by decide)]; exact u3
      · rw [c41 4 (by decide) (by decide)]; exact d7
      · rw [c41 7 (by decide) (by decide)]; exact d8
      · rw [c 44 (by decide) (by decide)]; exact d9
      · rw [c54 25 (by decide) (by decide), c41 8 (by decide) (by decide)]; exact w1
      · rw [c41 8 (by decide) (by decide)]; exact w2
      · rw [c41 8 (by decide) (by decide)]; omega
end SMB
