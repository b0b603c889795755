section ROWJ
variable {X : Cx} {Y : SY} {Q : State → Prop} {cells slots pc : Nat} {ls : List (Option PV)} {st : List PV} {T L : Nat → Nat} {P : Nat → Nat → Option Nat} {I : Nat → Nat → Int} {hn : Nat} {cc : ByteArray} {own : String} {nL : Nat} {ret : Option FieldType} {R : Room} {nm : String}
theorem r_ldcw (K : OK X Y cc own nL ret R nm) {i : Nat} {v : Int32} {n : Int} (hd : decode cc pc = .ok (.ldc_w i, 3)) (hc : Cond.constant own i v ∈ lw_tbl) (hv : v = Int32.ofInt n) (k : RR X Y Q cells slots (pc + 3) ls (.inl n :: st) T L P I hn) (hr : -2147483648 ≤ n ∧ n < 2147483648 := by omega) : RR X Y Q cells slots pc ls st T L P I hn := by
  subst hv
  exact fun H locs la hH hS hL hV => lv_ldcw K.1 K.2.1 K.2.2.2.1 (K.2.2.2.2.1.2.1 _ _ hc rfl) hd (k H locs la hH hS hL (vcons hr hV))
end ROWJ
theorem kJ_265 : Cond.constant RJ6 265 1431655765 ∈ lw_tbl := by decide +kernel
theorem kJ_266 : Cond.constant RJ6 266 858993459 ∈ lw_tbl := by decide +kernel
theorem kJ_267 : Cond.constant RJ6 267 252645135 ∈ lw_tbl := by decide +kernel
theorem c_X7_182 : cL RX7 182 yJ6_bitCount_0f7a4 cJ6_bitCount_0f7a4 1 (some .int) 1 := ⟨Or.inl (by decide +kernel), by decide +kernel, by decide +kernel, by decide +kernel, by decide +kernel, by decide +kernel⟩
theorem s_J6_bitCount : Cond.static yJ6_bitCount_0f7a4 ∈ lw_tbl := by decide +kernel
/-- how many bits are set -/
def pcf : Nat → Nat → Nat
  | 0, _ => 0
  | f + 1, S => S % 2 + pcf f (S / 2)
abbrev pcn (S : Nat) : Nat := pcf 10 S
def bcA (x : Int) : Int := x - zAnd (zUshr x 1) 1431655765
def bcB (x : Int) : Int := zAnd (bcA x) 858993459 + zAnd (zUshr (bcA x) 2) 858993459
def bcC (x : Int) : Int := zAnd (bcB x + zUshr (bcB x) 4) 252645135
def bcD (x : Int) : Int := bcC x + zUshr (bcC x) 8
def bcE (x : Int) : Int := bcD x + zUshr (bcD x) 16
theorem bc_f : ∀ S : Fin 1024, (-1000000000 ≤ bcA (S.val : Nat) ∧ bcA (S.val : Nat) < 1000000000) ∧ (-1000000000 ≤ bcB (S.val : Nat) ∧ bcB (S.val : Nat) < 1000000000) ∧ (-1000000000 ≤ bcB (S.val : Nat) + zUshr (bcB (S.val : Nat)) 4 ∧ bcB (S.val : Nat) + zUshr (bcB (S.val : Nat)) 4 < 1000000000) ∧ (-1000000000 ≤ bcD (S.val : Nat) ∧ bcD (S.val : Nat) < 1000000000) ∧ (-1000000000 ≤ bcE (S.val : Nat) ∧ bcE (S.val : Nat) < 1000000000) ∧ zAnd (bcE (S.val : Nat)) 63 = (pcn S.val : Nat) := by decide +kernel
abbrev pJ6 := CTp yJ6_bitCount_0f7a4 cJ6_bitCount_0f7a4 1 (some .int) 0 0
section PB4
variable {T L : Nat → Nat} {P : Nat → Nat → Option Nat} {I : Nat → Nat → Int} {hn : Nat}
set_option maxHeartbeats 4000000 in
set_option maxRecDepth 100000 in
theorem k_bitCount {S : Nat} (hS : S < 1024) : pJ6 [.inl (S : Int)] T L P I hn (.inl ((pcn S : Nat) : Int)) := by
  refine CT.by (by decide) (Nat.le_of_ble_eq_true rfl) fun X Y Q hQ K hv => ?_
  obtain ⟨hA, hB, hX, hD, hE, hF⟩ := bc_f ⟨S, hS⟩
  refine r_iload_n K dJ6_bitCount_0f7a4_0 rfl ?_
  refine r_iload_n K dJ6_bitCount_0f7a4_1 rfl ?_
  refine r_iconst K dJ6_bitCount_0f7a4_2 ?_
  refine r_iushr K dJ6_bitCount_0f7a4_3 ?_
  refine r_ldcw (n := 1431655765) K dJ6_bitCount_0f7a4_4 kJ_265 rfl ?_
  refine r_iand K dJ6_bitCount_0f7a4_7 ?_
  refine r_isub K dJ6_bitCount_0f7a4_8 ?_ (⟨Int.le_trans (by decide) hA.1, Int.lt_trans hA.2 (by decide)⟩)
  rw [show (S : Int) - zAnd (zUshr (S : Int) 1) 1431655765 = bcA S from rfl]
  refine r_istore_n K dJ6_bitCount_0f7a4_9 (by decide) ?_
  refine r_iload_n K dJ6_bitCount_0f7a4_10 rfl ?_
  refine r_ldcw (n := 858993459) K dJ6_bitCount_0f7a4_11 kJ_266 rfl ?_
  refine r_iand K dJ6_bitCount_0f7a4_14 ?_
  refine r_iload_n K dJ6_bitCount_0f7a4_15 rfl ?_
  refine r_iconst K dJ6_bitCount_0f7a4_16 ?_
  refine r_iushr K dJ6_bitCount_0f7a4_17 ?_
  refine r_ldcw (n := 858993459) K dJ6_bitCount_0f7a4_18 kJ_266 rfl ?_
  refine r_iand K dJ6_bitCount_0f7a4_21 ?_
  refine r_iadd K dJ6_bitCount_0f7a4_22 ?_ (⟨Int.le_trans (by decide) hB.1, Int.lt_trans hB.2 (by decide)⟩)
  rw [show zAnd (bcA S) 858993459 + zAnd (zUshr (bcA S) 2) 858993459 = bcB S from rfl]
  refine r_istore_n K dJ6_bitCount_0f7a4_23 (by decide) ?_
  refine r_iload_n K dJ6_bitCount_0f7a4_24 rfl ?_
  refine r_iload_n K dJ6_bitCount_0f7a4_25 rfl ?_
  refine r_iconst K dJ6_bitCount_0f7a4_26 ?_
  refine r_iushr K dJ6_bitCount_0f7a4_27 ?_
  refine r_iadd K dJ6_bitCount_0f7a4_28 ?_ (⟨Int.le_trans (by decide) hX.1, Int.lt_trans hX.2 (by decide)⟩)
  refine r_ldcw (n := 252645135) K dJ6_bitCount_0f7a4_29 kJ_267 rfl ?_
  refine r_iand K dJ6_bitCount_0f7a4_32 ?_
  rw [show zAnd (bcB S + zUshr (bcB S) 4) 252645135 = bcC S from rfl]
  refine r_istore_n K dJ6_bitCount_0f7a4_33 (by decide) ?_
  refine r_iload_n K dJ6_bitCount_0f7a4_34 rfl ?_
  refine r_iload_n K dJ6_bitCount_0f7a4_35 rfl ?_
  refine r_bipush K dJ6_bitCount_0f7a4_36 ?_
  refine r_iushr K dJ6_bitCount_0f7a4_38 ?_
  refine r_iadd K dJ6_bitCount_0f7a4_39 ?_ (⟨Int.le_trans (by decide) hD.1, Int.lt_trans hD.2 (by decide)⟩)
  rw [show bcC S + zUshr (bcC S) 8 = bcD S from rfl]
  refine r_istore_n K dJ6_bitCount_0f7a4_40 (by decide) ?_
  refine r_iload_n K dJ6_bitCount_0f7a4_41 rfl ?_
  refine r_iload_n K dJ6_bitCount_0f7a4_42 rfl ?_
  refine r_bipush K dJ6_bitCount_0f7a4_43 ?_
  refine r_iushr K dJ6_bitCount_0f7a4_45 ?_
  refine r_iadd K dJ6_bitCount_0f7a4_46 ?_ (⟨Int.le_trans (by decide) hE.1, Int.lt_trans hE.2 (by decide)⟩)
  rw [show bcD S + zUshr (bcD S) 16 = bcE S from rfl]
  refine r_istore_n K dJ6_bitCount_0f7a4_47 (by decide) ?_
  refine r_iload_n K dJ6_bitCount_0f7a4_48 rfl ?_
  refine r_bipush K dJ6_bitCount_0f7a4_49 ?_
  refine r_iand K dJ6_bitCount_0f7a4_51 ?_
  exact q_iret K hQ rfl dJ6_bitCount_0f7a4_52 (Nat.le_refl _) (Nat.le_refl _) (⟨by rw [hF], rfl, rfl, rfl, rfl, rfl⟩)
theorem wyF_cong {S : Nat} {pr pr' b b' : Nat → Int} (hp : ∀ k, k < 10 → pr k = pr' k) (hb : ∀ v, v < 5 → b v = b' v) : ∀ d, d ≤ 10 → ∀ v, v < 5 → wyF S pr b d v = wyF S pr' b' d v
  | 0, _, v, hv => hb v hv
  | d + 1, hd, v, hv => by
    have ih := wyF_cong (S := S) hp hb d (by omega)
    have hft := pFT ⟨9 - d, by omega⟩
    have h1 : pF (9 - d) < pT (9 - d) ∧ pT (9 - d) < 5 := hft
    rw [wyF, wyF, opW, opW, ← hp (9 - d) (by omega)]
    split
    · simp only
      rw [ih (pF (9 - d)) (by omega), ih (pT (9 - d)) (by omega), ih v hv]
    · exact ih v hv
theorem smF_cong {dv dv' w w' : Nat → Int} (hd : ∀ v, v < 5 → dv v = dv' v) (hw : ∀ v, v < 5 → w v = w' v) : ∀ v, v ≤ 5 → smF dv w v = smF dv' w' v
  | 0, _ => rfl
  | v + 1, hv => by rw [smF, smF, smF_cong hd hw v (by omega), hd v (by omega), hw v (by omega)]
theorem sntF_cong {dv dv' pr pr' : Nat → Int} {g wh : Int} {S : Nat} (hd : ∀ v, v < 5 → dv v = dv' v) (hp : ∀ k, k < 10 → pr k = pr' k) : sntF dv pr g wh S = sntF dv' pr' g wh S :=
  smF_cong hd (wyF_cong hp (fun _ _ => rfl) 10 (Nat.le_refl _)) 5 (Nat.le_refl _)
/-- prices of the pairs of a set -/
def prS (I : Nat → Nat → Int) (S k : Nat) : Int := if S.testBit k then prcI I (pF k : Nat) (pT k : Nat) else -1
abbrev whV (I : Nat → Nat → Int) : Int := if grV I = -1 then 0 else 3 + I (18 + 2 * (grV I).toNat) 1
def sFr (I : Nat → Nat → Int) (J : Nat → Nat → Int) : Prop := (∀ k, k < 84 → k < 9 ∨ (17 < k ∧ k ≠ 50 ∧ k ≠ 52 ∧ k ≠ 53) → J k = I k) ∧ J 50 3 = I 50 3
def tPo (I : Nat → Nat → Int) (R : Int → Prop) : Po := fun r T L P J hn => CI T L P J hn ∧ sFr I J ∧ ∃ z, r = some (.inl z) ∧ R z
theorem wh_in (hV : VS I) : 0 ≤ whV I ∧ whV I ≤ 200 := by
  unfold whV
  have hg : -1 ≤ grV I ∧ grV I < 5 := ⟨(gre_in (fun v => I (18 + 2 * v) 1) 5).1, (gre_in (fun v => I (18 + 2 * v) 1) 5).2.1⟩
  split
  · omega
  · have := hV (grV I).toNat (by omega)
    omega

set_option maxHeartbeats 4000000 in
set_option maxRecDepth 100000 in
theorem k_X7_sent {S : Nat} (hC : CI T L P I hn) (hT : Tb I) (hS : I 50 3 = S) (hS1 : S < 1024) (hdv : ∀ v, v < 5 → 0 ≤ I 51 v ∧ I 51 v ≤ 1000) : gX7_sent 50 4860 [.inr (some 3)] T L P I hn (tPo I (fun z => z = if grV I = -1 then -1 else sntF (I 51) (prS I S) (grV I) (whV I) S)) := by
  refine CT.by (by decide) (Nat.le_of_ble_eq_true rfl) fun X Y Q hQ K hv => ?_
  have hW := hC.1
  refine r_aload_n K dX7_sent_0 rfl ?_
  refine r_getR K dX7_sent_1 f_X7_21 rfl (by first | assumption | exact hW.1 _ _ rfl | exact hW.2.2.1 _ _ _ rfl) (by first | assumption | exact hW.1 _ _ rfl | exact hW.2.2.1 _ _ _ rfl) ?_
  refine rcV0p K dX7_sent_4 c_X7_160 v_X5_greatest (hW.1 6 5 rfl) (k_X5_greatest hW) (by decide) (Nat.le_of_ble_eq_true rfl) ?_
  refine r_iconst K dX7_sent_7 ?_
  refine r_icmp_ne K 13 dX7_sent_8 (by decide) (fun c8 => ?_) (fun c8 => ?_)
  · refine r_aload_n K dX7_sent_13 rfl ?_
    refine r_getR K dX7_sent_14 f_X7_52 rfl (by first | assumption | exact hW.1 _ _ rfl | exact hW.2.2.1 _ _ _ rfl) (by first | assumption | exact hW.1 _ _ rfl | exact hW.2.2.1 _ _ _ rfl) ?_
    refine r_aload_n K dX7_sent_17 rfl ?_
    refine r_getR K dX7_sent_18 f_X7_21 rfl (by first | assumption | exact hW.1 _ _ rfl | exact hW.2.2.1 _ _ _ rfl) (by first | assumption | exact hW.1 _ _ rfl | exact hW.2.2.1 _ _ _ rfl) ?_
    refine r_aload_n K dX7_sent_21 rfl ?_
    refine r_getR K dX7_sent_22 f_X7_52 rfl (by first | assumption | exact hW.1 _ _ rfl | exact hW.2.2.1 _ _ _ rfl) (by first | assumption | exact hW.1 _ _ rfl | exact hW.2.2.1 _ _ _ rfl) ?_
    refine r_getI K dX7_sent_25 f_X7_163 rfl (by first | assumption | exact hW.1 _ _ rfl | exact hW.2.2.1 _ _ _ rfl) ?_
    rw [hS]
    refine rcV2g K dX7_sent_28 c_X7_166 v_X2_learnPrices (by first | assumption | exact hW.1 _ _ rfl | exact hW.2.2.1 _ _ _ rfl) (k_learnPrices hC hT hS1) (by decide) (Nat.le_of_ble_eq_true rfl) ?_
    rintro _ T1 L1 P1 J1 n1 ⟨rfl, hC1, f1, f2, f3, f4, f5⟩
    have hW1 := hC1.1
    have e51 : J1 51 = I 51 := f1 51 (by decide) (by decide) (by decide) (by decide)
    have eT : Tb J1 := fun k hk => by rw [f1 1 (by decide) (by decide) (by decide) (by decide), f1 2 (by decide) (by decide) (by decide) (by decide)]; exact hT k hk
    have e3 : J1 50 3 = S := by rw [f2 3 (by decide) (by decide), hS]
    have hFO : FO J1 := ⟨by rw [e51]; exact hdv, fun k hk => by
      rw [f5 k hk]
      split
      · have := prcI_in hC.2.2.1 (pF k : Nat) (pT k : Nat)
        omega
      · exact Or.inl rfl, by rw [f4]; exact wh_in hC.2.2.1⟩
    refine r_aload_n K dX7_sent_31 rfl ?_
    refine r_getR K dX7_sent_32 f_X7_52 rfl (hW1.1 3 7 rfl) (hW1.2.2.1 3 6 50 rfl) ?_
    refine r_aload_n K dX7_sent_35 rfl ?_
    refine r_getR K dX7_sent_36 f_X7_52 rfl (hW1.1 3 7 rfl) (hW1.2.2.1 3 6 50 rfl) ?_
    refine r_getI K dX7_sent_39 f_X7_163 rfl (hW1.1 50 2 rfl) ?_
    rw [e3]
    refine rcV1i K dX7_sent_42 c_X7_170 v_X2_sentWith (hW1.1 50 2 rfl) (k_sentWith hW1 eT hS1 hFO) (by decide) (Nat.le_of_ble_eq_true rfl) ?_
    rintro _ J2 ⟨rfl, g1⟩
    exact q_iret K hQ rfl dX7_sent_45 (Nat.le_of_ble_eq_true rfl) (Nat.le_of_ble_eq_true rfl) (⟨hC1.cong (fun c hc => g1 c (by omega)), ⟨fun k k1 k2 => by rw [g1 k (by omega), f1 k k1 (by omega) (by omega) (by omega)], by rw [g1 50 (by decide), e3, hS]⟩, _, rfl, by
      rw [if_neg c8, Fs, f3, f4]
      exact sntF_cong (fun v hv => by rw [e51]) (fun k hk => f5 k hk)⟩)
  · refine r_iconst K dX7_sent_11 ?_
    exact q_iret K hQ rfl dX7_sent_12 (Nat.le_of_ble_eq_true rfl) (Nat.le_of_ble_eq_true rfl) (⟨hC, ⟨fun _ _ _ => rfl, rfl⟩, _, rfl, by rw [if_pos c8]⟩)
def bsV (I : Nat → Nat → Int) (k : Nat) : Int × Int := bstF (sntF (I 51) (prS I (if k = 0 then 0 else 1023)) (grV I) (whV I)) k
theorem cons_in {f : Nat → Int} {c : Int × Int} {S : Nat} (hc : ∃ S : Nat, S < 1024 ∧ c = (f S, (S : Int))) (hS : S < 1024) : ∃ R : Nat, R < 1024 ∧ cons f c S = (f R, (R : Int)) := by
  unfold cons
  split
  · exact ⟨S, hS, rfl⟩
  · exact hc
theorem f3_in {f : Nat → Int} {i j : Nat} (hi : i < 10) (hj : j < 10) : ∀ (d l : Nat) (c : Int × Int), l + d ≤ 10 → (∃ S : Nat, S < 1024 ∧ c = (f S, (S : Int))) → ∃ S : Nat, S < 1024 ∧ f3 f i j d l c = (f S, (S : Int))
  | 0, _, _, _, hc => hc
  | d + 1, l, c, hl, hc => f3_in hi hj d (l + 1) _ (by omega) (cons_in hc (Nat.or_lt_two_pow (n := 10) (Nat.or_lt_two_pow (n := 10) (pow_lt hi) (pow_lt hj)) (pow_lt (by omega))))
theorem f2_in {f : Nat → Int} {sz i : Nat} (hi : i < 10) : ∀ (d j : Nat) (c : Int × Int), j + d ≤ 10 → (∃ S : Nat, S < 1024 ∧ c = (f S, (S : Int))) → ∃ S : Nat, S < 1024 ∧ f2 f sz i d j c = (f S, (S : Int))
  | 0, _, _, _, hc => hc
  | d + 1, j, c, hl, hc => f2_in hi d (j + 1) _ (by omega) (by
      split
      · exact cons_in hc (Nat.or_lt_two_pow (n := 10) (pow_lt hi) (pow_lt (by omega)))
      · split
        · exact f3_in hi (by omega) _ _ _ (by omega) hc
        · exact hc)
theorem f1_in {f : Nat → Int} {sz : Nat} : ∀ (d i : Nat) (c : Int × Int), i + d ≤ 10 → (∃ S : Nat, S < 1024 ∧ c = (f S, (S : Int))) → ∃ S : Nat, S < 1024 ∧ f1 f sz d i c = (f S, (S : Int))
  | 0, _, _, _, hc => hc
  | d + 1, i, c, hl, hc => f1_in d (i + 1) _ (by omega) (by
      split
      · exact cons_in hc (pow_lt (by omega))
      · exact f2_in (by omega) _ _ _ (by omega) hc)
theorem bstF_in (f : Nat → Int) : ∀ k, ∃ S : Nat, S < 1024 ∧ bstF f k = (f S, (S : Int))
  | 0 => ⟨0, by decide, rfl⟩
  | k + 1 => f1_in 10 0 _ (by decide) (bstF_in f k)
set_option maxHeartbeats 4000000 in
set_option maxRecDepth 100000 in
theorem k_X7_best {k what : Int} (hC : CI T L P I hn) (hT : Tb I) (hdv : ∀ v, v < 5 → 0 ≤ I 51 v ∧ I 51 v ≤ 1000) : gX7_best 50 4860 [.inr (some 3), .inl k, .inl what] T L P I hn (tPo I (fun z => (¬ ((0 ≤ k ∧ k ≤ 3) ∧ (0 ≤ what ∧ what ≤ 2) ∧ grV I ≠ -1) ∧ z = -1) ∨ (((0 ≤ k ∧ k ≤ 3) ∧ (0 ≤ what ∧ what ≤ 2)) ∧ grV I ≠ -1 ∧ z = if what = 0 then (bsV I k.toNat).1 else if what = 1 then ((pcn (bsV I k.toNat).2.toNat : Nat) : Int) else (bsV I k.toNat).2))) := by
  refine CT.by (by decide) (Nat.le_of_ble_eq_true rfl) fun X Y Q hQ K hv => ?_
  have hW := hC.1
  have j50 : ∀ S : Nat, S = (if k.toNat = 0 then 0 else 1023) → 0 ≤ k → k ≤ 3 → 0 ≤ what → what ≤ 2 → grV I ≠ -1 → RR X Y Q 0 0 50 [some (.inr (some 3)), some (.inl k), some (.inl what)] [.inl (S : Int), .inr (some 6), .inr (some 50)] T L P I hn := by
    intro S hSe k0 k3 w0 w2 c26
    have hS1 : S < 1024 := by rw [hSe]; split <;> omega
    obtain ⟨kn, rfl⟩ : ∃ n : Nat, k = n := ⟨k.toNat, by omega⟩
    rw [Int.toNat_natCast] at hSe
    refine rcV2g K dX7_best_50 c_X7_166 v_X2_learnPrices (by first | assumption | exact hW.1 _ _ rfl | exact hW.2.2.1 _ _ _ rfl) (k_learnPrices hC hT hS1) (by decide) (Nat.le_of_ble_eq_true rfl) ?_
    rintro _ T1 L1 P1 J1 n1 ⟨rfl, hC1, f1, f2, f3, f4, f5⟩
    have hW1 := hC1.1
    have e51 : J1 51 = I 51 := f1 51 (by decide) (by decide) (by decide) (by decide)
    have eT : Tb J1 := fun k hk => by rw [f1 1 (by decide) (by decide) (by decide) (by decide), f1 2 (by decide) (by decide) (by decide) (by decide)]; exact hT k hk
    have hFO : FO J1 := ⟨by rw [e51]; exact hdv, fun k hk => by
      rw [f5 k hk]
      split
      · have := prcI_in hC.2.2.1 (pF k : Nat) (pT k : Nat)
        omega
      · exact Or.inl rfl, by rw [f4]; exact wh_in hC.2.2.1⟩
    have eFs : bstF (Fs J1) kn = bsV I kn := by
      have : Fs J1 = sntF (I 51) (prS I (if kn = 0 then 0 else 1023)) (grV I) (whV I) := by
        funext S'
        rw [Fs, f3, f4, ← hSe]
        exact sntF_cong (fun v hv => by rw [e51]) (fun k hk => f5 k hk)
      rw [bsV, this]
    refine r_aload_n K dX7_best_53 rfl ?_
    refine r_getR K dX7_best_54 f_X7_52 rfl (hW1.1 3 7 rfl) (hW1.2.2.1 3 6 50 rfl) ?_
    refine r_iload_n K dX7_best_57 rfl ?_
    refine rcV1i K dX7_best_58 c_X7_173 v_X2_choose (hW1.1 50 2 rfl) (k_choose hW1 eT hFO (by omega)) (by decide) (Nat.le_of_ble_eq_true rfl) ?_
    rintro _ J2 ⟨rfl, g1, g2, g3⟩
    rw [eFs] at g3
    have hC2 : CI T1 L1 P1 J2 n1 := hC1.cong (fun c hc => g1 c (by omega) (by omega))
    have sfr : sFr I J2 := ⟨fun k k1 k2 => by rw [g1 k (by omega) (by omega), f1 k k1 (by omega) (by omega) (by omega)], by rw [g2 3 (by decide) (by decide), f2 3 (by decide) (by decide)]⟩
    obtain ⟨Sb, hSb, hbs⟩ : ∃ S : Nat, S < 1024 ∧ (bsV I kn).2 = (S : Int) := by
      obtain ⟨S, q1, q2⟩ := bstF_in (sntF (I 51) (prS I (if kn = 0 then 0 else 1023)) (grV I) (whV I)) kn
      exact ⟨S, q1, by rw [bsV, q2]⟩
    have e6 : J2 50 6 = (bsV I kn).1 := by rw [← g3]
    have e7 : J2 50 7 = (Sb : Int) := by rw [← hbs, ← g3]
    refine r_iload_n K dX7_best_61 rfl ?_
    have hwh : what = 0 ∨ what = 1 ∨ what = 2 := by omega
    rcases hwh with rfl | rfl | rfl
    · refine r_lookup K 88 dX7_best_62 rfl rfl (by decide) ?_
      refine r_aload_n K dX7_best_88 rfl ?_
      refine r_getR K dX7_best_89 f_X7_52 rfl (hW1.1 3 7 rfl) (hW1.2.2.1 3 6 50 rfl) ?_
      refine r_getI K dX7_best_92 f_X7_176 rfl (hW1.1 50 2 rfl) ?_
      rw [e6]
      exact q_iret K hQ rfl dX7_best_95 (Nat.le_of_ble_eq_true rfl) (Nat.le_of_ble_eq_true rfl) (⟨hC2, sfr, _, rfl, Or.inr ⟨by omega, c26, by rw [if_pos rfl, Int.toNat_natCast]⟩⟩)
    · refine r_lookup K 96 dX7_best_62 rfl rfl (by decide) ?_
      refine r_aload_n K dX7_best_96 rfl ?_
      refine r_getR K dX7_best_97 f_X7_52 rfl (hW1.1 3 7 rfl) (hW1.2.2.1 3 6 50 rfl) ?_
      refine r_getI K dX7_best_100 f_X7_179 rfl (hW1.1 50 2 rfl) ?_
      rw [e7]
      refine rcS1p K dX7_best_103 c_X7_182 s_J6_bitCount (k_bitCount hSb) (by decide) (Nat.le_of_ble_eq_true rfl) ?_
      exact q_iret K hQ rfl dX7_best_106 (Nat.le_of_ble_eq_true rfl) (Nat.le_of_ble_eq_true rfl) (⟨hC2, sfr, _, rfl, Or.inr ⟨by omega, c26, by rw [if_neg (by decide), if_pos rfl, Int.toNat_natCast, hbs, Int.toNat_natCast]⟩⟩)
    · refine r_lookup K 107 dX7_best_62 rfl rfl (by decide) ?_
      refine r_aload_n K dX7_best_107 rfl ?_
      refine r_getR K dX7_best_108 f_X7_52 rfl (hW1.1 3 7 rfl) (hW1.2.2.1 3 6 50 rfl) ?_
      refine r_getI K dX7_best_111 f_X7_179 rfl (hW1.1 50 2 rfl) ?_
      rw [e7]
      exact q_iret K hQ rfl dX7_best_114 (Nat.le_of_ble_eq_true rfl) (Nat.le_of_ble_eq_true rfl) (⟨hC2, sfr, _, rfl, Or.inr ⟨by omega, c26, by rw [if_neg (by decide), if_neg (by decide), Int.toNat_natCast, hbs]⟩⟩)
  refine r_iload_n K dX7_best_0 rfl ?_
  refine r_if_lt K 29 dX7_best_1 (by decide) (fun c1 => ?_) (fun c1 => ?_)
  · refine r_iconst K dX7_best_29 ?_
    exact q_iret K hQ rfl dX7_best_30 (Nat.le_of_ble_eq_true rfl) (Nat.le_of_ble_eq_true rfl) (⟨hC, ⟨fun _ _ _ => rfl, rfl⟩, _, rfl, Or.inl ⟨fun q => by omega, rfl⟩⟩)
  · refine r_iload_n K dX7_best_4 rfl ?_
    refine r_iconst K dX7_best_5 ?_
    refine r_icmp_gt K 29 dX7_best_6 (by decide) (fun c6 => ?_) (fun c6 => ?_)
    · refine r_iconst K dX7_best_29 ?_
      exact q_iret K hQ rfl dX7_best_30 (Nat.le_of_ble_eq_true rfl) (Nat.le_of_ble_eq_true rfl) (⟨hC, ⟨fun _ _ _ => rfl, rfl⟩, _, rfl, Or.inl ⟨fun q => by omega, rfl⟩⟩)
    · refine r_iload_n K dX7_best_9 rfl ?_
      refine r_if_lt K 29 dX7_best_10 (by decide) (fun c10 => ?_) (fun c10 => ?_)
      · refine r_iconst K dX7_best_29 ?_
        exact q_iret K hQ rfl dX7_best_30 (Nat.le_of_ble_eq_true rfl) (Nat.le_of_ble_eq_true rfl) (⟨hC, ⟨fun _ _ _ => rfl, rfl⟩, _, rfl, Or.inl ⟨fun q => by omega, rfl⟩⟩)
      · refine r_iload_n K dX7_best_13 rfl ?_
        refine r_iconst K dX7_best_14 ?_
        refine r_icmp_gt K 29 dX7_best_15 (by decide) (fun c15 => ?_) (fun c15 => ?_)
        · refine r_iconst K dX7_best_29 ?_
          exact q_iret K hQ rfl dX7_best_30 (Nat.le_of_ble_eq_true rfl) (Nat.le_of_ble_eq_true rfl) (⟨hC, ⟨fun _ _ _ => rfl, rfl⟩, _, rfl, Or.inl ⟨fun q => by omega, rfl⟩⟩)
        · refine r_aload_n K dX7_best_18 rfl ?_
          refine r_getR K dX7_best_19 f_X7_21 rfl (by first | assumption | exact hW.1 _ _ rfl | exact hW.2.2.1 _ _ _ rfl) (by first | assumption | exact hW.1 _ _ rfl | exact hW.2.2.1 _ _ _ rfl) ?_
          refine rcV0p K dX7_best_22 c_X7_160 v_X5_greatest (hW.1 6 5 rfl) (k_X5_greatest hW) (by decide) (Nat.le_of_ble_eq_true rfl) ?_
          refine r_iconst K dX7_best_25 ?_
          refine r_icmp_ne K 31 dX7_best_26 (by decide) (fun c26 => ?_) (fun c26 => ?_)
          · refine r_aload_n K dX7_best_31 rfl ?_
            refine r_getR K dX7_best_32 f_X7_52 rfl (by first | assumption | exact hW.1 _ _ rfl | exact hW.2.2.1 _ _ _ rfl) (by first | assumption | exact hW.1 _ _ rfl | exact hW.2.2.1 _ _ _ rfl) ?_
            refine r_aload_n K dX7_best_35 rfl ?_
            refine r_getR K dX7_best_36 f_X7_21 rfl (by first | assumption | exact hW.1 _ _ rfl | exact hW.2.2.1 _ _ _ rfl) (by first | assumption | exact hW.1 _ _ rfl | exact hW.2.2.1 _ _ _ rfl) ?_
            refine r_iload_n K dX7_best_39 rfl ?_
            refine r_if_ne K 47 dX7_best_40 (by decide) (fun c40 => ?_) (fun c40 => ?_)
            · refine r_sipush K dX7_best_47 ?_
              first | exact j50 0 (by rw [if_pos (by omega)]) (by omega) (by omega) (by omega) (by omega) c26 | exact j50 1023 (by rw [if_neg (by omega)]) (by omega) (by omega) (by omega) (by omega) c26
            · refine r_iconst K dX7_best_43 ?_
              refine r_goto K 50 dX7_best_44 (by decide) ?_
              first | exact j50 0 (by rw [if_pos (by omega)]) (by omega) (by omega) (by omega) (by omega) c26 | exact j50 1023 (by rw [if_neg (by omega)]) (by omega) (by omega) (by omega) (by omega) c26
          · refine r_iconst K dX7_best_29 ?_
            exact q_iret K hQ rfl dX7_best_30 (Nat.le_of_ble_eq_true rfl) (Nat.le_of_ble_eq_true rfl) (⟨hC, ⟨fun _ _ _ => rfl, rfl⟩, _, rfl, Or.inl ⟨fun q => by omega, rfl⟩⟩)
end PB4
