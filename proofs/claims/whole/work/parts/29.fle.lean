theorem nx_and (a b : Nat) : nI a &&& nI b = nI (a &&& b) := by
  apply Int32.toBitVec_inj.1
  show BitVec.ofNat 32 a &&& BitVec.ofNat 32 b = BitVec.ofNat 32 (a &&& b)
  apply BitVec.eq_of_getLsbD_eq
  intro i hi
  simp [hi]
theorem nx_xor (a b : Nat) : nI a ^^^ nI b = nI (a ^^^ b) := by
  apply Int32.toBitVec_inj.1
  show BitVec.ofNat 32 a ^^^ BitVec.ofNat 32 b = BitVec.ofNat 32 (a ^^^ b)
  apply BitVec.eq_of_getLsbD_eq
  intro i hi
  simp [hi]
theorem nx_or (a b : Nat) : nI a ||| nI b = nI (a ||| b) := by
  apply Int32.toBitVec_inj.1
  show BitVec.ofNat 32 a ||| BitVec.ofNat 32 b = BitVec.ofNat 32 (a ||| b)
  apply BitVec.eq_of_getLsbD_eq
  intro i hi
  simp [hi]
theorem zAnd_nat {a b : Nat} (ha : a < 1024) : zAnd a b = ((a &&& b : Nat) : Int) := by
  have h : a &&& b ≤ a := Nat.and_le_left
  show (nI a &&& nI b).toInt = _
  rw [nx_and, nI_toInt (by omega)]
theorem zXor_nat {a b : Nat} (ha : a < 1024) (hb : b < 1024) : zXor a b = ((a ^^^ b : Nat) : Int) := by
  have h : a ^^^ b < 2 ^ 10 := Nat.xor_lt_two_pow ha hb
  show (nI a ^^^ nI b).toInt = _
  rw [nx_xor, nI_toInt (by omega)]
theorem zOr_nat {a b : Nat} (ha : a < 1024) (hb : b < 1024) : zOr a b = ((a ||| b : Nat) : Int) := by
  have h : a ||| b < 2 ^ 10 := Nat.or_lt_two_pow ha hb
  show (nI a ||| nI b).toInt = _
  rw [nx_or, nI_toInt (by omega)]
theorem zShl_f : ∀ k : Fin 11, zShl 1 ((k.val : Nat) : Int) = ((2 ^ k.val : Nat) : Int) := by decide +kernel
theorem zShl_1 {k : Nat} (h : k < 11) : zShl 1 k = ((2 ^ k : Nat) : Int) := zShl_f ⟨k, h⟩
theorem and_bit (n j : Nat) : n &&& 2 ^ j = 0 ↔ n.testBit j = false := by
  constructor
  · intro h
    have h1 : (n &&& 2 ^ j).testBit j = false := by rw [h]; simp
    rw [Nat.testBit_and] at h1
    simpa using h1
  · intro h
    apply Nat.eq_of_testBit_eq
    intro i
    rw [Nat.testBit_and]
    by_cases e : i = j
    · subst e; rw [h]; simp
    · rw [Nat.testBit_two_pow_of_ne (fun q => e q.symm)]; simp
theorem pow_lt {k : Nat} (h : k < 10) : 2 ^ k < 1024 := Nat.pow_lt_pow_right (n := 10) (by decide) h
/-- the bit of pair k in the set S, as the machine asks for it -/
theorem zbit {S k : Nat} (hS : S < 1024) (hk : k < 10) : zAnd S (zShl 1 k) = 0 ↔ S.testBit k = false := by
  rw [zShl_1 (by omega), zAnd_nat hS, ← and_bit]
  omega
def pF (k : Nat) : Nat := [0, 0, 0, 0, 1, 1, 1, 2, 2, 3].getD k 0
def pT (k : Nat) : Nat := [1, 2, 3, 4, 2, 3, 4, 3, 4, 4].getD k 0
theorem pFT : ∀ k : Fin 10, pF k.val < pT k.val ∧ pT k.val < 5 := by decide
/-- the two tables -/
def Tb (I : Nat → Nat → Int) : Prop := ∀ k, k < 10 → I 1 k = (pF k : Nat) ∧ I 2 k = (pT k : Nat)
/-- what the patch from a to b costs, or -1 -/
def prcI (I : Nat → Nat → Int) (a b : Int) : Int := if hasV I a ∧ hasV I b then 3 + ls (I (19 + 2 * a.toNat)) (I (19 + 2 * b.toNat)) (I (18 + 2 * a.toNat) 1).toNat (I (18 + 2 * b.toNat) 1).toNat 0 else -1
theorem hasV_cong {I J : Nat → Nat → Int} (e : ∀ k, 18 ≤ k → k ≤ 27 → J k = I k) (v : Int) : hasV J v ↔ hasV I v := by
  constructor
  · rintro ⟨h1, h2, h3⟩
    exact ⟨h1, h2, by rw [← e _ (by omega) (by omega)]; exact h3⟩
  · rintro ⟨h1, h2, h3⟩
    exact ⟨h1, h2, by rw [e _ (by omega) (by omega)]; exact h3⟩
theorem prcI_cong {I J : Nat → Nat → Int} (e : ∀ k, 18 ≤ k → k ≤ 27 → J k = I k) (a b : Int) : prcI J a b = prcI I a b := by
  unfold prcI
  by_cases h : hasV I a ∧ hasV I b
  · rw [if_pos h, if_pos ⟨(hasV_cong e a).mpr h.1, (hasV_cong e b).mpr h.2⟩]
    obtain ⟨⟨h1, h2, h3⟩, ⟨g1, g2, g3⟩⟩ := h
    rw [e (19 + 2 * a.toNat) (by omega) (by omega), e (19 + 2 * b.toNat) (by omega) (by omega), e (18 + 2 * a.toNat) (by omega) (by omega), e (18 + 2 * b.toNat) (by omega) (by omega)]
  · rw [if_neg h, if_neg (fun q => h ⟨(hasV_cong e a).mp q.1, (hasV_cong e b).mp q.2⟩)]
theorem prcI_in {I : Nat → Nat → Int} (hV : VS I) (a b : Int) : prcI I a b = -1 ∨ (3 ≤ prcI I a b ∧ prcI I a b ≤ 243) := by
  unfold prcI
  split
  · rename_i h
    right
    have hb := hV b.toNat (by have := h.2.2.1; omega)
    have := ls_in (I (19 + 2 * a.toNat)) (I (19 + 2 * b.toNat)) (I (18 + 2 * a.toNat) 1).toNat (I (18 + 2 * b.toNat) 1).toNat (by omega) (I (18 + 2 * b.toNat) 1).toNat 0 (by omega)
    omega
  · exact Or.inl rfl
section FLE
variable {T L : Nat → Nat} {P : Nat → Nat → Option Nat} {I : Nat → Nat → Int} {hn : Nat}
/-- the shelf's cells may have grown; the answer is r0 -/
def sPo (I : Nat → Nat → Int) (r0 : Option PV) : Po := fun r T L P J hn => CI T L P J hn ∧ (∀ k, k < 84 → k < 9 ∨ 17 < k → J k = I k) ∧ r = r0

set_option maxHeartbeats 4000000 in
set_option maxRecDepth 100000 in
theorem k_priceOf {a b : Int} (hC : CI T L P I hn) : gX5_priceOf 5 486 [.inr (some 6), .inl a, .inl b] T L P I hn (sPo I (some (.inl (prcI I a b)))) := by
  refine CT.by (by decide) (Nat.le_of_ble_eq_true rfl) fun X Y Q hQ K hv => ?_
  have hW := hC.1
  have t6 : T 6 = 5 := hW.1 _ _ rfl
  refine r_aload_n K dX5_priceOf_0 rfl ?_
  refine r_iload_n K dX5_priceOf_1 rfl ?_
  refine rcV1p K dX5_priceOf_2 c_X5_41 v_X5_has (by first | assumption | exact hW.1 _ _ rfl | exact hW.2.2.1 _ _ _ rfl) (k_has hW) (by decide) (Nat.le_of_ble_eq_true rfl) ?_
  refine r_if_eq K 28 dX5_priceOf_5 (by decide) (fun c5 => ?_) (fun c5 => ?_)
  · have h1 : ¬ hasV I a := fun h => by rw [if_pos h] at c5; exact absurd c5 (by decide)
    refine r_iconst K dX5_priceOf_28 ?_
    exact q_iret K hQ rfl dX5_priceOf_29 (Nat.le_of_ble_eq_true rfl) (Nat.le_of_ble_eq_true rfl) ((by first
        | exact ⟨hC, fun _ _ _ => rfl, by rw [prcI, if_neg (fun h => h1 h.1)]⟩
        | exact ⟨hC, fun _ _ _ => rfl, by rw [prcI, if_neg (fun h => h2 h.2)]⟩
        | exact ⟨hC1, hfr, by rw [prcI, if_pos ⟨h1, h2⟩, h5, Int.toNat_natCast, Int.toNat_natCast, hfr (19 + 2 * a0) (by omega) (by omega), hfr (19 + 2 * b0) (by omega) (by omega), hfr (18 + 2 * a0) (by omega) (by omega), hfr (18 + 2 * b0) (by omega) (by omega)]⟩))
  · have h1 : hasV I a := by
      by_cases h : hasV I a
      · exact h
      · rw [if_neg h] at c5; exact absurd rfl c5
    refine r_aload_n K dX5_priceOf_8 rfl ?_
    refine r_iload_n K dX5_priceOf_9 rfl ?_
    refine rcV1p K dX5_priceOf_10 c_X5_41 v_X5_has (by first | assumption | exact hW.1 _ _ rfl | exact hW.2.2.1 _ _ _ rfl) (k_has hW) (by decide) (Nat.le_of_ble_eq_true rfl) ?_
    refine r_if_eq K 28 dX5_priceOf_13 (by decide) (fun c13 => ?_) (fun c13 => ?_)
    · have h2 : ¬ hasV I b := fun h => by rw [if_pos h] at c13; exact absurd c13 (by decide)
      refine r_iconst K dX5_priceOf_28 ?_
      exact q_iret K hQ rfl dX5_priceOf_29 (Nat.le_of_ble_eq_true rfl) (Nat.le_of_ble_eq_true rfl) ((by first
          | exact ⟨hC, fun _ _ _ => rfl, by rw [prcI, if_neg (fun h => h1 h.1)]⟩
          | exact ⟨hC, fun _ _ _ => rfl, by rw [prcI, if_neg (fun h => h2 h.2)]⟩
          | exact ⟨hC1, hfr, by rw [prcI, if_pos ⟨h1, h2⟩, h5, Int.toNat_natCast, Int.toNat_natCast, hfr (19 + 2 * a0) (by omega) (by omega), hfr (19 + 2 * b0) (by omega) (by omega), hfr (18 + 2 * a0) (by omega) (by omega), hfr (18 + 2 * b0) (by omega) (by omega)]⟩))
    · have h2 : hasV I b := by
        by_cases h : hasV I b
        · exact h
        · rw [if_neg h] at c13; exact absurd rfl c13
      obtain ⟨a0, rfl⟩ : ∃ n : Nat, a = n := ⟨a.toNat, by have := h1.1; omega⟩
      obtain ⟨b0, rfl⟩ : ∃ n : Nat, b = n := ⟨b.toNat, by have := h2.1; omega⟩
      refine r_aload_n K dX5_priceOf_16 rfl ?_
      refine r_iload_n K dX5_priceOf_17 rfl ?_
      refine r_iload_n K dX5_priceOf_18 rfl ?_
      refine rcV2g K dX5_priceOf_19 c_X5_54 v_X5_patchOf (by first | assumption | exact hW.1 _ _ rfl | exact hW.2.2.1 _ _ _ rfl) (k_patchOf hC (by have := h1.2.1; omega) (by have := h2.2.1; omega)) (by decide) (Nat.le_of_ble_eq_true rfl) ?_
      rintro _ T1 L1 P1 J n1 ⟨hC1, hfr, q, rfl, hG, hK⟩
      obtain ⟨N, -, -, -, h5, -⟩ := hK
      have ha5 := h1.2.1
      have hb5 := h2.2.1
      have tq : T1 q = 3 := hG.2.2.1
      refine r_getI K dX5_priceOf_22 f_X5_58 rfl tq ?_
      refine r_goto K 29 dX5_priceOf_25 (by decide) ?_
      exact q_iret K hQ rfl dX5_priceOf_29 (Nat.le_of_ble_eq_true rfl) (Nat.le_of_ble_eq_true rfl) ((by first
          | exact ⟨hC, fun _ _ _ => rfl, by rw [prcI, if_neg (fun h => h1 h.1)]⟩
          | exact ⟨hC, fun _ _ _ => rfl, by rw [prcI, if_neg (fun h => h2 h.2)]⟩
          | exact ⟨hC1, hfr, by rw [prcI, if_pos ⟨h1, h2⟩, h5, Int.toNat_natCast, Int.toNat_natCast, hfr (19 + 2 * a0) (by omega) (by omega), hfr (19 + 2 * b0) (by omega) (by omega), hfr (18 + 2 * a0) (by omega) (by omega), hfr (18 + 2 * b0) (by omega) (by omega)]⟩))
set_option maxHeartbeats 4000000 in
set_option maxRecDepth 100000 in
theorem k_setDevices {v : Nat} {m : Int} (hW : Wd T L P) (hv : v < 5) : iX2_setDevices [.inr (some 50), .inl (v : Int), .inl m] T L P I hn (fun r J => r = none ∧ J = mI I 51 v m) := by
  refine CT.by (by decide) (Nat.le_of_ble_eq_true rfl) fun X Y Q hQ K hvv => ?_
  have l51 : L 51 = 5 := hW.2.1 51 5 rfl (by decide)
  refine r_aload_n K dX2_setDevices_0 rfl ?_
  refine r_getR K dX2_setDevices_1 f_X2_9 rfl (by first | assumption | exact hW.1 _ _ rfl | exact hW.2.2.1 _ _ _ rfl) (by first | assumption | exact hW.1 _ _ rfl | exact hW.2.2.1 _ _ _ rfl) ?_
  refine r_iload_n K dX2_setDevices_4 rfl ?_
  refine r_iload_n K dX2_setDevices_5 rfl ?_
  refine r_iast K dX2_setDevices_6 (by first | assumption | exact hW.1 _ _ rfl | exact hW.2.2.1 _ _ _ rfl) (by omega) (by omega) ?_
  exact q_vret K hQ rfl dX2_setDevices_7 (Nat.le_refl _) (Nat.le_refl _) (⟨rfl, rfl, rfl, rfl, rfl, rfl⟩)
/-- the bit of a pair, looked for from k on -/
def bOs (a b : Int) : Nat → Nat → Int
  | 0, _ => 0
  | f + 1, k => if (pF k : Int) = a ∧ (pT k : Int) = b then ((2 ^ k : Nat) : Int) else bOs a b f (k + 1)
/-- a pair's number -/
def pIx (a b : Nat) : Nat := if a = 0 then b - 1 else if a = 1 then b + 2 else if a = 2 then b + 4 else 9
theorem bOs_f : ∀ a b : Fin 5, a.val < b.val → bOs (a.val : Nat) (b.val : Nat) 10 0 = ((2 ^ pIx a.val b.val : Nat) : Int) ∧ pIx a.val b.val < 10 := by decide +kernel
set_option maxHeartbeats 4000000 in
set_option maxRecDepth 100000 in
theorem k_bitOf {a b : Int} (hW : Wd T L P) (hT : Tb I) : pX2_bitOf [.inl a, .inl b] T L P I hn (.inl (bOs a b 10 0)) := by
  refine CT.by (by decide) (Nat.le_of_ble_eq_true rfl) fun X Y Q hQ K hv => ?_
  have l1 : L 1 = 10 := hW.2.2.2.1
  have l2 : L 2 = 10 := hW.2.2.2.2
  have loop : ∀ (f k : Nat) (z : Int), z = k → k + f = 10 → bOs a b f k = bOs a b 10 0 → RR X Y Q 0 0 2 [some (.inl a), some (.inl b), some (.inl z)] [] T L P I hn := by
    intro f
    induction f with
    | zero =>
      intro k z hz hk he
      subst hz
      refine r_iload_n K dX2_bitOf_2 rfl ?_
      refine r_bipush K dX2_bitOf_3 ?_
      refine r_icmp_ge K 36 dX2_bitOf_5 (by decide) (fun c5 => ?_) (fun c5 => ?_)
      · refine r_iconst K dX2_bitOf_36 ?_
        exact q_iret K hQ rfl dX2_bitOf_37 (Nat.le_refl _) (Nat.le_refl _) (⟨by rw [← he]; rfl, rfl, rfl, rfl, rfl, rfl⟩)
      · exact absurd c5 (by omega)
    | succ f ih =>
      intro k z hz hk he
      subst hz
      obtain ⟨h1, h2⟩ := hT k (by omega)
      rw [bOs] at he
      refine r_iload_n K dX2_bitOf_2 rfl ?_
      refine r_bipush K dX2_bitOf_3 ?_
      refine r_icmp_ge K 36 dX2_bitOf_5 (by decide) (fun c5 => ?_) (fun c5 => ?_)
      · exact absurd c5 (by omega)
      · refine r_gets K dX2_bitOf_8 (Or.inl ⟨rfl, Or.inr g_X2_29⟩) ?_
        refine r_iload_n K dX2_bitOf_11 rfl ?_
        refine r_oald K dX2_bitOf_12 (by decide) (by omega) (by omega) ?_
        rw [Int.toNat_natCast, h1]
        refine r_iload_n K dX2_bitOf_13 rfl ?_
        refine r_icmp_ne K 30 dX2_bitOf_14 (by decide) (fun c14 => ?_) (fun c14 => ?_)
        · refine r_iinc K dX2_bitOf_30 (by decide) rfl ?_
          refine r_goto K 2 dX2_bitOf_33 (by decide) ?_
          exact ih (k + 1) _ (by omega) (by omega) (by rw [← he, if_neg (by omega)])
        · refine r_gets K dX2_bitOf_17 (Or.inr ⟨rfl, Or.inr g_X2_32⟩) ?_
          refine r_iload_n K dX2_bitOf_20 rfl ?_
          refine r_oald K dX2_bitOf_21 (by decide) (by omega) (by omega) ?_
          rw [Int.toNat_natCast, h2]
          refine r_iload_n K dX2_bitOf_22 rfl ?_
          refine r_icmp_ne K 30 dX2_bitOf_23 (by decide) (fun c23 => ?_) (fun c23 => ?_)
          · refine r_iinc K dX2_bitOf_30 (by decide) rfl ?_
            refine r_goto K 2 dX2_bitOf_33 (by decide) ?_
            exact ih (k + 1) _ (by omega) (by omega) (by rw [← he, if_neg (by omega)])
          · refine r_iconst K dX2_bitOf_26 ?_
            refine r_iload_n K dX2_bitOf_27 rfl ?_
            refine r_ishl K dX2_bitOf_28 ?_
            rw [zShl_1 (by omega)]
            exact q_iret K hQ rfl dX2_bitOf_29 (Nat.le_refl _) (Nat.le_refl _) (⟨by rw [← he, if_pos ⟨by omega, by omega⟩], rfl, rfl, rfl, rfl, rfl⟩)
  refine r_iconst K dX2_bitOf_0 ?_
  refine r_istore_n K dX2_bitOf_1 (by decide) ?_
  exact loop 10 0 0 rfl rfl rfl
set_option maxHeartbeats 4000000 in
set_option maxRecDepth 100000 in
theorem k_holdPair {a b S : Nat} {is : Int} (hW : Wd T L P) (hT : Tb I) (ha : a < b) (hb : b < 5) (hS : I 50 3 = S) (hS1 : S < 1024) (h01 : is = 0 ∨ is = 1) : iX2_holdPair [.inr (some 50), .inl (a : Int), .inl (b : Int), .inl is] T L P I hn (fun r J => r = some (.inl (if (if S.testBit (pIx a b) then (1 : Int) else 0) = is then 0 else 1)) ∧ J = if (if S.testBit (pIx a b) then (1 : Int) else 0) = is then I else mI I 50 3 ((S ^^^ 2 ^ pIx a b : Nat) : Int)) := by
  refine CT.by (by decide) (Nat.le_of_ble_eq_true rfl) fun X Y Q hQ K hv => ?_
  obtain ⟨e1, e2⟩ := bOs_f ⟨a, by omega⟩ ⟨b, hb⟩ ha
  have e1 : bOs (a : Int) (b : Int) 10 0 = ((2 ^ pIx a b : Nat) : Int) := e1
  have e2 : pIx a b < 10 := e2
  have hp := pow_lt e2
  have hp0 : 0 < 2 ^ pIx a b := Nat.two_pow_pos _
  have hbit := and_bit S (pIx a b)
  have j27 : ∀ z : Int, z = (if S.testBit (pIx a b) then (1 : Int) else 0) → RR X Y Q 0 0 27 [some (.inr (some 50)), some (.inl (a : Int)), some (.inl (b : Int)), some (.inl is), some (.inl ((2 ^ pIx a b : Nat) : Int))] [.inl z] T L P I hn := by
    intro z hz
    refine r_iload_n K dX2_holdPair_27 rfl ?_
    refine r_icmp_ne K 33 dX2_holdPair_28 (by decide) (fun c28 => ?_) (fun c28 => ?_)
    · refine r_aload_n K dX2_holdPair_33 rfl ?_
      refine r_dup K dX2_holdPair_34 ?_
      refine r_getI K dX2_holdPair_35 f_X2_25 rfl (by first | assumption | exact hW.1 _ _ rfl | exact hW.2.2.1 _ _ _ rfl) ?_
      rw [hS]
      refine r_iload K dX2_holdPair_38 rfl ?_
      refine r_ixor K dX2_holdPair_40 ?_
      rw [zXor_nat hS1 hp]
      refine r_putI K dX2_holdPair_41 f_X2_25 rfl rfl (Or.inl rfl) (by first | assumption | exact hW.1 _ _ rfl | exact hW.2.2.1 _ _ _ rfl) ?_
      refine r_iconst K dX2_holdPair_44 ?_
      exact q_zret K hQ rfl dX2_holdPair_45 (by first | exact Or.inl rfl | exact Or.inr rfl) (Nat.le_refl _) (Nat.le_refl _) (⟨rfl, rfl, rfl, rfl, by rw [if_neg (by omega)], by rw [if_neg (by omega)]⟩)
    · refine r_iconst K dX2_holdPair_31 ?_
      exact q_zret K hQ rfl dX2_holdPair_32 (by first | exact Or.inl rfl | exact Or.inr rfl) (Nat.le_refl _) (Nat.le_refl _) (⟨rfl, rfl, rfl, rfl, by rw [if_pos (by omega)], by rw [if_pos (by omega)]⟩)
  refine r_iload_n K dX2_holdPair_0 rfl ?_
  refine r_iload_n K dX2_holdPair_1 rfl ?_
  refine rcS2p K dX2_holdPair_2 c_X2_21 s_X2_bitOf (k_bitOf hW hT) (by decide) (Nat.le_of_ble_eq_true rfl) ?_
  rw [e1]
  refine r_istore K dX2_holdPair_5 (by decide) ?_
  refine r_iload K dX2_holdPair_7 rfl ?_
  refine r_if_eq K 31 dX2_holdPair_9 (by decide) (fun c9 => ?_) (fun c9 => ?_)
  · exact absurd c9 (by omega)
  · refine r_aload_n K dX2_holdPair_12 rfl ?_
    refine r_getI K dX2_holdPair_13 f_X2_25 rfl (by first | assumption | exact hW.1 _ _ rfl | exact hW.2.2.1 _ _ _ rfl) ?_
    rw [hS]
    refine r_iload K dX2_holdPair_16 rfl ?_
    refine r_iand K dX2_holdPair_18 ?_
    rw [zAnd_nat hS1]
    refine r_if_eq K 26 dX2_holdPair_19 (by decide) (fun c19 => ?_) (fun c19 => ?_)
    · have hbf : S.testBit (pIx a b) = false := hbit.mp (by omega)
      refine r_iconst K dX2_holdPair_26 ?_
      first | exact j27 0 (by rw [hbf]; rfl) | exact j27 1 (by rw [hbt]; rfl)
    · have hbt : S.testBit (pIx a b) = true := by
        cases h : S.testBit (pIx a b) with
        | true => rfl
        | false => exact absurd (hbit.mpr h) (by omega)
      refine r_iconst K dX2_holdPair_22 ?_
      refine r_goto K 27 dX2_holdPair_23 (by decide) ?_
      first | exact j27 0 (by rw [hbf]; rfl) | exact j27 1 (by rw [hbt]; rfl)
/-- what the fleet has learnt: goal, whole price, prices -/
def lPost (I : Nat → Nat → Int) (S : Nat) : Po := fun r T L P J hn => r = none ∧ CI T L P J hn ∧ (∀ k, k < 84 → k < 9 ∨ 17 < k → k ≠ 50 → k ≠ 52 → J k = I k) ∧ (∀ j, j ≠ 4 → j ≠ 5 → J 50 j = I 50 j) ∧ J 50 4 = grV I ∧ J 50 5 = (if grV I = -1 then 0 else 3 + I (18 + 2 * (grV I).toNat) 1) ∧ ∀ k, k < 10 → J 52 k = if S.testBit k then prcI I (pF k : Nat) (pT k : Nat) else -1
set_option maxHeartbeats 4000000 in
set_option maxRecDepth 100000 in
theorem k_learnPrices {S : Nat} (hC : CI T L P I hn) (hT : Tb I) (hS : S < 1024) : gX2_learnPrices 50 4860 [.inr (some 50), .inr (some 6), .inl (S : Int)] T L P I hn (lPost I S) := by
  refine CT.by (by decide) (Nat.le_of_ble_eq_true rfl) fun X Y Q hQ K hv => ?_
  have hW := hC.1
  have hg : -1 ≤ grV I ∧ grV I < 5 := ⟨(gre_in (fun v => I (18 + 2 * v) 1) 5).1, (gre_in (fun v => I (18 + 2 * v) 1) 5).2.1⟩
  have loop : ∀ (d k : Nat) (z : Int) (g4 : Option PV) (T1 L1 : Nat → Nat) (P1 : Nat → Nat → Option Nat) (J : Nat → Nat → Int) (n1 ce sl : Nat), z = k → 10 - k = d → k ≤ 10 → ce ≤ 5 * k → sl ≤ 486 * k → CI T1 L1 P1 J n1 → (∀ k, k < 84 → k < 9 ∨ 17 < k → k ≠ 50 → k ≠ 52 → J k = I k) → (∀ j, j ≠ 4 → j ≠ 5 → J 50 j = I 50 j) → J 50 4 = grV I → J 50 5 = (if grV I = -1 then 0 else 3 + I (18 + 2 * (grV I).toNat) 1) → (∀ q, q < k → J 52 q = if S.testBit q then prcI I (pF q : Nat) (pT q : Nat) else -1) → RR X Y Q ce sl 39 [some (.inr (some 50)), some (.inr (some 6)), some (.inl (S : Int)), some (.inl z), g4] [] T1 L1 P1 J n1 := by
    intro d
    induction d using Nat.strongRecOn with
    | ind d ih =>
      intro k z g4 T1 L1 P1 J n1 ce sl hz hd hk hce hsl hC1 h1 h2 h3 h4 h5
      subst hz
      have hW := hC1.1
      have l1 : L1 1 = 10 := hW.2.2.2.1
      have l2 : L1 2 = 10 := hW.2.2.2.2
      have j88 : k < 10 → ∀ (g4 : Option PV) (T2 L2 : Nat → Nat) (P2 : Nat → Nat → Option Nat) (J2 : Nat → Nat → Int) (n2 ce2 sl2 : Nat) (v : Int), ce2 ≤ 5 * (k + 1) → sl2 ≤ 486 * (k + 1) → CI T2 L2 P2 J2 n2 → (∀ c, c < 84 → c < 9 ∨ 17 < c → J2 c = J c) → v = (if S.testBit k then prcI I (pF k : Nat) (pT k : Nat) else -1) → RR X Y Q ce2 sl2 88 [some (.inr (some 50)), some (.inr (some 6)), some (.inl (S : Int)), some (.inl (k : Int)), g4] [.inl v, .inl (k : Int), .inr (some 52)] T2 L2 P2 J2 n2 := by
        intro hk10 g4 T2 L2 P2 J2 n2 ce2 sl2 v hce2 hsl2 hC2 hfr hv
        have hW := hC2.1
        have l52 : L2 52 = 10 := hW.2.1 52 10 rfl (by decide)
        refine r_iast K dX2_learnPrices_88 (by first | assumption | exact hW.1 _ _ rfl | exact hW.2.2.1 _ _ _ rfl) (by omega) (by omega) ?_
        refine r_iinc K dX2_learnPrices_89 (by decide) rfl ?_
        refine r_goto K 39 dX2_learnPrices_92 (by decide) ?_
        refine ih _ (by omega) (k + 1) _ _ _ _ _ _ _ _ _ (by omega) rfl (by omega) hce2 hsl2 (hC2.cong (fun c hc => mI_ne (by omega))) (fun c c1 c2 c3 c4 => by rw [mI_ne c4, hfr c c1 c2]; exact h1 c c1 c2 c3 c4) (fun j j1 j2 => by rw [mI_ne (by decide), hfr 50 (by decide) (by decide)]; exact h2 j j1 j2) (by rw [mI_ne (by decide), hfr 50 (by decide) (by decide)]; exact h3) (by rw [mI_ne (by decide), hfr 50 (by decide) (by decide)]; exact h4) (fun q hq => ?_)
        rw [mI_row, Int.toNat_natCast]
        by_cases e : q = k
        · rw [if_pos e, e]; exact hv
        · rw [if_neg e, hfr 52 (by decide) (by decide)]; exact h5 q (by omega)
      have j58 : k < 10 → ∀ (w : Int) (g4 : Option PV), (w = 1 ∧ S.testBit k = true ∨ w = 0 ∧ S.testBit k = false) → RR X Y Q ce sl 58 [some (.inr (some 50)), some (.inr (some 6)), some (.inl (S : Int)), some (.inl (k : Int)), g4] [.inl w] T1 L1 P1 J n1 := by
        intro hk10 w g4 hw
        obtain ⟨t1, t2⟩ := hT k hk10
        have jt1 : J 1 = I 1 := h1 1 (by decide) (by decide) (by decide) (by decide)
        have jt2 : J 2 = I 2 := h1 2 (by decide) (by decide) (by decide) (by decide)
        have epr : prcI J (pF k : Nat) (pT k : Nat) = prcI I (pF k : Nat) (pT k : Nat) := prcI_cong (fun c c1 c2 => h1 c (by omega) (by omega) (by omega) (by omega)) _ _
        refine r_istore K dX2_learnPrices_58 (by decide) ?_
        refine r_aload_n K dX2_learnPrices_60 rfl ?_
        refine r_getR K dX2_learnPrices_61 f_X2_15 rfl (by first | assumption | exact hW.1 _ _ rfl | exact hW.2.2.1 _ _ _ rfl) (by first | assumption | exact hW.1 _ _ rfl | exact hW.2.2.1 _ _ _ rfl) ?_
        refine r_iload_n K dX2_learnPrices_64 rfl ?_
        refine r_iload K dX2_learnPrices_65 rfl ?_
        refine r_if_eq K 87 dX2_learnPrices_67 (by decide) (fun c67 => ?_) (fun c67 => ?_)
        · have hbf : S.testBit k = false := by rcases hw with h | h; exact absurd h.1 (by omega); exact h.2
          refine r_iconst K dX2_learnPrices_87 ?_
          first | exact j88 hk10 _ _ _ _ _ _ _ _ _ (by omega) (by omega) hC1 (fun _ _ _ => rfl) (by rw [hbf]; rfl) | exact j88 hk10 _ _ _ _ _ _ _ _ _ (by omega) (by omega) hC2 hfr (by rw [hbt, epr]; rfl)
        · have hbt : S.testBit k = true := by rcases hw with h | h; exact h.2; exact absurd h.1 c67
          refine r_aload_n K dX2_learnPrices_70 rfl ?_
          refine r_gets K dX2_learnPrices_71 (Or.inl ⟨rfl, Or.inr g_X2_29⟩) ?_
          refine r_iload_n K dX2_learnPrices_74 rfl ?_
          refine r_oald K dX2_learnPrices_75 (by decide) (by omega) (by omega) ?_
          rw [Int.toNat_natCast, jt1, t1]
          refine r_gets K dX2_learnPrices_76 (Or.inr ⟨rfl, Or.inr g_X2_32⟩) ?_
          refine r_iload_n K dX2_learnPrices_79 rfl ?_
          refine r_oald K dX2_learnPrices_80 (by decide) (by omega) (by omega) ?_
          rw [Int.toNat_natCast, jt2, t2]
          refine rcV2g K dX2_learnPrices_81 c_X2_56 v_X5_priceOf (hW.1 6 5 rfl) (k_priceOf hC1) ⟨by decide, by decide, by show ce + 5 ≤ 50; omega, by show sl + 486 ≤ 4860; omega⟩ (Nat.le_of_ble_eq_true rfl) ?_
          rintro _ T2 L2 P2 J2 n2 ⟨hC2, hfr, rfl⟩
          refine r_goto K 88 dX2_learnPrices_84 (by decide) ?_
          first | exact j88 hk10 _ _ _ _ _ _ _ _ _ (by omega) (by omega) hC1 (fun _ _ _ => rfl) (by rw [hbf]; rfl) | exact j88 hk10 _ _ _ _ _ _ _ _ _ (by omega) (by omega) hC2 hfr (by rw [hbt, epr]; rfl)
      refine r_iload_n K dX2_learnPrices_39 rfl ?_
      refine r_bipush K dX2_learnPrices_40 ?_
      refine r_icmp_ge K 95 dX2_learnPrices_42 (by decide) (fun c42 => ?_) (fun c42 => ?_)
      · exact q_vret K hQ rfl dX2_learnPrices_95 (by omega) (by omega) (⟨rfl, hC1, h1, h2, h3, h4, fun q hq => h5 q (by omega)⟩)
      · have hzb := zbit hS (show k < 10 by omega)
        refine r_iload_n K dX2_learnPrices_45 rfl ?_
        refine r_iconst K dX2_learnPrices_46 ?_
        refine r_iload_n K dX2_learnPrices_47 rfl ?_
        refine r_ishl K dX2_learnPrices_48 ?_
        refine r_iand K dX2_learnPrices_49 ?_
        refine r_if_eq K 57 dX2_learnPrices_50 (by decide) (fun c50 => ?_) (fun c50 => ?_)
        · have hbf := hzb.mp c50
          refine r_iconst K dX2_learnPrices_57 ?_
          first | exact j58 (by omega) 0 _ (Or.inr ⟨rfl, hbf⟩) | exact j58 (by omega) 1 _ (Or.inl ⟨rfl, hbt⟩)
        · have hbt : S.testBit k = true := by
            cases h : S.testBit k with
            | true => rfl
            | false => exact absurd (hzb.mpr h) c50
          refine r_iconst K dX2_learnPrices_53 ?_
          refine r_goto K 58 dX2_learnPrices_54 (by decide) ?_
          first | exact j58 (by omega) 0 _ (Or.inr ⟨rfl, hbf⟩) | exact j58 (by omega) 1 _ (Or.inl ⟨rfl, hbt⟩)
  refine r_aload_n K dX2_learnPrices_0 rfl ?_
  refine r_aload_n K dX2_learnPrices_1 rfl ?_
  refine rcV0p K dX2_learnPrices_2 c_X2_35 v_X5_greatest (hW.1 6 5 rfl) (k_X5_greatest hW) (by decide) (Nat.le_of_ble_eq_true rfl) ?_
  refine r_putI K dX2_learnPrices_5 f_X2_41 rfl rfl (Or.inl rfl) (by first | assumption | exact hW.1 _ _ rfl | exact hW.2.2.1 _ _ _ rfl) ?_
  refine r_aload_n K dX2_learnPrices_8 rfl ?_
  refine r_aload_n K dX2_learnPrices_9 rfl ?_
  refine r_getI K dX2_learnPrices_10 f_X2_41 rfl (by first | assumption | exact hW.1 _ _ rfl | exact hW.2.2.1 _ _ _ rfl) ?_
  rw [mI_eq]
  refine r_iconst K dX2_learnPrices_13 ?_
  refine r_icmp_ne K 21 dX2_learnPrices_14 (by decide) (fun c14 => ?_) (fun c14 => ?_)
  · refine r_iconst K dX2_learnPrices_21 ?_
    refine r_aload_n K dX2_learnPrices_22 rfl ?_
    refine r_aload_n K dX2_learnPrices_23 rfl ?_
    refine r_getI K dX2_learnPrices_24 f_X2_41 rfl (by first | assumption | exact hW.1 _ _ rfl | exact hW.2.2.1 _ _ _ rfl) ?_
    rw [mI_eq]
    obtain ⟨gv, hgv⟩ : ∃ n : Nat, grV I = n := ⟨(grV I).toNat, by omega⟩
    have hgv5 : gv < 5 := by omega
    obtain ⟨w1, w2, w3, w4, w5⟩ := hW.ver hgv5
    have hvs := hC.2.2.1 gv hgv5
    rw [hgv]
    refine rcV1p K dX2_learnPrices_27 c_X2_44 v_X5_bytesOf (hW.1 6 5 rfl) (k_bytesOf hW hgv5) (by decide) (Nat.le_of_ble_eq_true rfl) ?_
    refine r_getI K dX2_learnPrices_30 f_X2_48 rfl (by first | assumption | exact hW.1 _ _ rfl | exact hW.2.2.1 _ _ _ rfl) ?_
    rw [mI_ne (by omega)]
    refine r_iadd K dX2_learnPrices_33 ?_
    refine r_putI K dX2_learnPrices_34 f_X2_53 rfl rfl (Or.inl rfl) (by first | assumption | exact hW.1 _ _ rfl | exact hW.2.2.1 _ _ _ rfl) ?_
    refine r_iconst K dX2_learnPrices_37 ?_
    refine r_istore_n K dX2_learnPrices_38 (by decide) ?_
    first
      | exact loop _ 0 0 _ _ _ _ _ _ _ _ rfl rfl (by omega) (by omega) (by omega) (hC.cong (fun c hc => by rw [mI_ne (by omega), mI_ne (by omega)])) (fun c c1 c2 c3 c4 => by rw [mI_ne c3, mI_ne c3]) (fun j j1 j2 => by rw [mI_nj j2, mI_nj j1]) (by rw [mI_nj (by decide), mI_eq]) (by rw [mI_eq, if_pos c14]) (fun q hq => absurd hq (by omega))
      | exact loop _ 0 0 _ _ _ _ _ _ _ _ rfl rfl (by omega) (by omega) (by omega) (hC.cong (fun c hc => by rw [mI_ne (by omega), mI_ne (by omega)])) (fun c c1 c2 c3 c4 => by rw [mI_ne c3, mI_ne c3]) (fun j j1 j2 => by rw [mI_nj j2, mI_nj j1]) (by rw [mI_nj (by decide), mI_eq]; exact hgv.symm) (by rw [mI_eq, if_neg c14, hgv, Int.toNat_natCast]) (fun q hq => absurd hq (by omega))
  · refine r_iconst K dX2_learnPrices_17 ?_
    refine r_goto K 34 dX2_learnPrices_18 (by decide) ?_
    refine r_putI K dX2_learnPrices_34 f_X2_53 rfl rfl (Or.inl rfl) (by first | assumption | exact hW.1 _ _ rfl | exact hW.2.2.1 _ _ _ rfl) ?_
    refine r_iconst K dX2_learnPrices_37 ?_
    refine r_istore_n K dX2_learnPrices_38 (by decide) ?_
    first
      | exact loop _ 0 0 _ _ _ _ _ _ _ _ rfl rfl (by omega) (by omega) (by omega) (hC.cong (fun c hc => by rw [mI_ne (by omega), mI_ne (by omega)])) (fun c c1 c2 c3 c4 => by rw [mI_ne c3, mI_ne c3]) (fun j j1 j2 => by rw [mI_nj j2, mI_nj j1]) (by rw [mI_nj (by decide), mI_eq]) (by rw [mI_eq, if_pos c14]) (fun q hq => absurd hq (by omega))
      | exact loop _ 0 0 _ _ _ _ _ _ _ _ rfl rfl (by omega) (by omega) (by omega) (hC.cong (fun c hc => by rw [mI_ne (by omega), mI_ne (by omega)])) (fun c c1 c2 c3 c4 => by rw [mI_ne c3, mI_ne c3]) (fun j j1 j2 => by rw [mI_nj j2, mI_nj j1]) (by rw [mI_nj (by decide), mI_eq]; exact hgv.symm) (by rw [mI_eq, if_neg c14, hgv, Int.toNat_natCast]) (fun q hq => absurd hq (by omega))
end FLE
