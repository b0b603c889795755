/-- a pair is taken into the ways, if it is in the set and has a price -/
def opW (S : Nat) (pr : Nat → Int) (k : Nat) (w : Nat → Int) : Nat → Int := if S.testBit k = true ∧ pr k ≠ -1 then (fun v => if v = pF k then (if pr k + w (pT k) < w (pF k) then pr k + w (pT k) else w (pF k)) else w v) else w
def wyF (S : Nat) (pr b : Nat → Int) : Nat → Nat → Int
  | 0 => b
  | d + 1 => opW S pr (9 - d) (wyF S pr b d)
def smF (dv w : Nat → Int) : Nat → Int
  | 0 => 0
  | v + 1 => smF dv w v + dv v * w v
/-- what is sent with the set S -/
def sntF (dv pr : Nat → Int) (g wh : Int) (S : Nat) : Int := smF dv (wyF S pr (fun v => if (v : Int) = g then 0 else wh) 10) 5
theorem wyF_in {S : Nat} {pr b : Nat → Int} (hp : ∀ k, k < 10 → pr k = -1 ∨ (0 ≤ pr k ∧ pr k ≤ 1000)) (hb : ∀ v, v < 5 → 0 ≤ b v ∧ b v ≤ 200) : ∀ d, d ≤ 10 → ∀ v, v < 5 → 0 ≤ wyF S pr b d v ∧ wyF S pr b d v ≤ 200
  | 0, _, v, hv => hb v hv
  | d + 1, hd, v, hv => by
    have ih := wyF_in (S := S) hp hb d (by omega)
    have hft := pFT ⟨9 - d, by omega⟩
    have h1 : pF (9 - d) < pT (9 - d) ∧ pT (9 - d) < 5 := hft
    have a := ih (pF (9 - d)) (by omega)
    have b := ih (pT (9 - d)) (by omega)
    have c := ih v hv
    rw [wyF, opW]
    split
    · rename_i h
      have := hp (9 - d) (by omega)
      simp only
      split
      · split <;> omega
      · exact c
    · exact c
theorem smF_in {dv w : Nat → Int} (hd : ∀ v, v < 5 → 0 ≤ dv v ∧ dv v ≤ 1000) (hw : ∀ v, v < 5 → 0 ≤ w v ∧ w v ≤ 200) : ∀ v, v ≤ 5 → 0 ≤ smF dv w v ∧ smF dv w v ≤ 200000 * v
  | 0, _ => by simp [smF]
  | v + 1, hv => by
    have ih := smF_in hd hw v (by omega)
    have a := hd v (by omega)
    have b := hw v (by omega)
    have c : 0 ≤ dv v * w v := Int.mul_nonneg a.1 b.1
    have d : dv v * w v ≤ 1000 * 200 := Int.mul_le_mul a.2 b.2 b.1 (by decide)
    rw [smF]
    omega
/-- what the fleet's sums need -/
def FO (I : Nat → Nat → Int) : Prop := (∀ v, v < 5 → 0 ≤ I 51 v ∧ I 51 v ≤ 1000) ∧ (∀ k, k < 10 → I 52 k = -1 ∨ (0 ≤ I 52 k ∧ I 52 k ≤ 1000)) ∧ 0 ≤ I 50 5 ∧ I 50 5 ≤ 200
/-- the sums of the sets -/
def Fs (I : Nat → Nat → Int) : Nat → Int := sntF (I 51) (I 52) (I 50 4) (I 50 5)
section SEN
variable {T L : Nat → Nat} {P : Nat → Nat → Option Nat} {I : Nat → Nat → Int} {hn : Nat}

set_option maxHeartbeats 4000000 in
set_option maxRecDepth 100000 in
theorem k_sentWith {S : Nat} (hW : Wd T L P) (hT : Tb I) (hS : S < 1024) (hF : FO I) : iX2_sentWith [.inr (some 50), .inl (S : Int)] T L P I hn (fun r J => r = some (.inl (Fs I S)) ∧ ∀ c, c ≠ 53 → J c = I c) := by
  refine CT.by (by decide) (Nat.le_of_ble_eq_true rfl) fun X Y Q hQ K hv => ?_
  have l1 : L 1 = 10 := hW.2.2.2.1
  have l2 : L 2 = 10 := hW.2.2.2.2
  have l51 : L 51 = 5 := hW.2.1 51 5 rfl (by decide)
  have l52 : L 52 = 10 := hW.2.1 52 10 rfl (by decide)
  have l53 : L 53 = 5 := hW.2.1 53 5 rfl (by decide)
  obtain ⟨hdv, hpr, hw0, hw1⟩ := hF
  obtain ⟨bs, hbs⟩ : ∃ bs : Nat → Int, bs = fun (v : Nat) => if (v : Int) = I 50 4 then 0 else I 50 5 := ⟨_, rfl⟩
  have hb : ∀ v, v < 5 → 0 ≤ bs v ∧ bs v ≤ 200 := fun v _ => by rw [hbs]; simp only; split <;> omega
  have hwy := wyF_in (S := S) hpr hb
  have loop3 : ∀ (d v : Nat) (z sm : Int) (J : Nat → Nat → Int), z = v → 5 - v = d → v ≤ 5 → sm = smF (I 51) (wyF S (I 52) bs 10) v → (∀ c, c ≠ 53 → J c = I c) → (∀ v, v < 5 → J 53 v = wyF S (I 52) bs 10 v) → RR X Y Q 0 0 108 [some (.inr (some 50)), some (.inl (S : Int)), some (.inl sm), some (.inl z)] [] T L P J hn := by
    intro d
    induction d using Nat.strongRecOn with
    | ind d ih =>
      intro v z sm J hz hd hv hsm hfr hrow
      subst hz
      have hsi := smF_in hdv (hwy 10 (by omega)) v hv
      refine r_iload_n K dX2_sentWith_108 rfl ?_
      refine r_iconst K dX2_sentWith_109 ?_
      refine r_icmp_ge K 135 dX2_sentWith_110 (by decide) (fun c110 => ?_) (fun c110 => ?_)
      · have hv5 : v = 5 := by omega
        subst hv5
        refine r_iload_n K dX2_sentWith_135 rfl ?_
        exact q_iret K hQ rfl dX2_sentWith_136 (Nat.le_refl _) (Nat.le_refl _) (⟨rfl, rfl, rfl, rfl, by rw [hsm, Fs, sntF, hbs], hfr⟩)
      · have hv5 : v < 5 := by omega
        have b1 := hdv v hv5
        have b2 := hwy 10 (by omega) v hv5
        have b3 : 0 ≤ I 51 v * wyF S (I 52) bs 10 v := Int.mul_nonneg b1.1 b2.1
        have b4 : I 51 v * wyF S (I 52) bs 10 v ≤ 1000 * 200 := Int.mul_le_mul b1.2 b2.2 b2.1 (by decide)
        refine r_iload_n K dX2_sentWith_113 rfl ?_
        refine r_aload_n K dX2_sentWith_114 rfl ?_
        refine r_getR K dX2_sentWith_115 f_X2_9 rfl (by first | assumption | exact hW.1 _ _ rfl | exact hW.2.2.1 _ _ _ rfl) (by first | assumption | exact hW.1 _ _ rfl | exact hW.2.2.1 _ _ _ rfl) ?_
        refine r_iload_n K dX2_sentWith_118 rfl ?_
        refine r_iald K dX2_sentWith_119 (by first | assumption | exact hW.1 _ _ rfl | exact hW.2.2.1 _ _ _ rfl) (by omega) (by omega) ?_
        rw [Int.toNat_natCast, hfr 51 (by decide)]
        refine r_aload_n K dX2_sentWith_120 rfl ?_
        refine r_getR K dX2_sentWith_121 f_X2_18 rfl (by first | assumption | exact hW.1 _ _ rfl | exact hW.2.2.1 _ _ _ rfl) (by first | assumption | exact hW.1 _ _ rfl | exact hW.2.2.1 _ _ _ rfl) ?_
        refine r_iload_n K dX2_sentWith_124 rfl ?_
        refine r_iald K dX2_sentWith_125 (by first | assumption | exact hW.1 _ _ rfl | exact hW.2.2.1 _ _ _ rfl) (by omega) (by omega) ?_
        rw [Int.toNat_natCast, hrow v hv5]
        refine r_imul K dX2_sentWith_126 ?_
        refine r_iadd K dX2_sentWith_127 ?_
        refine r_istore_n K dX2_sentWith_128 (by decide) ?_
        refine r_iinc K dX2_sentWith_129 (by decide) rfl ?_
        refine r_goto K 108 dX2_sentWith_132 (by decide) ?_
        exact ih _ (by omega) (v + 1) _ _ J (by omega) rfl (by omega) (by rw [hsm, smF]) hfr hrow
  have loop2 : ∀ (e d : Nat) (z : Int) (g3 : Option PV) (J : Nat → Nat → Int), z = 9 - (d : Int) → d + e = 10 → (∀ c, c ≠ 53 → J c = I c) → (∀ v, v < 5 → J 53 v = wyF S (I 52) bs d v) → RR X Y Q 0 0 38 [some (.inr (some 50)), some (.inl (S : Int)), some (.inl z), g3] [] T L P J hn := by
    intro e
    induction e with
    | zero =>
      intro d z g3 J hz hd hfr hrow
      have hd : d = 10 := by omega
      subst hd
      refine r_iload_n K dX2_sentWith_38 rfl ?_
      refine r_if_lt K 104 dX2_sentWith_39 (by decide) (fun c39 => ?_) (fun c39 => ?_)
      · refine r_iconst K dX2_sentWith_104 ?_
        refine r_istore_n K dX2_sentWith_105 (by decide) ?_
        refine r_iconst K dX2_sentWith_106 ?_
        refine r_istore_n K dX2_sentWith_107 (by decide) ?_
        exact loop3 _ 0 0 0 J rfl rfl (by omega) rfl hfr hrow
      · exact absurd c39 (by omega)
    | succ e ih =>
      intro d z g3 J hz hd hfr hrow
      obtain ⟨k, hk⟩ : ∃ k, k = 9 - d := ⟨_, rfl⟩
      have hzk : z = k := by omega
      subst hzk
      have hk10 : k < 10 := by omega
      obtain ⟨t1, t2⟩ := hT k hk10
      have hft : pF k < pT k ∧ pT k < 5 := pFT ⟨k, hk10⟩
      have hzb := zbit hS hk10
      have jt1 : J 1 = I 1 := hfr 1 (by decide)
      have jt2 : J 2 = I 2 := hfr 2 (by decide)
      have j52 : J 52 = I 52 := hfr 52 (by decide)
      have hk1 := hpr k hk10
      have w1 := hwy d (by omega) (pF k) (by omega)
      have w2 := hwy d (by omega) (pT k) (by omega)
      have skip_ : ∀ g3, ¬ (S.testBit k = true ∧ I 52 k ≠ -1) → RR X Y Q 0 0 98 [some (.inr (some 50)), some (.inl (S : Int)), some (.inl (k : Int)), g3] [] T L P J hn := by
        intro g3 hno
        refine r_iinc K dX2_sentWith_98 (by decide) rfl ?_
        refine r_goto K 38 dX2_sentWith_101 (by decide) ?_
        exact ih (d + 1) _ _ J (by omega) (by omega) hfr (fun v hv => by rw [wyF, ← hk, opW, if_neg hno]; exact hrow v hv)
      refine r_iload_n K dX2_sentWith_38 rfl ?_
      refine r_if_lt K 104 dX2_sentWith_39 (by decide) (fun c39 => ?_) (fun c39 => ?_)
      · exact absurd c39 (by omega)
      · refine r_iload_n K dX2_sentWith_42 rfl ?_
        refine r_iconst K dX2_sentWith_43 ?_
        refine r_iload_n K dX2_sentWith_44 rfl ?_
        refine r_ishl K dX2_sentWith_45 ?_
        refine r_iand K dX2_sentWith_46 ?_
        refine r_if_eq K 98 dX2_sentWith_47 (by decide) (fun c47 => ?_) (fun c47 => ?_)
        · exact skip_ _ (fun h => by rw [hzb.mp c47] at h; exact absurd h.1 (by decide))
        · have hbt : S.testBit k = true := by
            cases h : S.testBit k with
            | true => rfl
            | false => exact absurd (hzb.mpr h) c47
          refine r_aload_n K dX2_sentWith_50 rfl ?_
          refine r_getR K dX2_sentWith_51 f_X2_15 rfl (by first | assumption | exact hW.1 _ _ rfl | exact hW.2.2.1 _ _ _ rfl) (by first | assumption | exact hW.1 _ _ rfl | exact hW.2.2.1 _ _ _ rfl) ?_
          refine r_iload_n K dX2_sentWith_54 rfl ?_
          refine r_iald K dX2_sentWith_55 (by first | assumption | exact hW.1 _ _ rfl | exact hW.2.2.1 _ _ _ rfl) (by omega) (by omega) ?_
          rw [Int.toNat_natCast, j52]
          refine r_iconst K dX2_sentWith_56 ?_
          refine r_icmp_eq K 98 dX2_sentWith_57 (by decide) (fun c57 => ?_) (fun c57 => ?_)
          · exact skip_ _ (fun h => h.2 c57)
          · refine r_gets K dX2_sentWith_60 (Or.inl ⟨rfl, Or.inr g_X2_29⟩) ?_
            refine r_iload_n K dX2_sentWith_63 rfl ?_
            refine r_oald K dX2_sentWith_64 (by decide) (by omega) (by omega) ?_
            rw [Int.toNat_natCast, jt1, t1]
            refine r_istore_n K dX2_sentWith_65 (by decide) ?_
            refine r_aload_n K dX2_sentWith_66 rfl ?_
            refine r_getR K dX2_sentWith_67 f_X2_18 rfl (by first | assumption | exact hW.1 _ _ rfl | exact hW.2.2.1 _ _ _ rfl) (by first | assumption | exact hW.1 _ _ rfl | exact hW.2.2.1 _ _ _ rfl) ?_
            refine r_iload_n K dX2_sentWith_70 rfl ?_
            refine r_aload_n K dX2_sentWith_71 rfl ?_
            refine r_getR K dX2_sentWith_72 f_X2_18 rfl (by first | assumption | exact hW.1 _ _ rfl | exact hW.2.2.1 _ _ _ rfl) (by first | assumption | exact hW.1 _ _ rfl | exact hW.2.2.1 _ _ _ rfl) ?_
            refine r_iload_n K dX2_sentWith_75 rfl ?_
            refine r_iald K dX2_sentWith_76 (by first | assumption | exact hW.1 _ _ rfl | exact hW.2.2.1 _ _ _ rfl) (by omega) (by omega) ?_
            rw [Int.toNat_natCast, hrow (pF k) (by omega)]
            refine r_aload_n K dX2_sentWith_77 rfl ?_
            refine r_getR K dX2_sentWith_78 f_X2_15 rfl (by first | assumption | exact hW.1 _ _ rfl | exact hW.2.2.1 _ _ _ rfl) (by first | assumption | exact hW.1 _ _ rfl | exact hW.2.2.1 _ _ _ rfl) ?_
            refine r_iload_n K dX2_sentWith_81 rfl ?_
            refine r_iald K dX2_sentWith_82 (by first | assumption | exact hW.1 _ _ rfl | exact hW.2.2.1 _ _ _ rfl) (by omega) (by omega) ?_
            rw [Int.toNat_natCast, j52]
            refine r_aload_n K dX2_sentWith_83 rfl ?_
            refine r_getR K dX2_sentWith_84 f_X2_18 rfl (by first | assumption | exact hW.1 _ _ rfl | exact hW.2.2.1 _ _ _ rfl) (by first | assumption | exact hW.1 _ _ rfl | exact hW.2.2.1 _ _ _ rfl) ?_
            refine r_gets K dX2_sentWith_87 (Or.inr ⟨rfl, Or.inr g_X2_32⟩) ?_
            refine r_iload_n K dX2_sentWith_90 rfl ?_
            refine r_oald K dX2_sentWith_91 (by decide) (by omega) (by omega) ?_
            rw [Int.toNat_natCast, jt2, t2]
            refine r_iald K dX2_sentWith_92 (by first | assumption | exact hW.1 _ _ rfl | exact hW.2.2.1 _ _ _ rfl) (by omega) (by omega) ?_
            rw [Int.toNat_natCast, hrow (pT k) (by omega)]
            refine r_iadd K dX2_sentWith_93 ?_
            refine r_min K dX2_sentWith_94 m_X2_59 (Nat.le_of_ble_eq_true rfl) (Nat.le_of_ble_eq_true rfl) (Nat.le_of_ble_eq_true rfl) (Nat.le_of_ble_eq_true rfl) ?_
            refine r_iast K dX2_sentWith_97 (by first | assumption | exact hW.1 _ _ rfl | exact hW.2.2.1 _ _ _ rfl) (by omega) (by omega) ?_
            refine r_iinc K dX2_sentWith_98 (by decide) rfl ?_
            refine r_goto K 38 dX2_sentWith_101 (by decide) ?_
            refine ih (d + 1) _ _ _ (by omega) (by omega) (fun c hc => by rw [mI_ne hc]; exact hfr c hc) (fun v hv => ?_)
            have hop : opW S (I 52) k (wyF S (I 52) bs d) = fun v => if v = pF k then (if I 52 k + wyF S (I 52) bs d (pT k) < wyF S (I 52) bs d (pF k) then I 52 k + wyF S (I 52) bs d (pT k) else wyF S (I 52) bs d (pF k)) else wyF S (I 52) bs d v := by rw [opW, if_pos ⟨hbt, c57⟩]
            rw [wyF, ← hk, hop, mI_row, Int.toNat_natCast]
            by_cases e : v = pF k
            · simp only [if_pos e]
            · simp only [if_neg e]; exact hrow v hv
  have loop1 : ∀ (d v : Nat) (z : Int) (g3 : Option PV) (J : Nat → Nat → Int), z = v → 5 - v = d → v ≤ 5 → (∀ c, c ≠ 53 → J c = I c) → (∀ q, q < v → J 53 q = bs q) → RR X Y Q 0 0 2 [some (.inr (some 50)), some (.inl (S : Int)), some (.inl z), g3] [] T L P J hn := by
    intro d
    induction d using Nat.strongRecOn with
    | ind d ih =>
      intro v z g3 J hz hd hv hfr hrow
      subst hz
      have j50 : J 50 = I 50 := hfr 50 (by decide)
      have j28 : v < 5 → ∀ w, w = bs v → RR X Y Q 0 0 28 [some (.inr (some 50)), some (.inl (S : Int)), some (.inl (v : Int)), g3] [.inl w, .inl (v : Int), .inr (some 53)] T L P J hn := by
        intro hv5 w hw
        refine r_iast K dX2_sentWith_28 (by first | assumption | exact hW.1 _ _ rfl | exact hW.2.2.1 _ _ _ rfl) (by omega) (by omega) ?_
        refine r_iinc K dX2_sentWith_29 (by decide) rfl ?_
        refine r_goto K 2 dX2_sentWith_32 (by decide) ?_
        refine ih _ (by omega) (v + 1) _ _ _ (by omega) rfl (by omega) (fun c hc => by rw [mI_ne hc]; exact hfr c hc) (fun q hq => ?_)
        rw [mI_row, Int.toNat_natCast]
        by_cases e : q = v
        · rw [if_pos e, e]; exact hw
        · rw [if_neg e]; exact hrow q (by omega)
      refine r_iload_n K dX2_sentWith_2 rfl ?_
      refine r_iconst K dX2_sentWith_3 ?_
      refine r_icmp_ge K 35 dX2_sentWith_4 (by decide) (fun c4 => ?_) (fun c4 => ?_)
      · have hv5 : v = 5 := by omega
        subst hv5
        refine r_bipush K dX2_sentWith_35 ?_
        refine r_istore_n K dX2_sentWith_37 (by decide) ?_
        exact loop2 10 0 9 _ J rfl rfl hfr hrow
      · have hv5 : v < 5 := by omega
        refine r_aload_n K dX2_sentWith_7 rfl ?_
        refine r_getR K dX2_sentWith_8 f_X2_18 rfl (by first | assumption | exact hW.1 _ _ rfl | exact hW.2.2.1 _ _ _ rfl) (by first | assumption | exact hW.1 _ _ rfl | exact hW.2.2.1 _ _ _ rfl) ?_
        refine r_iload_n K dX2_sentWith_11 rfl ?_
        refine r_iload_n K dX2_sentWith_12 rfl ?_
        refine r_aload_n K dX2_sentWith_13 rfl ?_
        refine r_getI K dX2_sentWith_14 f_X2_41 rfl (by first | assumption | exact hW.1 _ _ rfl | exact hW.2.2.1 _ _ _ rfl) ?_
        rw [j50]
        refine r_icmp_ne K 24 dX2_sentWith_17 (by decide) (fun c17 => ?_) (fun c17 => ?_)
        · refine r_aload_n K dX2_sentWith_24 rfl ?_
          refine r_getI K dX2_sentWith_25 f_X2_53 rfl (by first | assumption | exact hW.1 _ _ rfl | exact hW.2.2.1 _ _ _ rfl) ?_
          rw [j50]
          first | exact j28 hv5 _ (by rw [hbs]; simp only; rw [if_pos c17]) | exact j28 hv5 _ (by rw [hbs]; simp only; rw [if_neg c17])
        · refine r_iconst K dX2_sentWith_20 ?_
          refine r_goto K 28 dX2_sentWith_21 (by decide) ?_
          first | exact j28 hv5 _ (by rw [hbs]; simp only; rw [if_pos c17]) | exact j28 hv5 _ (by rw [hbs]; simp only; rw [if_neg c17])
  refine r_iconst K dX2_sentWith_0 ?_
  refine r_istore_n K dX2_sentWith_1 (by decide) ?_
  exact loop1 _ 0 0 _ I rfl rfl (by omega) (fun _ _ => rfl) (fun q hq => absurd hq (by omega))
/-- a set is considered: a lesser sum replaces -/
def cons (f : Nat → Int) (c : Int × Int) (S : Nat) : Int × Int := if f S < c.1 then (f S, (S : Int)) else c
/-- only the fleet's best and its ways have changed: the best is c -/
def cPo (I : Nat → Nat → Int) (c : Int × Int) (J : Nat → Nat → Int) : Prop := (∀ k, k ≠ 50 → k ≠ 53 → J k = I k) ∧ (∀ j, j ≠ 6 → j ≠ 7 → J 50 j = I 50 j) ∧ (J 50 6, J 50 7) = c
theorem cPo.fs {c : Int × Int} {J : Nat → Nat → Int} (h : cPo I c J) : Fs J = Fs I := by
  unfold Fs
  rw [h.1 51 (by decide) (by decide), h.1 52 (by decide) (by decide), h.2.1 4 (by decide) (by decide), h.2.1 5 (by decide) (by decide)]
theorem cPo.fo {c : Int × Int} {J : Nat → Nat → Int} (h : cPo I c J) (hF : FO I) : FO J := by
  unfold FO at hF ⊢
  rw [h.1 51 (by decide) (by decide), h.1 52 (by decide) (by decide), h.2.1 5 (by decide) (by decide)]
  exact hF
theorem cPo.tb {c : Int × Int} {J : Nat → Nat → Int} (h : cPo I c J) (hT : Tb I) : Tb J := by
  unfold Tb at hT ⊢
  rw [h.1 1 (by decide) (by decide), h.1 2 (by decide) (by decide)]
  exact hT
set_option maxHeartbeats 4000000 in
set_option maxRecDepth 100000 in
theorem k_consider {S : Nat} (hW : Wd T L P) (hT : Tb I) (hS : S < 1024) (hF : FO I) : iX2_consider [.inr (some 50), .inl (S : Int)] T L P I hn (fun r J => r = none ∧ cPo I (cons (Fs I) (I 50 6, I 50 7) S) J) := by
  refine CT.by (by decide) (Nat.le_of_ble_eq_true rfl) fun X Y Q hQ K hv => ?_
  refine r_aload_n K dX2_consider_0 rfl ?_
  refine r_iload_n K dX2_consider_1 rfl ?_
  refine rcV1i K dX2_consider_2 c_X2_64 v_X2_sentWith (by first | assumption | exact hW.1 _ _ rfl | exact hW.2.2.1 _ _ _ rfl) (k_sentWith hW hT hS hF) (by decide) (Nat.le_of_ble_eq_true rfl) ?_
  rintro _ J ⟨rfl, hfr⟩
  have j50 : J 50 = I 50 := hfr 50 (by decide)
  refine r_istore_n K dX2_consider_5 (by decide) ?_
  refine r_iload_n K dX2_consider_6 rfl ?_
  refine r_aload_n K dX2_consider_7 rfl ?_
  refine r_getI K dX2_consider_8 f_X2_68 rfl (by first | assumption | exact hW.1 _ _ rfl | exact hW.2.2.1 _ _ _ rfl) ?_
  rw [j50]
  refine r_icmp_ge K 24 dX2_consider_11 (by decide) (fun c11 => ?_) (fun c11 => ?_)
  · exact q_vret K hQ rfl dX2_consider_24 (Nat.le_refl _) (Nat.le_refl _) (⟨rfl, rfl, rfl, rfl, rfl, by
        first
          | exact ⟨fun k k1 k2 => hfr k k2, fun j _ _ => by rw [j50], by rw [j50, cons, if_neg (by simp only; omega)]⟩
          | exact ⟨fun k k1 k2 => by rw [mI_ne k1, mI_ne k1]; exact hfr k k2, fun j j1 j2 => by rw [mI_nj j2, mI_nj j1, j50], by rw [mI_nj (by decide), mI_eq, mI_eq, cons, if_pos (by simp only; omega)]⟩⟩)
  · refine r_aload_n K dX2_consider_14 rfl ?_
    refine r_iload_n K dX2_consider_15 rfl ?_
    refine r_putI K dX2_consider_16 f_X2_68 rfl rfl (Or.inl rfl) (by first | assumption | exact hW.1 _ _ rfl | exact hW.2.2.1 _ _ _ rfl) ?_
    refine r_aload_n K dX2_consider_19 rfl ?_
    refine r_iload_n K dX2_consider_20 rfl ?_
    refine r_putI K dX2_consider_21 f_X2_71 rfl rfl (Or.inl rfl) (by first | assumption | exact hW.1 _ _ rfl | exact hW.2.2.1 _ _ _ rfl) ?_
    exact q_vret K hQ rfl dX2_consider_24 (Nat.le_refl _) (Nat.le_refl _) (⟨rfl, rfl, rfl, rfl, rfl, by
        first
          | exact ⟨fun k k1 k2 => hfr k k2, fun j _ _ => by rw [j50], by rw [j50, cons, if_neg (by simp only; omega)]⟩
          | exact ⟨fun k k1 k2 => by rw [mI_ne k1, mI_ne k1]; exact hfr k k2, fun j j1 j2 => by rw [mI_nj j2, mI_nj j1, j50], by rw [mI_nj (by decide), mI_eq, mI_eq, cons, if_pos (by simp only; omega)]⟩⟩)
def f3 (f : Nat → Int) (i j : Nat) : Nat → Nat → Int × Int → Int × Int
  | 0, _, c => c
  | d + 1, l, c => f3 f i j d (l + 1) (cons f c ((2 ^ i ||| 2 ^ j) ||| 2 ^ l))
def f2 (f : Nat → Int) (sz i : Nat) : Nat → Nat → Int × Int → Int × Int
  | 0, _, c => c
  | d + 1, j, c => f2 f sz i d (j + 1) (if sz = 2 then cons f c (2 ^ i ||| 2 ^ j) else if sz = 3 then f3 f i j (9 - j) (j + 1) c else c)
def f1 (f : Nat → Int) (sz : Nat) : Nat → Nat → Int × Int → Int × Int
  | 0, _, c => c
  | d + 1, i, c => f1 f sz d (i + 1) (if sz = 1 then cons f c (2 ^ i) else f2 f sz i (9 - i) (i + 1) c)
set_option maxHeartbeats 4000000 in
set_option maxRecDepth 100000 in
theorem k_chooseOfSize {sz : Nat} (hW : Wd T L P) (hT : Tb I) (hF : FO I) (hzz : sz = 1 ∨ sz = 2 ∨ sz = 3) : iX2_chooseOfSize [.inr (some 50), .inl (sz : Int)] T L P I hn (fun r J => r = none ∧ cPo I (f1 (Fs I) sz 10 0 (I 50 6, I 50 7)) J) := by
  refine CT.by (by decide) (Nat.le_of_ble_eq_true rfl) fun X Y Q hQ K hv => ?_
  obtain ⟨R0, hR0⟩ : ∃ R0, R0 = f1 (Fs I) sz 10 0 (I 50 6, I 50 7) := ⟨_, rfl⟩
  rw [← hR0] at hQ
  have con : ∀ {J : Nat → Nat → Int} {c : Int × Int} {S : Nat}, cPo I c J → S < 1024 → iX2_consider [.inr (some 50), .inl (S : Int)] T L P J hn (fun r J1 => r = none ∧ cPo J (cons (Fs I) c S) J1) := by
    intro J c S h hS
    have := k_consider (T := T) (L := L) (P := P) (I := J) (hn := hn) (S := S) hW (h.tb hT) hS (h.fo hF)
    rw [h.fs, h.2.2] at this
    exact this
  have nxt : ∀ {J J1 : Nat → Nat → Int} {c c' : Int × Int}, cPo I c J → cPo J c' J1 → cPo I c' J1 := fun h h' => ⟨fun k a b => (h'.1 k a b).trans (h.1 k a b), fun j a b => (h'.2.1 j a b).trans (h.2.1 j a b), h'.2.2⟩
  have or2 : ∀ {i j : Nat}, i < 10 → j < 10 → 2 ^ i ||| 2 ^ j < 1024 := fun h1 h2 => Nat.or_lt_two_pow (n := 10) (pow_lt h1) (pow_lt h2)
  -- the outer loop, by what is left of it
  have loop1 : ∀ (d i : Nat) (z : Int) (c : Int × Int) (J : Nat → Nat → Int) (g3 g4 g5 : Option PV), z = i → i + d = 10 → cPo I c J → f1 (Fs I) sz d i c = R0 → RR X Y Q 0 0 2 [some (.inr (some 50)), some (.inl (sz : Int)), some (.inl z), g3, g4, g5] [] T L P J hn := by
    intro d
    induction d with
    | zero =>
      intro i z c J g3 g4 g5 hz hd h he
      subst hz
      have he : c = R0 := he
      subst he
      refine r_iload_n K dX2_chooseOfSize_2 rfl ?_
      refine r_bipush K dX2_chooseOfSize_3 ?_
      refine r_icmp_ge K 101 dX2_chooseOfSize_5 (by decide) (fun c5 => ?_) (fun c5 => ?_)
      · exact q_vret K hQ rfl dX2_chooseOfSize_101 (Nat.le_refl _) (Nat.le_refl _) (⟨rfl, rfl, rfl, rfl, rfl, h⟩)
      · exact absurd c5 (by omega)
    | succ d ih1 =>
      intro i z c J g3 g4 g5 hz hd h he
      subst hz
      rw [f1] at he
      have hi : i < 10 := by omega
      have j95 : ∀ (c : Int × Int) (J : Nat → Nat → Int) (g3 g4 g5 : Option PV), cPo I c J → f1 (Fs I) sz d (i + 1) c = R0 → RR X Y Q 0 0 95 [some (.inr (some 50)), some (.inl (sz : Int)), some (.inl (i : Int)), g3, g4, g5] [] T L P J hn := by
        intro c J g3 g4 g5 h he
        refine r_iinc K dX2_chooseOfSize_95 (by decide) rfl ?_
        refine r_goto K 2 dX2_chooseOfSize_98 (by decide) ?_
        exact ih1 (i + 1) _ c J _ _ _ (by omega) (by omega) h he
      have loop2 : ∀ (e j : Nat) (z : Int) (c : Int × Int) (J : Nat → Nat → Int) (g4 g5 : Option PV), z = j → j + e = 10 → i < j → cPo I c J → (sz = 1 → f1 (Fs I) sz d (i + 1) c = R0) → (sz ≠ 1 → f1 (Fs I) sz d (i + 1) (f2 (Fs I) sz i e j c) = R0) → RR X Y Q 0 0 24 [some (.inr (some 50)), some (.inl (sz : Int)), some (.inl (i : Int)), some (.inl z), g4, g5] [] T L P J hn := by
        intro e
        induction e with
        | zero =>
          intro j z c J g4 g5 hz hj hij h he1 he2
          subst hz
          refine r_iload_n K dX2_chooseOfSize_24 rfl ?_
          refine r_bipush K dX2_chooseOfSize_25 ?_
          refine r_icmp_ge K 95 dX2_chooseOfSize_27 (by decide) (fun c27 => ?_) (fun c27 => ?_)
          · exact j95 c J _ _ _ h (by rcases hzz with q | q; exact he1 q; exact he2 (by omega))
          · exact absurd c27 (by omega)
        | succ e ih2 =>
          intro j z c J g4 g5 hz hj hij h he1 he2
          subst hz
          have hj10 : j < 10 := by omega
          have j89 : sz ≠ 1 → ∀ (c : Int × Int) (J : Nat → Nat → Int) (g4 g5 : Option PV), cPo I c J → f1 (Fs I) sz d (i + 1) (f2 (Fs I) sz i e (j + 1) c) = R0 → RR X Y Q 0 0 89 [some (.inr (some 50)), some (.inl (sz : Int)), some (.inl (i : Int)), some (.inl (j : Int)), g4, g5] [] T L P J hn := by
            intro hs1 c J g4 g5 h he
            refine r_iinc K dX2_chooseOfSize_89 (by decide) rfl ?_
            refine r_goto K 24 dX2_chooseOfSize_92 (by decide) ?_
            exact ih2 (j + 1) _ c J _ _ (by omega) (by omega) (by omega) h (fun q => absurd q hs1) (fun _ => he)
          have loop3 : sz ≠ 1 → ∀ (u l : Nat) (z : Int) (c : Int × Int) (J : Nat → Nat → Int), z = l → l + u = 10 → j < l → cPo I c J → (sz = 2 → f1 (Fs I) sz d (i + 1) (f2 (Fs I) sz i e (j + 1) c) = R0) → (sz = 3 → f1 (Fs I) sz d (i + 1) (f2 (Fs I) sz i e (j + 1) (f3 (Fs I) i j u l c)) = R0) → RR X Y Q 0 0 60 [some (.inr (some 50)), some (.inl (sz : Int)), some (.inl (i : Int)), some (.inl (j : Int)), some (.inl ((2 ^ i ||| 2 ^ j : Nat) : Int)), some (.inl z)] [] T L P J hn := by
            intro hs1 u
            induction u with
            | zero =>
              intro l z c J hz hl hjl h q2 q3
              subst hz
              refine r_iload K dX2_chooseOfSize_60 rfl ?_
              refine r_bipush K dX2_chooseOfSize_62 ?_
              refine r_icmp_ge K 89 dX2_chooseOfSize_64 (by decide) (fun c64 => ?_) (fun c64 => ?_)
              · exact j89 hs1 c J _ _ h (by rcases hzz with q | q | q; exact absurd q hs1; exact q2 q; exact q3 q)
              · exact absurd c64 (by omega)
            | succ u ih3 =>
              intro l z c J hz hl hjl h q2 q3
              subst hz
              refine r_iload K dX2_chooseOfSize_60 rfl ?_
              refine r_bipush K dX2_chooseOfSize_62 ?_
              refine r_icmp_ge K 89 dX2_chooseOfSize_64 (by decide) (fun c64 => ?_) (fun c64 => ?_)
              · exact absurd c64 (by omega)
              · refine r_iload_n K dX2_chooseOfSize_67 rfl ?_
                refine r_iconst K dX2_chooseOfSize_68 ?_
                refine r_icmp_le K 89 dX2_chooseOfSize_69 (by decide) (fun c69 => ?_) (fun c69 => ?_)
                · exact j89 hs1 c J _ _ h (q2 (by omega))
                · have hs3 : sz = 3 := by omega
                  have hl10 : l < 10 := by omega
                  refine r_aload_n K dX2_chooseOfSize_72 rfl ?_
                  refine r_iload K dX2_chooseOfSize_73 rfl ?_
                  refine r_iconst K dX2_chooseOfSize_75 ?_
                  refine r_iload K dX2_chooseOfSize_76 rfl ?_
                  refine r_ishl K dX2_chooseOfSize_78 ?_
                  rw [zShl_1 (by omega)]
                  refine r_ior K dX2_chooseOfSize_79 ?_
                  rw [zOr_nat (or2 hi hj10) (pow_lt hl10)]
                  refine rcV1i K dX2_chooseOfSize_80 c_X2_78 v_X2_consider (by first | assumption | exact hW.1 _ _ rfl | exact hW.2.2.1 _ _ _ rfl) (con h (Nat.or_lt_two_pow (n := 10) (or2 hi hj10) (pow_lt hl10))) (by decide) (Nat.le_of_ble_eq_true rfl) ?_
                  rintro _ J1 ⟨rfl, hJ1⟩
                  refine r_iinc K dX2_chooseOfSize_83 (by decide) rfl ?_
                  refine r_goto K 60 dX2_chooseOfSize_86 (by decide) ?_
                  exact ih3 (l + 1) _ _ J1 (by omega) (by omega) (by omega) (nxt h hJ1) (fun q => absurd q (by omega)) (fun q => by have := q3 q; rw [f3] at this; exact this)
          have j55 : sz ≠ 1 → ∀ (c1 : Int × Int) (J1 : Nat → Nat → Int) (g5 : Option PV), cPo I c1 J1 → (sz = 2 ∧ c1 = cons (Fs I) c (2 ^ i ||| 2 ^ j) ∨ sz = 3 ∧ c1 = c) → RR X Y Q 0 0 55 [some (.inr (some 50)), some (.inl (sz : Int)), some (.inl (i : Int)), some (.inl (j : Int)), some (.inl ((2 ^ i ||| 2 ^ j : Nat) : Int)), g5] [] T L P J1 hn := by
            intro hs1 c1 J1 g5 h1 hc1
            have he2 := he2 hs1
            rw [f2] at he2
            refine r_iload_n K dX2_chooseOfSize_55 rfl ?_
            refine r_iconst K dX2_chooseOfSize_56 ?_
            refine r_iadd K dX2_chooseOfSize_57 ?_
            refine r_istore K dX2_chooseOfSize_58 (by decide) ?_
            exact loop3 hs1 (9 - j) (j + 1) _ c1 J1 (by omega) (by omega) (by omega) h1 (fun q => by
              rcases hc1 with w | w
              · rw [if_pos q] at he2; rw [w.2]; exact he2
              · exact absurd q (by omega)) (fun q => by
              rcases hc1 with w | w
              · exact absurd q (by omega)
              · rw [if_neg (by omega), if_pos q] at he2; rw [w.2]; exact he2)
          refine r_iload_n K dX2_chooseOfSize_24 rfl ?_
          refine r_bipush K dX2_chooseOfSize_25 ?_
          refine r_icmp_ge K 95 dX2_chooseOfSize_27 (by decide) (fun c27 => ?_) (fun c27 => ?_)
          · exact absurd c27 (by omega)
          · refine r_iload_n K dX2_chooseOfSize_30 rfl ?_
            refine r_iconst K dX2_chooseOfSize_31 ?_
            refine r_icmp_le K 95 dX2_chooseOfSize_32 (by decide) (fun c32 => ?_) (fun c32 => ?_)
            · exact j95 c J _ _ _ h (he1 (by omega))
            · have hs1 : sz ≠ 1 := by omega
              refine r_iconst K dX2_chooseOfSize_35 ?_
              refine r_iload_n K dX2_chooseOfSize_36 rfl ?_
              refine r_ishl K dX2_chooseOfSize_37 ?_
              rw [zShl_1 (by omega)]
              refine r_iconst K dX2_chooseOfSize_38 ?_
              refine r_iload_n K dX2_chooseOfSize_39 rfl ?_
              refine r_ishl K dX2_chooseOfSize_40 ?_
              rw [zShl_1 (by omega)]
              refine r_ior K dX2_chooseOfSize_41 ?_
              rw [zOr_nat (pow_lt hi) (pow_lt hj10)]
              refine r_istore K dX2_chooseOfSize_42 (by decide) ?_
              refine r_iload_n K dX2_chooseOfSize_44 rfl ?_
              refine r_iconst K dX2_chooseOfSize_45 ?_
              refine r_icmp_ne K 55 dX2_chooseOfSize_46 (by decide) (fun c46 => ?_) (fun c46 => ?_)
              · exact j55 hs1 c J _ h (Or.inr ⟨by omega, rfl⟩)
              · refine r_aload_n K dX2_chooseOfSize_49 rfl ?_
                refine r_iload K dX2_chooseOfSize_50 rfl ?_
                refine rcV1i K dX2_chooseOfSize_52 c_X2_78 v_X2_consider (by first | assumption | exact hW.1 _ _ rfl | exact hW.2.2.1 _ _ _ rfl) (con h (or2 hi hj10)) (by decide) (Nat.le_of_ble_eq_true rfl) ?_
                rintro _ J1 ⟨rfl, hJ1⟩
                exact j55 hs1 _ J1 _ (nxt h hJ1) (Or.inl ⟨by omega, rfl⟩)
      have j20 : ∀ (c1 : Int × Int) (J1 : Nat → Nat → Int) (g3 g4 g5 : Option PV), cPo I c1 J1 → (sz = 1 ∧ c1 = cons (Fs I) c (2 ^ i) ∨ sz ≠ 1 ∧ c1 = c) → RR X Y Q 0 0 20 [some (.inr (some 50)), some (.inl (sz : Int)), some (.inl (i : Int)), g3, g4, g5] [] T L P J1 hn := by
        intro c1 J1 g3 g4 g5 h1 hc1
        refine r_iload_n K dX2_chooseOfSize_20 rfl ?_
        refine r_iconst K dX2_chooseOfSize_21 ?_
        refine r_iadd K dX2_chooseOfSize_22 ?_
        refine r_istore_n K dX2_chooseOfSize_23 (by decide) ?_
        exact loop2 (9 - i) (i + 1) _ c1 J1 _ _ (by omega) (by omega) (by omega) h1 (fun q => by
          rcases hc1 with w | w
          · rw [if_pos q] at he; rw [w.2]; exact he
          · exact absurd q w.1) (fun q => by
          rcases hc1 with w | w
          · exact absurd w.1 q
          · rw [if_neg q] at he; rw [w.2]; exact he)
      refine r_iload_n K dX2_chooseOfSize_2 rfl ?_
      refine r_bipush K dX2_chooseOfSize_3 ?_
      refine r_icmp_ge K 101 dX2_chooseOfSize_5 (by decide) (fun c5 => ?_) (fun c5 => ?_)
      · exact absurd c5 (by omega)
      · refine r_iload_n K dX2_chooseOfSize_8 rfl ?_
        refine r_iconst K dX2_chooseOfSize_9 ?_
        refine r_icmp_ne K 20 dX2_chooseOfSize_10 (by decide) (fun c10 => ?_) (fun c10 => ?_)
        · exact j20 c J _ _ _ h (Or.inr ⟨by omega, rfl⟩)
        · refine r_aload_n K dX2_chooseOfSize_13 rfl ?_
          refine r_iconst K dX2_chooseOfSize_14 ?_
          refine r_iload_n K dX2_chooseOfSize_15 rfl ?_
          refine r_ishl K dX2_chooseOfSize_16 ?_
          rw [zShl_1 (by omega)]
          refine rcV1i K dX2_chooseOfSize_17 c_X2_78 v_X2_consider (by first | assumption | exact hW.1 _ _ rfl | exact hW.2.2.1 _ _ _ rfl) (con h (pow_lt hi)) (by decide) (Nat.le_of_ble_eq_true rfl) ?_
          rintro _ J1 ⟨rfl, hJ1⟩
          exact j20 _ J1 _ _ _ (nxt h hJ1) (Or.inl ⟨by omega, rfl⟩)
  refine r_iconst K dX2_chooseOfSize_0 ?_
  refine r_istore_n K dX2_chooseOfSize_1 (by decide) ?_
  exact loop1 10 0 0 _ I _ _ _ rfl rfl ⟨fun _ _ _ => rfl, fun _ _ _ => rfl, rfl⟩ hR0.symm
/-- the best of the sets of at most k pairs, as they are considered -/
def bstF (f : Nat → Int) : Nat → Int × Int
  | 0 => (f 0, 0)
  | k + 1 => f1 f (k + 1) 10 0 (bstF f k)
set_option maxHeartbeats 4000000 in
set_option maxRecDepth 100000 in
theorem k_choose {k : Nat} (hW : Wd T L P) (hT : Tb I) (hF : FO I) (hk : k ≤ 3) : iX2_choose [.inr (some 50), .inl (k : Int)] T L P I hn (fun r J => r = none ∧ cPo I (bstF (Fs I) k) J) := by
  refine CT.by (by decide) (Nat.le_of_ble_eq_true rfl) fun X Y Q hQ K hv => ?_
  have nxt : ∀ {J J1 : Nat → Nat → Int} {c c' : Int × Int}, cPo I c J → cPo J c' J1 → cPo I c' J1 := fun h h' => ⟨fun k a b => (h'.1 k a b).trans (h.1 k a b), fun j a b => (h'.2.1 j a b).trans (h.2.1 j a b), h'.2.2⟩
  have loop : ∀ (d s : Nat) (z : Int) (J : Nat → Nat → Int), z = (s : Int) + 1 → s + d = k → cPo I (bstF (Fs I) s) J → RR X Y Q 0 0 16 [some (.inr (some 50)), some (.inl (k : Int)), some (.inl z)] [] T L P J hn := by
    intro d
    induction d with
    | zero =>
      intro s z J hz hd h
      have hs : s = k := by omega
      subst hs
      refine r_iload_n K dX2_choose_16 rfl ?_
      refine r_iload_n K dX2_choose_17 rfl ?_
      refine r_icmp_gt K 32 dX2_choose_18 (by decide) (fun c18 => ?_) (fun c18 => ?_)
      · exact q_vret K hQ rfl dX2_choose_32 (Nat.le_refl _) (Nat.le_refl _) (⟨rfl, rfl, rfl, rfl, rfl, h⟩)
      · exact absurd c18 (by omega)
    | succ d ih =>
      intro s z J hz hd h
      have hz : z = ((s + 1 : Nat) : Int) := by omega
      subst hz
      have hcs := k_chooseOfSize (T := T) (L := L) (P := P) (I := J) (hn := hn) (sz := s + 1) hW (h.tb hT) (h.fo hF) (by omega)
      rw [h.fs, h.2.2] at hcs
      refine r_iload_n K dX2_choose_16 rfl ?_
      refine r_iload_n K dX2_choose_17 rfl ?_
      refine r_icmp_gt K 32 dX2_choose_18 (by decide) (fun c18 => ?_) (fun c18 => ?_)
      · exact absurd c18 (by omega)
      · refine r_aload_n K dX2_choose_21 rfl ?_
        refine r_iload_n K dX2_choose_22 rfl ?_
        refine rcV1i K dX2_choose_23 c_X2_74 v_X2_chooseOfSize (by first | assumption | exact hW.1 _ _ rfl | exact hW.2.2.1 _ _ _ rfl) hcs (by decide) (Nat.le_of_ble_eq_true rfl) ?_
        rintro _ J1 ⟨rfl, hJ1⟩
        refine r_iinc K dX2_choose_26 (by decide) rfl ?_
        refine r_goto K 16 dX2_choose_29 (by decide) ?_
        exact ih (s + 1) _ J1 (by omega) (by omega) (nxt h hJ1)
  refine r_aload_n K dX2_choose_0 rfl ?_
  refine r_aload_n K dX2_choose_1 rfl ?_
  refine r_iconst K dX2_choose_2 ?_
  refine rcV1i K dX2_choose_3 c_X2_64 v_X2_sentWith (by first | assumption | exact hW.1 _ _ rfl | exact hW.2.2.1 _ _ _ rfl) (k_sentWith (S := 0) hW hT (by decide) hF) (by decide) (Nat.le_of_ble_eq_true rfl) ?_
  rintro _ J1 ⟨rfl, hJ1⟩
  refine r_putI K dX2_choose_6 f_X2_68 rfl rfl (Or.inl rfl) (by first | assumption | exact hW.1 _ _ rfl | exact hW.2.2.1 _ _ _ rfl) ?_
  refine r_aload_n K dX2_choose_9 rfl ?_
  refine r_iconst K dX2_choose_10 ?_
  refine r_putI K dX2_choose_11 f_X2_71 rfl rfl (Or.inl rfl) (by first | assumption | exact hW.1 _ _ rfl | exact hW.2.2.1 _ _ _ rfl) ?_
  refine r_iconst K dX2_choose_14 ?_
  refine r_istore_n K dX2_choose_15 (by decide) ?_
  exact loop k 0 1 _ rfl (by omega) ⟨fun c c1 c2 => by rw [mI_ne c1, mI_ne c1]; exact hJ1 c c2, fun j j1 j2 => by rw [mI_nj j2, mI_nj j1, hJ1 50 (by decide)], by rw [mI_nj (by decide), mI_eq, mI_eq]; rfl⟩
end SEN
