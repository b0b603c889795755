section MOA
variable {T L : Nat → Nat} {P : Nat → Nat → Option Nat} {I : Nat → Nat → Int} {hn : Nat}
abbrev wyM (I : Nat → Nat → Int) (a b : Nat) : Int := wayB (sM I a b) (bM I a b) (mN I b)
abbrev fitM (I : Nat → Nat → Int) (a : Nat) : Prop := I 54 24 = I 57 a ∧ ck (aBy I) (I 54 24).toNat = ck (mBy I a) (I 57 a).toNat
/-- an update is begun, for the model, but for its lists -/
def mu5 (I : Nat → Nat → Int) (b : Nat) (w : Int) (kp : Nat → Bool) (s f : Nat → Int) (J : Nat → Nat → Int) : Prop := (∀ c, c ≠ 54 → c < 58 ∨ (65 < c ∧ c ≠ 72) → J c = I c) ∧ (∀ j, j ≠ 10 → j ≠ 11 → j ≠ 27 → j ≠ 28 → j ≠ 31 → J 54 j = I 54 j) ∧ J 54 27 = cn kp 120 ∧ J 54 28 = mN I b ∧ J 54 31 = w ∧ (∀ x, x < mN I b → J 64 x = s x ∧ J 65 x = f x) ∧ ∀ p, p < 120 → J 72 p = if kp p = true then 1 else 0
def mu6 (I : Nat → Nat → Int) (b : Nat) (w : Int) (kp : Nat → Bool) (s f : Nat → Int) (n : Nat) (J : Nat → Nat → Int) : Prop := (∀ c, c ≠ 54 → c < 58 ∨ (65 < c ∧ c ≠ 72 ∧ c ≠ 78 ∧ c ≠ 79) → J c = I c) ∧ (∀ j, j ≠ 10 → j ≠ 11 → j ≠ 27 → j ≠ 28 → j ≠ 31 → J 54 j = I 54 j) ∧ J 54 27 = cn kp 120 ∧ J 54 28 = mN I b ∧ J 54 31 = w ∧ (∀ x, x < mN I b → J 64 x = s x ∧ J 65 x = f x) ∧ (∀ p, p < 120 → J 72 p = if kp p = true then 1 else 0) ∧ ∀ p, p < n → (kp p = true → J 78 (cn kp p).toNat = p ∧ J 79 p = cn kp p) ∧ (kp p = false → J 79 p = -1)
def muP (I : Nat → Nat → Int) (b : Nat) (w : Int) (kp : Nat → Bool) (s f : Nat → Int) (J : Nat → Nat → Int) : Prop := (∀ c, c ≠ 54 → c < 58 ∨ (65 < c ∧ c ≠ 72 ∧ (c < 75 ∨ 79 < c)) → J c = I c) ∧ (∀ j, j ≠ 10 → j ≠ 11 → j < 26 ∨ 31 < j → J 54 j = I 54 j) ∧ J 54 26 = 0 ∧ J 54 27 = cn kp 120 ∧ J 54 28 = mN I b ∧ J 54 29 = 1 ∧ J 54 30 = 0 ∧ J 54 31 = w ∧ (∀ x, x < mN I b → J 75 x = s x ∧ J 76 x = f x ∧ J 77 x = mBy I b x) ∧ ∀ p, p < 120 → (kp p = true → J 78 (cn kp p).toNat = p ∧ J 79 p = cn kp p) ∧ (kp p = false → J 79 p = -1)
def muR (I : Nat → Nat → Int) (a b : Int) (r : Option PV) (J : Nat → Nat → Int) : Prop := (¬ (hasM I a ∧ hasM I b) ∧ r = some (.inl (-1)) ∧ J = I) ∨ ((hasM I a ∧ hasM I b) ∧ I 54 29 ≠ 0 ∧ r = some (.inl (-2)) ∧ J = I) ∨ ((hasM I a ∧ hasM I b) ∧ I 54 29 = 0 ∧ ¬ fitM I a.toNat ∧ r = some (.inl (-3)) ∧ J = I) ∨ ((hasM I a ∧ hasM I b) ∧ I 54 29 = 0 ∧ fitM I a.toNat ∧ r = some (.inl (cn (kpM I a.toNat b.toNat (wyM I a.toNat b.toNat)) 120 + 2 + 2 * (mN I b.toNat : Int))) ∧ muP I b.toNat (wyM I a.toNat b.toNat) (kpM I a.toNat b.toNat (wyM I a.toNat b.toNat)) (sM I a.toNat b.toNat) (bM I a.toNat b.toNat) J)
abbrev KU (X : Cx) (Y : SY) : Prop := OK X Y cX8_update yX8_update.cls 6 (some .int) (rm_ 4 102 0 0) yX8_update.name
set_option maxHeartbeats 4000000 in
set_option maxRecDepth 100000 in
theorem mu2 {X : Cx} {Y : SY} {Q : State → Prop} {post : Po} (K : KU X Y) (hQ : Q = QM X Y post 0 0) {b : Nat} {va w : Int} {kp : Nat → Bool} {s f : Nat → Int} {g3 : Option PV} (hW : Wd T L P) (hV : MV I) (hb5 : b < 5) (hpost : ∀ (J : Nat → Nat → Int), muP I b w kp s f J → post (some (.inl (cn kp 120 + 2 + 2 * (mN I b : Int)))) T L P J hn) (J6 : Nat → Nat → Int) (h6 : mu6 I b w kp s f 120 J6) : ∀ (d q : Nat) (g4 : Option PV) (J : Nat → Nat → Int), q + d = mN I b → (∀ c, c ≠ 75 → c ≠ 76 → c ≠ 77 → J c = J6 c) → (∀ x, x < q → J 75 x = s x ∧ J 76 x = f x ∧ J 77 x = mBy I b x) → RR X Y Q 0 0 184 [some (.inr (some 54)), some (.inl va), some (.inl (b : Int)), g3, g4, some (.inl (q : Int))] [] T L P J hn := by
  have l57 : L 57 = 5 := hW.2.1 57 5 rfl (by decide)
  have l56 : L 56 = 600 := hW.2.1 56 600 rfl (by decide)
  have l73 : L 73 = 120 := hW.2.1 73 120 rfl (by decide)
  have l74 : L 74 = 120 := hW.2.1 74 120 rfl (by decide)
  have l75 : L 75 = 120 := hW.2.1 75 120 rfl (by decide)
  have l76 : L 76 = 120 := hW.2.1 76 120 rfl (by decide)
  have l77 : L 77 = 120 := hW.2.1 77 120 rfl (by decide)
  have l78 : L 78 = 120 := hW.2.1 78 120 rfl (by decide)
  have l79 : L 79 = 120 := hW.2.1 79 120 rfl (by decide)
  have l64 : L 64 = 120 := hW.2.1 64 120 rfl (by decide)
  have l65 : L 65 = 120 := hW.2.1 65 120 rfl (by decide)
  have l72 : L 72 = 120 := hW.2.1 72 120 rfl (by decide)
  have hn1 := (hV.n hb5).2
  have hcn := cn_in kp 120
  obtain ⟨a1, a2, a3, a4, a5, a6, a7, a8⟩ := h6
  intro d
  induction d with
  | zero =>
    intro q g4 J hd g1 g2
    have e54 : J 54 = J6 54 := g1 54 (by decide) (by decide) (by decide)
    refine r_iload K dX8_update_184 rfl ?_
    refine r_aload_n K dX8_update_186 rfl ?_
    refine r_getI K dX8_update_187 f_X8_176 rfl (by first | assumption | exact hW.1 _ _ rfl | exact hW.2.2.1 _ _ _ rfl) ?_
    rw [e54, a4]
    refine r_icmp_ge K 241 dX8_update_190 (by decide) (fun c190 => ?_) (fun c190 => ?_)
    · refine r_aload_n K dX8_update_241 rfl ?_
      refine r_iconst K dX8_update_242 ?_
      refine r_putI K dX8_update_243 f_X8_166 rfl rfl (Or.inr ⟨rfl, by first | exact Or.inl rfl | exact Or.inr rfl⟩) (by first | assumption | exact hW.1 _ _ rfl | exact hW.2.2.1 _ _ _ rfl) ?_
      refine r_aload_n K dX8_update_246 rfl ?_
      refine r_iconst K dX8_update_247 ?_
      refine r_putI K dX8_update_248 f_X8_170 rfl rfl (Or.inr ⟨rfl, by first | exact Or.inl rfl | exact Or.inr rfl⟩) (by first | assumption | exact hW.1 _ _ rfl | exact hW.2.2.1 _ _ _ rfl) ?_
      refine r_aload_n K dX8_update_251 rfl ?_
      refine r_iconst K dX8_update_252 ?_
      refine r_putI K dX8_update_253 f_X8_190 rfl rfl (Or.inl rfl) (by first | assumption | exact hW.1 _ _ rfl | exact hW.2.2.1 _ _ _ rfl) ?_
      refine r_aload_n K dX8_update_256 rfl ?_
      refine rcV0p K dX8_update_257 c_X8_193 v_X8_allWrites (by first | assumption | exact hW.1 _ _ rfl | exact hW.2.2.1 _ _ _ rfl) (k_X8_allWrites hW (by simp only [mI_row, Nat.reduceEqDiff, if_false, if_true, e54, a3]; omega) (by simp only [mI_row, Nat.reduceEqDiff, if_false, if_true, e54, a4]; omega)) (by decide) (Nat.le_of_ble_eq_true rfl) ?_
      have e : mAll (mI (mI (mI J 54 29 1) 54 30 0) 54 26 0) = cn kp 120 + 2 + 2 * (mN I b : Int) := by
        rw [mAll, mI_nj (by decide), mI_nj (by decide), mI_nj (by decide), mI_nj (by decide), mI_nj (by decide), mI_nj (by decide), e54, a3, a4]
      rw [e]
      exact q_iret K hQ rfl dX8_update_260 (Nat.le_refl _) (Nat.le_refl _) (hpost _ ⟨fun c c1 c2 => by rw [mI_ne c1, mI_ne c1, mI_ne c1, g1 c (by omega) (by omega) (by omega)]; exact a1 c c1 (by omega), fun j j1 j2 j3 => by rw [mI_nj (by omega), mI_nj (by omega), mI_nj (by omega), e54]; exact a2 j j1 j2 (by omega) (by omega) (by omega), mI_eq, by rw [mI_nj (by decide), mI_nj (by decide), mI_nj (by decide), e54]; exact a3, by rw [mI_nj (by decide), mI_nj (by decide), mI_nj (by decide), e54]; exact a4, by rw [mI_nj (by decide), mI_nj (by decide), mI_eq], by rw [mI_nj (by decide), mI_eq], by rw [mI_nj (by decide), mI_nj (by decide), mI_nj (by decide), e54]; exact a5, fun x hx => by rw [mI_ne (by decide), mI_ne (by decide), mI_ne (by decide), mI_ne (by decide), mI_ne (by decide), mI_ne (by decide), mI_ne (by decide), mI_ne (by decide), mI_ne (by decide)]; exact g2 x (by omega), fun p hp => by rw [mI_ne (by decide), mI_ne (by decide), mI_ne (by decide), mI_ne (by decide), mI_ne (by decide), mI_ne (by decide), g1 78 (by decide) (by decide) (by decide), g1 79 (by decide) (by decide) (by decide)]; exact a8 p hp⟩)
    · exact absurd c190 (by omega)
  | succ d ih =>
    intro q g4 J hd g1 g2
    have e54 : J 54 = J6 54 := g1 54 (by decide) (by decide) (by decide)
    have e64 : J 64 q = s q := by rw [g1 64 (by decide) (by decide) (by decide)]; exact (a6 q (by omega)).1
    have e65 : J 65 q = f q := by rw [g1 65 (by decide) (by decide) (by decide)]; exact (a6 q (by omega)).2
    have e56 : J 56 = I 56 := by rw [g1 56 (by decide) (by decide) (by decide)]; exact a1 56 (by decide) (by decide)
    have e57 : J 57 = I 57 := by rw [g1 57 (by decide) (by decide) (by decide)]; exact a1 57 (by decide) (by decide)
    have hVJ : MV (mI (mI J 75 q (s q)) 76 q (f q)) := hV.cong (by rw [mI_ne (by decide), mI_ne (by decide)]; exact e56) (by rw [mI_ne (by decide), mI_ne (by decide)]; exact e57)
    have eB : mBy (mI (mI J 75 q (s q)) 76 q (f q)) b = mBy I b := by unfold mBy; rw [mI_ne (by decide), mI_ne (by decide), e56]
    refine r_iload K dX8_update_184 rfl ?_
    refine r_aload_n K dX8_update_186 rfl ?_
    refine r_getI K dX8_update_187 f_X8_176 rfl (by first | assumption | exact hW.1 _ _ rfl | exact hW.2.2.1 _ _ _ rfl) ?_
    rw [e54, a4]
    refine r_icmp_ge K 241 dX8_update_190 (by decide) (fun c190 => ?_) (fun c190 => ?_)
    · exact absurd c190 (by omega)
    · refine r_aload_n K dX8_update_193 rfl ?_
      refine r_getR K dX8_update_194 f_X8_72 rfl (by first | assumption | exact hW.1 _ _ rfl | exact hW.2.2.1 _ _ _ rfl) (by first | assumption | exact hW.1 _ _ rfl | exact hW.2.2.1 _ _ _ rfl) ?_
      refine r_iload K dX8_update_197 rfl ?_
      refine r_aload_n K dX8_update_199 rfl ?_
      refine r_getR K dX8_update_200 f_X8_38 rfl (by first | assumption | exact hW.1 _ _ rfl | exact hW.2.2.1 _ _ _ rfl) (by first | assumption | exact hW.1 _ _ rfl | exact hW.2.2.1 _ _ _ rfl) ?_
      refine r_iload K dX8_update_203 rfl ?_
      refine r_iald K dX8_update_205 (by first | assumption | exact hW.1 _ _ rfl | exact hW.2.2.1 _ _ _ rfl) (by omega) (by omega) ?_
      rw [Int.toNat_natCast, e64]
      refine r_iast K dX8_update_206 (by first | assumption | exact hW.1 _ _ rfl | exact hW.2.2.1 _ _ _ rfl) (by omega) (by omega) ?_
      rw [Int.toNat_natCast]
      refine r_aload_n K dX8_update_207 rfl ?_
      refine r_getR K dX8_update_208 f_X8_75 rfl (by first | assumption | exact hW.1 _ _ rfl | exact hW.2.2.1 _ _ _ rfl) (by first | assumption | exact hW.1 _ _ rfl | exact hW.2.2.1 _ _ _ rfl) ?_
      refine r_iload K dX8_update_211 rfl ?_
      refine r_aload_n K dX8_update_213 rfl ?_
      refine r_getR K dX8_update_214 f_X8_41 rfl (by first | assumption | exact hW.1 _ _ rfl | exact hW.2.2.1 _ _ _ rfl) (by first | assumption | exact hW.1 _ _ rfl | exact hW.2.2.1 _ _ _ rfl) ?_
      refine r_iload K dX8_update_217 rfl ?_
      refine r_iald K dX8_update_219 (by first | assumption | exact hW.1 _ _ rfl | exact hW.2.2.1 _ _ _ rfl) (by omega) (by omega) ?_
      rw [mI_ne (by decide), Int.toNat_natCast, e65]
      refine r_iast K dX8_update_220 (by first | assumption | exact hW.1 _ _ rfl | exact hW.2.2.1 _ _ _ rfl) (by omega) (by omega) ?_
      rw [Int.toNat_natCast]
      refine r_aload_n K dX8_update_221 rfl ?_
      refine r_getR K dX8_update_222 f_X8_78 rfl (by first | assumption | exact hW.1 _ _ rfl | exact hW.2.2.1 _ _ _ rfl) (by first | assumption | exact hW.1 _ _ rfl | exact hW.2.2.1 _ _ _ rfl) ?_
      refine r_iload K dX8_update_225 rfl ?_
      refine r_aload_n K dX8_update_227 rfl ?_
      refine r_iload_n K dX8_update_228 rfl ?_
      refine r_iload K dX8_update_229 rfl ?_
      refine rcV2p K dX8_update_231 c_X8_121 v_X8_byteOf (by first | assumption | exact hW.1 _ _ rfl | exact hW.2.2.1 _ _ _ rfl) (k_byteOf (v := b) (i := q) hW hVJ (by omega)) (by decide) (Nat.le_of_ble_eq_true rfl) ?_
      rw [eB]
      refine r_iast K dX8_update_234 (by first | assumption | exact hW.1 _ _ rfl | exact hW.2.2.1 _ _ _ rfl) (by omega) (by omega) ?_
      rw [Int.toNat_natCast]
      refine r_iinc K dX8_update_235 (by decide) rfl ?_
      refine r_goto K 184 dX8_update_238 (by decide) ?_
      refine ih (q + 1) _ _ (by omega) (fun c c1 c2 c3 => by rw [mI_ne c3, mI_ne c2, mI_ne c1]; exact g1 c c1 c2 c3) (fun x hx => ?_)
      rw [mI_ne (by decide), mI_ne (by decide), mI_row, mI_ne (by decide), mI_row, mI_ne (by decide), mI_row, mI_ne (by decide), mI_ne (by decide)]
      by_cases e : x = q
      · rw [if_pos e, if_pos e, if_pos e, e]; exact ⟨rfl, rfl, rfl⟩
      · rw [if_neg e, if_neg e, if_neg e]; exact g2 x (by omega)
set_option maxHeartbeats 4000000 in
set_option maxRecDepth 100000 in
theorem mu1 {X : Cx} {Y : SY} {Q : State → Prop} {post : Po} (K : KU X Y) (hQ : Q = QM X Y post 0 0) {b : Nat} {va w : Int} {kp : Nat → Bool} {s f : Nat → Int} {g3 : Option PV} (hW : Wd T L P) (hV : MV I) (hb5 : b < 5) (hpost : ∀ (J : Nat → Nat → Int), muP I b w kp s f J → post (some (.inl (cn kp 120 + 2 + 2 * (mN I b : Int)))) T L P J hn) : ∀ (d p : Nat) (J : Nat → Nat → Int), p + d = 120 → mu6 I b w kp s f p J → RR X Y Q 0 0 126 [some (.inr (some 54)), some (.inl va), some (.inl (b : Int)), g3, some (.inl (cn kp p)), some (.inl (p : Int))] [] T L P J hn := by
  have l57 : L 57 = 5 := hW.2.1 57 5 rfl (by decide)
  have l56 : L 56 = 600 := hW.2.1 56 600 rfl (by decide)
  have l73 : L 73 = 120 := hW.2.1 73 120 rfl (by decide)
  have l74 : L 74 = 120 := hW.2.1 74 120 rfl (by decide)
  have l75 : L 75 = 120 := hW.2.1 75 120 rfl (by decide)
  have l76 : L 76 = 120 := hW.2.1 76 120 rfl (by decide)
  have l77 : L 77 = 120 := hW.2.1 77 120 rfl (by decide)
  have l78 : L 78 = 120 := hW.2.1 78 120 rfl (by decide)
  have l79 : L 79 = 120 := hW.2.1 79 120 rfl (by decide)
  have l64 : L 64 = 120 := hW.2.1 64 120 rfl (by decide)
  have l65 : L 65 = 120 := hW.2.1 65 120 rfl (by decide)
  have l72 : L 72 = 120 := hW.2.1 72 120 rfl (by decide)
  intro d
  induction d with
  | zero =>
    intro p J hd h6
    have hp : p = 120 := by omega
    subst hp
    refine r_iload K dX8_update_126 rfl ?_
    refine r_bipush K dX8_update_128 ?_
    refine r_icmp_ge K 181 dX8_update_130 (by decide) (fun c130 => ?_) (fun c130 => ?_)
    · refine r_iconst K dX8_update_181 ?_
      refine r_istore K dX8_update_182 (by decide) ?_
      exact mu2 K hQ hW hV hb5 hpost J h6 (mN I b) 0 _ J (by omega) (fun _ _ _ _ => rfl) (fun x hx => absurd hx (by omega))
    · exact absurd c130 (by omega)
  | succ d ih =>
    intro p J hd h6
    obtain ⟨a1, a2, a3, a4, a5, a6, a7, a8⟩ := h6
    have hcn := cn_in kp p
    obtain ⟨m, hm⟩ : ∃ m : Nat, cn kp p = m := ⟨(cn kp p).toNat, by omega⟩
    have e72 := a7 p (by omega)
    have hT : kp p = true → mu6 I b w kp s f (p + 1) (mI (mI (mI J 79 p (-1)) 78 (cn kp p).toNat (p : Int)) 79 p (cn kp p)) := by
      intro hk
      have g78 : ∀ x, mI (mI (mI J 79 p (-1)) 78 (cn kp p).toNat (p : Int)) 79 p (cn kp p) 78 x = if x = (cn kp p).toNat then (p : Int) else J 78 x := fun x => by rw [mI_ne (by decide), mI_row, mI_ne (by decide)]
      have g79 : ∀ x, mI (mI (mI J 79 p (-1)) 78 (cn kp p).toNat (p : Int)) 79 p (cn kp p) 79 x = if x = p then cn kp p else if x = p then -1 else J 79 x := fun x => by rw [mI_row, mI_ne (by decide), mI_row]
      have gc : ∀ c, c ≠ 78 → c ≠ 79 → mI (mI (mI J 79 p (-1)) 78 (cn kp p).toNat (p : Int)) 79 p (cn kp p) c = J c := fun c c1 c2 => by rw [mI_ne c2, mI_ne c1, mI_ne c2]
      refine ⟨fun c c1 c2 => by rw [gc c (by omega) (by omega)]; exact a1 c c1 c2, by rw [gc 54 (by decide) (by decide)]; exact a2, by rw [gc 54 (by decide) (by decide)]; exact a3, by rw [gc 54 (by decide) (by decide)]; exact a4, by rw [gc 54 (by decide) (by decide)]; exact a5, by rw [gc 64 (by decide) (by decide), gc 65 (by decide) (by decide)]; exact a6, by rw [gc 72 (by decide) (by decide)]; exact a7, fun q hq => ?_⟩
      rw [g78, g79]
      by_cases e : q = p
      · subst e
        rw [if_pos rfl, if_pos rfl]
        exact ⟨fun _ => ⟨rfl, rfl⟩, fun h => by rw [hk] at h; cases h⟩
      · rw [if_neg e, if_neg e]
        refine ⟨fun h => ⟨?_, ((a8 q (by omega)).1 h).2⟩, (a8 q (by omega)).2⟩
        have hlt := cn_lt (f := kp) (a := q) (b := p) (by omega) h
        have hq0 := cn_in kp q
        rw [if_neg (by omega)]
        exact ((a8 q (by omega)).1 h).1
    have hF : kp p = false → mu6 I b w kp s f (p + 1) (mI J 79 p (-1)) := by
      intro hk
      have gc : ∀ c, c ≠ 79 → mI J 79 p (-1) c = J c := fun c c2 => by rw [mI_ne c2]
      refine ⟨fun c c1 c2 => by rw [gc c (by omega)]; exact a1 c c1 c2, by rw [gc 54 (by decide)]; exact a2, by rw [gc 54 (by decide)]; exact a3, by rw [gc 54 (by decide)]; exact a4, by rw [gc 54 (by decide)]; exact a5, by rw [gc 64 (by decide), gc 65 (by decide)]; exact a6, by rw [gc 72 (by decide)]; exact a7, fun q hq => ?_⟩
      rw [gc 78 (by decide), mI_row]
      by_cases e : q = p
      · subst e
        rw [if_pos rfl]
        exact ⟨fun h => (by rw [hk] at h; cases h), fun _ => rfl⟩
      · rw [if_neg e]
        exact a8 q (by omega)
    refine r_iload K dX8_update_126 rfl ?_
    refine r_bipush K dX8_update_128 ?_
    refine r_icmp_ge K 181 dX8_update_130 (by decide) (fun c130 => ?_) (fun c130 => ?_)
    · exact absurd c130 (by omega)
    · refine r_aload_n K dX8_update_133 rfl ?_
      refine r_getR K dX8_update_134 f_X8_84 rfl (by first | assumption | exact hW.1 _ _ rfl | exact hW.2.2.1 _ _ _ rfl) (by first | assumption | exact hW.1 _ _ rfl | exact hW.2.2.1 _ _ _ rfl) ?_
      refine r_iload K dX8_update_137 rfl ?_
      refine r_iconst K dX8_update_139 ?_
      refine r_iast K dX8_update_140 (by first | assumption | exact hW.1 _ _ rfl | exact hW.2.2.1 _ _ _ rfl) (by omega) (by omega) ?_
      rw [Int.toNat_natCast]
      refine r_aload_n K dX8_update_141 rfl ?_
      refine r_getR K dX8_update_142 f_X8_62 rfl (by first | assumption | exact hW.1 _ _ rfl | exact hW.2.2.1 _ _ _ rfl) (by first | assumption | exact hW.1 _ _ rfl | exact hW.2.2.1 _ _ _ rfl) ?_
      refine r_iload K dX8_update_145 rfl ?_
      refine r_zald K dX8_update_147 (by first | assumption | exact hW.1 _ _ rfl | exact hW.2.2.1 _ _ _ rfl) (by omega) (by omega) ?_
      rw [mI_ne (by decide), Int.toNat_natCast, e72]
      refine r_if_ne K 154 dX8_update_148 (by decide) (fun c148 => ?_) (fun c148 => ?_)
      · have hk : kp p = true := by
          cases h : kp p with
          | true => rfl
          | false => rw [h] at c148; exact absurd rfl c148
        have hs : cn kp (p + 1) = cn kp p + 1 := by rw [cn, hk]; rfl
        refine r_aload_n K dX8_update_154 rfl ?_
        refine r_getR K dX8_update_155 f_X8_81 rfl (by first | assumption | exact hW.1 _ _ rfl | exact hW.2.2.1 _ _ _ rfl) (by first | assumption | exact hW.1 _ _ rfl | exact hW.2.2.1 _ _ _ rfl) ?_
        refine r_iload K dX8_update_158 rfl ?_
        refine r_iload K dX8_update_160 rfl ?_
        refine r_iast K dX8_update_162 (by first | assumption | exact hW.1 _ _ rfl | exact hW.2.2.1 _ _ _ rfl) (by omega) (by omega) ?_
        refine r_aload_n K dX8_update_163 rfl ?_
        refine r_getR K dX8_update_164 f_X8_84 rfl (by first | assumption | exact hW.1 _ _ rfl | exact hW.2.2.1 _ _ _ rfl) (by first | assumption | exact hW.1 _ _ rfl | exact hW.2.2.1 _ _ _ rfl) ?_
        refine r_iload K dX8_update_167 rfl ?_
        refine r_iload K dX8_update_169 rfl ?_
        refine r_iast K dX8_update_171 (by first | assumption | exact hW.1 _ _ rfl | exact hW.2.2.1 _ _ _ rfl) (by omega) (by omega) ?_
        rw [Int.toNat_natCast]
        refine r_iinc K dX8_update_172 (by decide) rfl ?_
        refine r_iinc K dX8_update_175 (by decide) rfl ?_
        refine r_goto K 126 dX8_update_178 (by decide) ?_
        first | (rw [← hs]; exact ih (p + 1) _ (by omega) (hT hk)) | (rw [← hs]; exact ih (p + 1) _ (by omega) (hF hk))
      · have hk : kp p = false := by
          cases h : kp p with
          | false => rfl
          | true => rw [h] at c148; exact absurd c148 (by decide)
        have hs : cn kp (p + 1) = cn kp p := by rw [cn, hk]; simp
        refine r_goto K 175 dX8_update_151 (by decide) ?_
        refine r_iinc K dX8_update_175 (by decide) rfl ?_
        refine r_goto K 126 dX8_update_178 (by decide) ?_
        first | (rw [← hs]; exact ih (p + 1) _ (by omega) (hT hk)) | (rw [← hs]; exact ih (p + 1) _ (by omega) (hF hk))
set_option maxHeartbeats 4000000 in
set_option maxRecDepth 100000 in
theorem k_X8_update {a b : Int} (hW : Wd T L P) (hV : MV I) (h24 : 0 ≤ I 54 24 ∧ I 54 24 ≤ 120) (h73 : ∀ j, j < 120 → -128 ≤ I 73 j ∧ I 73 j < 128) (h29 : I 54 29 = 0 ∨ I 54 29 = 1) : iX8_update [.inr (some 54), .inl a, .inl b] T L P I hn (muR I a b) := by
  refine CT.by (by decide) (Nat.le_of_ble_eq_true rfl) fun X Y Q hQ K hv => ?_
  have l57 : L 57 = 5 := hW.2.1 57 5 rfl (by decide)
  have l56 : L 56 = 600 := hW.2.1 56 600 rfl (by decide)
  have l73 : L 73 = 120 := hW.2.1 73 120 rfl (by decide)
  have l74 : L 74 = 120 := hW.2.1 74 120 rfl (by decide)
  have l75 : L 75 = 120 := hW.2.1 75 120 rfl (by decide)
  have l76 : L 76 = 120 := hW.2.1 76 120 rfl (by decide)
  have l77 : L 77 = 120 := hW.2.1 77 120 rfl (by decide)
  have l78 : L 78 = 120 := hW.2.1 78 120 rfl (by decide)
  have l79 : L 79 = 120 := hW.2.1 79 120 rfl (by decide)
  have l64 : L 64 = 120 := hW.2.1 64 120 rfl (by decide)
  have l65 : L 65 = 120 := hW.2.1 65 120 rfl (by decide)
  have l72 : L 72 = 120 := hW.2.1 72 120 rfl (by decide)
  have hQ0 := hQ
  have main : ∀ (a0 b0 : Nat), a = a0 → b = b0 → a0 < 5 → b0 < 5 → hasM I a → hasM I b → I 54 29 = 0 → fitM I a0 → RR X Y Q 0 0 56 [some (.inr (some 54)), some (.inl a), some (.inl b), none, none, none] [] T L P I hn := by
    intro a0 b0 ea eb a05 b05 h1 h2 h3 h4
    subst ea eb
    have hpost : ∀ (J : Nat → Nat → Int), muP I b0 (wyM I a0 b0) (kpM I a0 b0 (wyM I a0 b0)) (sM I a0 b0) (bM I a0 b0) J → (fun (r : Option PV) (T' L' : Nat → Nat) (P' : Nat → Nat → Option Nat) (I' : Nat → Nat → Int) (hn' : Nat) => T' = T ∧ L' = L ∧ P' = P ∧ hn' = hn ∧ muR I (a0 : Int) (b0 : Int) r I') (some (.inl (cn (kpM I a0 b0 (wyM I a0 b0)) 120 + 2 + 2 * (mN I b0 : Int)))) T L P J hn := fun J hJ => ⟨rfl, rfl, rfl, rfl, Or.inr (Or.inr (Or.inr ⟨⟨h1, h2⟩, h3, h4, by rw [Int.toNat_natCast, Int.toNat_natCast], by rw [Int.toNat_natCast, Int.toNat_natCast]; exact hJ⟩))⟩
    have hfin : ∀ (J : Nat → Nat → Int) (g3 : Option PV), mu5 I b0 (wyM I a0 b0) (kpM I a0 b0 (wyM I a0 b0)) (sM I a0 b0) (bM I a0 b0) J → RR X Y Q 0 0 120 [some (.inr (some 54)), some (.inl (a0 : Int)), some (.inl (b0 : Int)), g3, none, none] [] T L P J hn := by
      intro J g3 h5
      refine r_iconst K dX8_update_120 ?_
      refine r_istore K dX8_update_121 (by decide) ?_
      refine r_iconst K dX8_update_123 ?_
      refine r_istore K dX8_update_124 (by decide) ?_
      exact mu1 K hQ hW hV b05 hpost 120 0 J rfl ⟨fun c c1 c2 => h5.1 c c1 (by omega), h5.2.1, h5.2.2.1, h5.2.2.2.1, h5.2.2.2.2.1, h5.2.2.2.2.2.1, h5.2.2.2.2.2.2, fun p hp => absurd hp (by omega)⟩
    refine r_aload_n K dX8_update_56 rfl ?_
    refine r_iload_n K dX8_update_57 rfl ?_
    refine r_iload_n K dX8_update_58 rfl ?_
    refine rcV2i K dX8_update_59 c_X8_153 v_X8_makes (by first | assumption | exact hW.1 _ _ rfl | exact hW.2.2.1 _ _ _ rfl) (k_makes (a := a0) (b := b0) (m := mN I a0) (n := mN I b0) hW hV a05 b05 (hV.n a05).1 (hV.n b05).1 (hV.n a05).2 (hV.n b05).2) (by decide) (Nat.le_of_ble_eq_true rfl) ?_
    rintro _ J1 ⟨rfl, N, n1, n2, hfr, n3, n4, n5⟩
    have hn120 : mN I b0 ≤ 120 := (hV.n b05).2
    have hN1 : N ≤ 120 := by have := pos_ge (A := mBy I a0) (B := mBy I b0) (m := mN I a0) hn120 n2 N (Nat.le_refl _); omega
    have hm120 : mN I a0 ≤ 120 := (hV.n a05).2
    have e57 : J1 57 b0 = (mN I b0 : Nat) := by rw [hfr.1 57 (by decide) (by decide)]; exact (hV.n b05).1
    rw [Nat.add_zero, n1] at n5
    obtain ⟨w, hw⟩ : ∃ w, w = wyM I a0 b0 := ⟨_, rfl⟩
    have hw01 : w = 0 ∨ w = 1 := by rw [hw]; unfold wyM wayB; split <;> simp
    rw [← hw] at hfin
    refine r_aload_n K dX8_update_62 rfl ?_
    refine r_aload_n K dX8_update_63 rfl ?_
    refine r_getR K dX8_update_64 f_X8_16 rfl (by first | assumption | exact hW.1 _ _ rfl | exact hW.2.2.1 _ _ _ rfl) (by first | assumption | exact hW.1 _ _ rfl | exact hW.2.2.1 _ _ _ rfl) ?_
    refine r_iload_n K dX8_update_67 rfl ?_
    refine r_iald K dX8_update_68 (by first | assumption | exact hW.1 _ _ rfl | exact hW.2.2.1 _ _ _ rfl) (by omega) (by omega) ?_
    rw [Int.toNat_natCast, e57]
    refine r_putI K dX8_update_69 f_X8_176 rfl rfl (Or.inl rfl) (by first | assumption | exact hW.1 _ _ rfl | exact hW.2.2.1 _ _ _ rfl) ?_
    obtain ⟨J1', hJ1'⟩ : ∃ J, J = mI J1 54 28 ((mN I b0 : Nat) : Int) := ⟨_, rfl⟩
    rw [← hJ1']
    have q28 : J1' 54 28 = (mN I b0 : Nat) := by rw [hJ1', mI_eq]
    have q54 : ∀ j, j ≠ 10 → j ≠ 11 → j ≠ 28 → J1' 54 j = I 54 j := fun j j1 j2 j3 => by rw [hJ1', mI_nj j3]; exact hfr.2.1 j j1 j2
    have qc : ∀ c, c ≠ 54 → c < 58 ∨ 65 < c → J1' c = I c := fun c c1 c2 => by rw [hJ1', mI_ne c1]; exact hfr.1 c c1 c2
    have qs : ∀ x, x < mN I b0 → J1' 64 x = sM I a0 b0 x ∧ J1' 65 x = bM I a0 b0 x := fun x hx => by rw [hJ1', mI_ne (by decide), mI_ne (by decide)]; exact n5 x hx
    have hkp : ∀ w, kpt (J1' 64) (J1' 65) w (mN I b0) = kpM I a0 b0 w := kpt_of (fun x hx => ⟨(qs x hx).1, (qs x hx).2⟩)
    refine r_aload_n K dX8_update_72 rfl ?_
    refine r_aload_n K dX8_update_73 rfl ?_
    refine r_getI K dX8_update_74 f_X8_176 rfl (by first | assumption | exact hW.1 _ _ rfl | exact hW.2.2.1 _ _ _ rfl) ?_
    rw [q28]
    refine r_iconst K dX8_update_77 ?_
    refine rcV2i K dX8_update_78 c_X8_159 v_X8_keeps (by first | assumption | exact hW.1 _ _ rfl | exact hW.2.2.1 _ _ _ rfl) (k_keeps (n := mN I b0) (w := 0) (I := J1') hW hn120 (by decide) (by intro x hx; rw [(qs x hx).1]; have hsm := sM_in (a := 0) (b := 0) hn120 hm120 n1 n2 hx; refine ⟨hsm.1, Int.lt_of_lt_of_le hsm.2.1 ?_⟩; omega)) (by decide) (Nat.le_of_ble_eq_true rfl) ?_
    rintro _ J2 ⟨rfl, hk2⟩
    rw [hkp]
    refine r_istore_n K dX8_update_81 (by decide) ?_
    refine r_aload_n K dX8_update_82 rfl ?_
    refine r_aload_n K dX8_update_83 rfl ?_
    refine r_aload_n K dX8_update_84 rfl ?_
    refine r_getI K dX8_update_85 f_X8_176 rfl (by first | assumption | exact hW.1 _ _ rfl | exact hW.2.2.1 _ _ _ rfl) ?_
    rw [hk2.1 54 (by decide), q28]
    refine r_iconst K dX8_update_88 ?_
    refine rcV2i K dX8_update_89 c_X8_159 v_X8_keeps (by first | assumption | exact hW.1 _ _ rfl | exact hW.2.2.1 _ _ _ rfl) (k_keeps (n := mN I b0) (w := 1) (I := J2) hW hn120 (by decide) (by rw [hk2.1 64 (by decide)]; intro x hx; rw [(qs x hx).1]; have hsm := sM_in (a := 0) (b := 0) hn120 hm120 n1 n2 hx; refine ⟨hsm.1, Int.lt_of_lt_of_le hsm.2.1 ?_⟩; omega)) (by decide) (Nat.le_of_ble_eq_true rfl) ?_
    rintro _ J3 ⟨rfl, hk3⟩
    rw [hk2.1 64 (by decide), hk2.1 65 (by decide), hkp]
    have k3 : ∀ c, c ≠ 72 → J3 c = J1' c := fun c hc => by rw [hk3.1 c hc, hk2.1 c hc]
    have j101 : ∀ z : Int, z = w → RR X Y Q 0 0 101 [some (.inr (some 54)), some (.inl (a0 : Int)), some (.inl (b0 : Int)), some (.inl (cn (kpM I a0 b0 0) 120)), none, none] [.inl z, .inr (some 54)] T L P J3 hn := by
      intro z hz
      subst hz
      refine r_putI K dX8_update_101 f_X8_187 rfl rfl (Or.inr ⟨rfl, hw01⟩) (by first | assumption | exact hW.1 _ _ rfl | exact hW.2.2.1 _ _ _ rfl) ?_
      refine r_aload_n K dX8_update_104 rfl ?_
      refine r_aload_n K dX8_update_105 rfl ?_
      refine r_aload_n K dX8_update_106 rfl ?_
      refine r_getI K dX8_update_107 f_X8_176 rfl (by first | assumption | exact hW.1 _ _ rfl | exact hW.2.2.1 _ _ _ rfl) ?_
      rw [mI_nj (by decide), k3 54 (by decide), q28]
      refine r_aload_n K dX8_update_110 rfl ?_
      refine r_getI K dX8_update_111 f_X8_187 rfl (by first | assumption | exact hW.1 _ _ rfl | exact hW.2.2.1 _ _ _ rfl) ?_
      rw [mI_eq]
      refine rcV2i K dX8_update_114 c_X8_159 v_X8_keeps (by first | assumption | exact hW.1 _ _ rfl | exact hW.2.2.1 _ _ _ rfl) (k_keeps (n := mN I b0) (w := z) (I := (mI J3 54 31 z)) hW hn120 hw01 (by rw [mI_ne (by decide), k3 64 (by decide)]; intro x hx; rw [(qs x hx).1]; have hsm := sM_in (a := 0) (b := 0) hn120 hm120 n1 n2 hx; refine ⟨hsm.1, Int.lt_of_lt_of_le hsm.2.1 ?_⟩; omega)) (by decide) (Nat.le_of_ble_eq_true rfl) ?_
      rintro _ J4 ⟨rfl, hk4⟩
      rw [mI_ne (by decide), mI_ne (by decide), k3 64 (by decide), k3 65 (by decide)] at hk4
      have hk4b : ∀ p, p < 120 → J4 72 p = if kpM I a0 b0 z p = true then 1 else 0 := by rw [← hkp]; exact hk4.2
      rw [mI_ne (by decide), mI_ne (by decide), k3 64 (by decide), k3 65 (by decide), hkp]
      refine r_putI K dX8_update_117 f_X8_173 rfl rfl (Or.inl rfl) (by first | assumption | exact hW.1 _ _ rfl | exact hW.2.2.1 _ _ _ rfl) ?_
      refine hfin _ _ ⟨fun c c1 c2 => by rw [mI_ne c1, hk4.1 c (by omega), mI_ne c1, k3 c (by omega)]; exact qc c c1 (by omega), fun j j1 j2 j3 j4 j5 => by rw [mI_nj j3, hk4.1 54 (by decide), mI_nj j5, k3 54 (by decide)]; exact q54 j j1 j2 j4, mI_eq, by rw [mI_nj (by decide), hk4.1 54 (by decide), mI_nj (by decide), k3 54 (by decide)]; exact q28, by rw [mI_nj (by decide), hk4.1 54 (by decide), mI_eq], fun x hx => by rw [mI_ne (by decide), mI_ne (by decide), hk4.1 64 (by decide), hk4.1 65 (by decide), mI_ne (by decide), mI_ne (by decide), k3 64 (by decide), k3 65 (by decide)]; exact qs x hx, fun p hp => by rw [mI_ne (by decide)]; exact hk4b p hp⟩
    refine r_iload_n K dX8_update_92 rfl ?_
    refine r_icmp_ge K 100 dX8_update_93 (by decide) (fun c93 => ?_) (fun c93 => ?_)
    · refine r_iconst K dX8_update_100 ?_
      first
      | exact j101 _ (by rw [hw]; exact (if_pos c93).symm)
      | exact j101 _ (by rw [hw]; exact (if_neg (Int.not_lt.mpr c93)).symm)
    · refine r_iconst K dX8_update_96 ?_
      refine r_goto K 101 dX8_update_97 (by decide) ?_
      first
      | exact j101 _ (by rw [hw]; exact (if_pos c93).symm)
      | exact j101 _ (by rw [hw]; exact (if_neg (Int.not_lt.mpr c93)).symm)
  refine r_aload_n K dX8_update_0 rfl ?_
  refine r_iload_n K dX8_update_1 rfl ?_
  refine rcV1p K dX8_update_2 c_X8_117 v_X8_isVersion (by first | assumption | exact hW.1 _ _ rfl | exact hW.2.2.1 _ _ _ rfl) (k_isVersion hW) (by decide) (Nat.le_of_ble_eq_true rfl) ?_
  refine r_if_eq K 16 dX8_update_5 (by decide) (fun c5 => ?_) (fun c5 => ?_)
  · have h1 : ¬ (hasM I a) := fun q => by rw [if_pos q] at c5; exact absurd c5 (by decide)
    refine r_iconst K dX8_update_16 ?_
    exact q_iret K hQ rfl dX8_update_17 (Nat.le_refl _) (Nat.le_refl _) (⟨rfl, rfl, rfl, rfl, Or.inl ⟨fun q => by first | exact h1 q.1 | exact h2 q.2, rfl, rfl⟩⟩)
  · have h1 : hasM I a := by
      by_cases q : hasM I a
      · exact q
      · rw [if_neg q] at c5; exact absurd rfl c5
    obtain ⟨a0, rfl⟩ : ∃ n : Nat, a = n := ⟨a.toNat, by have := h1.1; omega⟩
    have a05 : a0 < 5 := by have := h1.2.1; omega
    refine r_aload_n K dX8_update_8 rfl ?_
    refine r_iload_n K dX8_update_9 rfl ?_
    refine rcV1p K dX8_update_10 c_X8_117 v_X8_isVersion (by first | assumption | exact hW.1 _ _ rfl | exact hW.2.2.1 _ _ _ rfl) (k_isVersion hW) (by decide) (Nat.le_of_ble_eq_true rfl) ?_
    refine r_if_ne K 18 dX8_update_13 (by decide) (fun c13 => ?_) (fun c13 => ?_)
    · have h2 : hasM I b := by
        by_cases q : hasM I b
        · exact q
        · rw [if_neg q] at c13; exact absurd rfl c13
      obtain ⟨b0, rfl⟩ : ∃ n : Nat, b = n := ⟨b.toNat, by have := h2.1; omega⟩
      have b05 : b0 < 5 := by have := h2.2.1; omega
      refine r_aload_n K dX8_update_18 rfl ?_
      refine r_getI K dX8_update_19 f_X8_166 rfl (by first | assumption | exact hW.1 _ _ rfl | exact hW.2.2.1 _ _ _ rfl) ?_
      refine r_if_eq K 28 dX8_update_22 (by decide) (fun c22 => ?_) (fun c22 => ?_)
      · refine r_aload_n K dX8_update_28 rfl ?_
        refine r_getI K dX8_update_29 f_X8_163 rfl (by first | assumption | exact hW.1 _ _ rfl | exact hW.2.2.1 _ _ _ rfl) ?_
        refine r_aload_n K dX8_update_32 rfl ?_
        refine r_getR K dX8_update_33 f_X8_16 rfl (by first | assumption | exact hW.1 _ _ rfl | exact hW.2.2.1 _ _ _ rfl) (by first | assumption | exact hW.1 _ _ rfl | exact hW.2.2.1 _ _ _ rfl) ?_
        refine r_iload_n K dX8_update_36 rfl ?_
        refine r_iald K dX8_update_37 (by first | assumption | exact hW.1 _ _ rfl | exact hW.2.2.1 _ _ _ rfl) (by omega) (by omega) ?_
        rw [Int.toNat_natCast]
        refine r_icmp_ne K 53 dX8_update_38 (by decide) (fun c38 => ?_) (fun c38 => ?_)
        · refine r_bipush K dX8_update_53 ?_
          exact q_iret K hQ rfl dX8_update_55 (Nat.le_refl _) (Nat.le_refl _) (⟨rfl, rfl, rfl, rfl, Or.inr (Or.inr (Or.inl ⟨⟨h1, h2⟩, c22, fun q => by rw [Int.toNat_natCast] at q; first | exact c38 q.1 | exact c50 q.2, rfl, rfl⟩))⟩)
        · refine r_aload_n K dX8_update_41 rfl ?_
          refine rcV0p K dX8_update_42 c_X8_179 v_X8_checkOfArea (by first | assumption | exact hW.1 _ _ rfl | exact hW.2.2.1 _ _ _ rfl) (k_checkOfArea hW h24 h73) (by decide) (Nat.le_of_ble_eq_true rfl) ?_
          refine r_aload_n K dX8_update_45 rfl ?_
          refine r_iload_n K dX8_update_46 rfl ?_
          refine rcV1p K dX8_update_47 c_X8_183 v_X8_check (by first | assumption | exact hW.1 _ _ rfl | exact hW.2.2.1 _ _ _ rfl) (k_X8_check hW hV) (by decide) (Nat.le_of_ble_eq_true rfl) ?_
          rw [if_pos h1, Int.toNat_natCast]
          refine r_icmp_eq K 56 dX8_update_50 (by decide) (fun c50 => ?_) (fun c50 => ?_)
          · exact main a0 b0 rfl rfl a05 b05 h1 h2 c22 ⟨c38, c50⟩
          · refine r_bipush K dX8_update_53 ?_
            exact q_iret K hQ rfl dX8_update_55 (Nat.le_refl _) (Nat.le_refl _) (⟨rfl, rfl, rfl, rfl, Or.inr (Or.inr (Or.inl ⟨⟨h1, h2⟩, c22, fun q => by rw [Int.toNat_natCast] at q; first | exact c38 q.1 | exact c50 q.2, rfl, rfl⟩))⟩)
      · refine r_bipush K dX8_update_25 ?_
        exact q_iret K hQ rfl dX8_update_27 (Nat.le_refl _) (Nat.le_refl _) (⟨rfl, rfl, rfl, rfl, Or.inr (Or.inl ⟨⟨h1, h2⟩, c22, rfl, rfl⟩)⟩)
    · have h2 : ¬ (hasM I b) := fun q => by rw [if_pos q] at c13; exact absurd c13 (by decide)
      refine r_iconst K dX8_update_16 ?_
      exact q_iret K hQ rfl dX8_update_17 (Nat.le_refl _) (Nat.le_refl _) (⟨rfl, rfl, rfl, rfl, Or.inl ⟨fun q => by first | exact h1 q.1 | exact h2 q.2, rfl, rfl⟩⟩)
end MOA
