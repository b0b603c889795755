section INJ
/-- the memory ahead of all: the script and the two tables alone -/
def T0 : Nat → Nat := fun k => if k < 3 then 15 else 99
def P0 : Nat → Nat → Option Nat := fun _ _ => none
def w0 (L : Nat → Nat) (I : Nat → Nat → Int) : Mm := (T0, L, P0, I, 0)
def oB (a fi N : Nat) (M : Mm) : Mm := pr a fi (3 + mH M) (na (3 + mH M) 0 10 N (nw 0 0 M))
def oT (a fi : Nat) (M : Mm) : Mm := pr a fi (3 + mH M) (tIni (3 + mH M) (nw 6 0 M))
def oP (a fi : Nat) (M : Mm) : Mm := pr a fi (3 + mH M) (pIni (3 + mH M) (nw 3 0 M))
def oF (a fi : Nat) (M : Mm) : Mm := pr a fi (3 + mH M) (fIni (3 + mH M) (nw 2 0 M))
def oN (a fi : Nat) (M : Mm) : Mm := pr a fi (3 + mH M) (nIni (3 + mH M) (nw 4 0 M))
def dIni (a : Nat) (M : Mm) : Mm := na a 3 10 120 (na a 2 10 120 (oT a 1 (oB a 0 120 M)))
def sI3 (a : Nat) (M : Mm) : Mm := na a 2 12 25 (na a 1 14 25 (na a 0 13 5 M))
def sIni (a : Nat) (M : Mm) : Mm := oB (3 + mH M) 4 120 (oB (3 + mH M) 3 120 (oB (3 + mH M) 2 120 (oB (3 + mH M) 1 120 (oB (3 + mH M) 0 120 (oN a 3 (sI3 a M))))))
def oD (a fi : Nat) (M : Mm) : Mm := pr a fi (3 + mH M) (dIni (3 + mH M) (nw 1 0 M))
def oS (a fi : Nat) (M : Mm) : Mm := pr a fi (3 + mH M) (sIni (3 + mH M) (nw 5 0 M))
def bIni (a : Nat) (M : Mm) : Mm := oF a 6 (oD a 5 (oP a 4 (oT a 3 (oT a 2 (oS a 1 (oB a 0 200 M))))))
/-- k cells are new, the older ones are as they were, but for the references of x -/
def fr (x : Nat) (M M' : Mm) (k : Nat) : Prop := mH M' = mH M + k ∧ ∀ b, b < 3 + mH M → M'.1 b = M.1 b ∧ M'.2.1 b = M.2.1 b ∧ (b ≠ x → M'.2.2.1 b = M.2.2.1 b)
theorem fr.rf (x : Nat) (M : Mm) : fr x M M 0 := ⟨rfl, fun _ _ => ⟨rfl, rfl, fun _ => rfl⟩⟩
theorem fr.tr {x k k' : Nat} {M M' M'' : Mm} (h : fr x M M' k) (h' : fr x M' M'' k') : fr x M M'' (k + k') := ⟨by rw [h'.1, h.1]; omega, fun b hb => by
  have h1 := h.2 b hb
  have h2 := h'.2 b (by rw [h.1]; omega)
  exact ⟨h2.1.trans h1.1, h2.2.1.trans h1.2.1, fun e => (h2.2.2 e).trans (h1.2.2 e)⟩⟩
theorem fr.low {x y k : Nat} {M M' : Mm} (h : fr x M M' k) (hx : 3 + mH M ≤ x) : fr y M M' k := ⟨h.1, fun b hb => ⟨(h.2 b hb).1, (h.2 b hb).2.1, fun _ => (h.2 b hb).2.2 (by omega)⟩⟩
theorem fr.len {x k k' : Nat} {M M' : Mm} (h : fr x M M' k) (e : k = k') : fr x M M' k' := e ▸ h
theorem fr_nw {x t n : Nat} {M M' : Mm} (e : M' = nw t n M) : fr x M M' 1 := by
  subst e
  refine ⟨rfl, fun b hb => ⟨?_, ?_, fun _ => ?_⟩⟩
  · show va_up M.1 (3 + mH M) t b = _; rw [va_up, if_neg (by omega)]
  · show va_up M.2.1 (3 + mH M) n b = _; rw [va_up, if_neg (by omega)]
  · show va_up M.2.2.1 (3 + mH M) (fun _ => none) b = _; rw [va_up, if_neg (by omega)]
theorem fr_pr {x fi q : Nat} {M M' : Mm} (e : M' = pr x fi q M) : fr x M M' 0 := by
  subst e
  exact ⟨rfl, fun b hb => ⟨rfl, rfl, fun h => mP_ne h⟩⟩
theorem fr_na {x fi t n : Nat} {M M' : Mm} (e : M' = na x fi t n M) : fr x M M' 1 := by
  subst e
  exact (fr_nw (x := x) rfl).tr (fr_pr rfl)
theorem nw_T {t n : Nat} {M M' : Mm} (e : M' = nw t n M) : M'.1 (3 + mH M) = t ∧ M'.2.1 (3 + mH M) = n := by
  subst e
  exact ⟨by show va_up M.1 (3 + mH M) t _ = t; rw [va_up, if_pos rfl], by show va_up M.2.1 (3 + mH M) n _ = n; rw [va_up, if_pos rfl]⟩
theorem pr_P {x fi q : Nat} {M M' : Mm} (e : M' = pr x fi q M) : M'.2.2.1 x fi = some q ∧ ∀ j, j ≠ fi → M'.2.2.1 x j = M.2.2.1 x j := by
  subst e
  exact ⟨by show mP M.2.2.1 x fi (some q) x fi = _; rw [mP_row, if_pos rfl], fun j hj => by show mP M.2.2.1 x fi (some q) x j = _; rw [mP_row, if_neg hj]⟩
theorem fr_t {x a : Nat} {M M' : Mm} (e : M' = tIni a M) (h : a = x) : fr x M M' 3 := by subst e h; exact ((fr_na (M := M) rfl).tr (fr_na rfl)).tr (fr_na rfl)
theorem fr_p {x a : Nat} {M M' : Mm} (e : M' = pIni a M) (h : a = x) : fr x M M' 4 := by subst e h; exact (((fr_na (M := M) rfl).tr (fr_na rfl)).tr (fr_na rfl)).tr (fr_na rfl)
theorem fr_f {x a : Nat} {M M' : Mm} (e : M' = fIni a M) (h : a = x) : fr x M M' 3 := by subst e h; exact ((fr_na (M := M) rfl).tr (fr_na rfl)).tr (fr_na rfl)
theorem fr_n {x a : Nat} {M M' : Mm} (e : M' = nIni a M) (h : a = x) : fr x M M' 7 := by subst e h; exact ((((((fr_na (M := M) rfl).tr (fr_na rfl)).tr (fr_na rfl)).tr (fr_na rfl)).tr (fr_na rfl)).tr (fr_na rfl)).tr (fr_na rfl)
/-- an object that is made and put into a field -/
theorem fr_o {x k t n fi : Nat} {M M1 M2 M3 : Mm} (e1 : M1 = nw t n M) (h : fr (3 + mH M) M1 M2 k) (e3 : M3 = pr x fi (3 + mH M) M2) : fr x M M3 (1 + k) := ((((fr_nw (x := 3 + mH M) e1).tr h).low (Nat.le_refl _)).tr (fr_pr e3)).len (by omega)
theorem fr_B {x fi N : Nat} {M M' : Mm} (e : M' = oB x fi N M) : fr x M M' 2 := fr_o rfl (fr_na rfl) e
theorem fr_T {x fi : Nat} {M M' : Mm} (e : M' = oT x fi M) : fr x M M' 4 := fr_o rfl (fr_t rfl rfl) e
theorem fr_N {x fi : Nat} {M M' : Mm} (e : M' = oN x fi M) : fr x M M' 8 := fr_o rfl (fr_n rfl rfl) e
theorem fr_P {x fi : Nat} {M M' : Mm} (e : M' = oP x fi M) : fr x M M' 5 := fr_o rfl (fr_p rfl rfl) e
theorem fr_F {x fi : Nat} {M M' : Mm} (e : M' = oF x fi M) : fr x M M' 4 := fr_o rfl (fr_f rfl rfl) e
theorem fr_d {x a : Nat} {M M' : Mm} (e : M' = dIni a M) (h : a = x) : fr x M M' 8 := by subst e h; exact (((fr_B (M := M) rfl).tr (fr_T rfl)).tr (fr_na rfl)).tr (fr_na rfl)
theorem fr_D {x fi : Nat} {M M' : Mm} (e : M' = oD x fi M) : fr x M M' 9 := fr_o rfl (fr_d rfl rfl) e
theorem fr_s {x a : Nat} {M M' : Mm} (e : M' = sIni a M) (h : a = x) : fr x M M' 21 := by
  subst e h
  have h1 : fr a M (oN a 3 (sI3 a M)) 11 := (((fr_na (M := M) rfl).tr (fr_na rfl)).tr (fr_na rfl)).tr (fr_N rfl)
  have h2 : fr (3 + mH M) (oN a 3 (sI3 a M)) (sIni a M) 10 := ((((fr_B (M := oN a 3 (sI3 a M)) rfl).tr (fr_B rfl)).tr (fr_B rfl)).tr (fr_B rfl)).tr (fr_B rfl)
  refine ⟨by rw [h2.1, h1.1], fun b hb => ?_⟩
  have q1 := h1.2 b hb
  have q2 := h2.2 b (by rw [h1.1]; omega)
  exact ⟨q2.1.trans q1.1, q2.2.1.trans q1.2.1, fun e => (q2.2.2 (by omega)).trans (q1.2.2 e)⟩
theorem fr_S {x fi : Nat} {M M' : Mm} (e : M' = oS x fi M) : fr x M M' 22 := fr_o rfl (fr_s rfl rfl) e
section RM
variable {X : Cx} {Y : SY} {Q : State → Prop} {cells slots pc : Nat} {ls : List (Option PV)} {st : List PV} {cc : ByteArray} {own : String} {nL : Nat} {ret : Option FieldType} {R : Room} {nm : String}
theorem mm_rr {T L : Nat → Nat} {P : Nat → Nat → Option Nat} {I : Nat → Nat → Int} {hn : Nat} {M : Mm} (hM : (T, L, P, I, hn) = M) (h : ∀ M', M' = M → RR X Y Q cells slots pc ls st M'.1 M'.2.1 M'.2.2.1 M'.2.2.2.1 M'.2.2.2.2) : RR X Y Q cells slots pc ls st T L P I hn := by
  subst hM
  exact h _ rfl
theorem r_nwM (K : OK X Y cc own nL ret R nm) {M : Mm} {ci idx : Nat} (hd : decode cc pc = .ok (.new idx, 3)) (hci : ci < 9) (hw : Cond.classLink own idx (Rn ci) ∈ lw_tbl ∧ Cond.instantiable (Rn ci) (cN ci) ∈ lw_tbl ∧ Cond.initialized (Rn ci) ∈ lw_tbl) (hc : cells + 1 ≤ R.cells) (hs : slots + cN ci ≤ R.slots)
    (kk : ∀ M', M' = nw ci 0 M → RR X Y Q (cells + 1) (slots + cN ci) (pc + 3) ls (.inr (some (3 + mH M)) :: st) M'.1 M'.2.1 M'.2.2.1 M'.2.2.2.1 M'.2.2.2.2) : RR X Y Q cells slots pc ls st M.1 M.2.1 M.2.2.1 M.2.2.2.1 M.2.2.2.2 := r_new K hd hci hw hc hs (kk _ rfl)
theorem r_prM (K : OK X Y cc own nL ret R nm) {M : Mm} {k ci fi idx q : Nat} (hd : decode cc pc = .ok (.putfield idx, 3)) (hl : fL own idx ci fi) (hf : fR ci fi = true) (hfin : (Tn ci fi).2.2.2 = true ∧ nm = "<init>" ∧ (Tn ci fi).1 = own ∧ Cond.fieldLink own idx (Tn ci fi).1 (Tn ci fi).2.1 (Tn ci fi).2.2.1 ∈ lw_tbl) (hty : narrow (yn ci fi) (.ref (ad Y q)) = .ref (ad Y q) ∧ fits (yn ci fi) (.ref (ad Y q)) = true) (hT : M.1 k = ci) (kk : ∀ M', M' = pr k fi q M → RR X Y Q cells slots (pc + 3) ls st M'.1 M'.2.1 M'.2.2.1 M'.2.2.2.1 M'.2.2.2.2) : RR X Y Q cells slots pc ls (.inr (some q) :: .inr (some k) :: st) M.1 M.2.1 M.2.2.1 M.2.2.2.1 M.2.2.2.2 := r_putR K hd hl hf hfin hty hT (kk _ rfl)
theorem r_naM (K : OK X Y cc own nL ret R nm) {M : Mm} {a fi t ci idx N : Nat} {at_ : ArrayType} {n : Int} (hd : decode cc pc = .ok (.newarray at_, 2)) (ht : (at_ = .int ∧ t = 10) ∨ (at_ = .byte ∧ t = 11) ∨ (at_ = .boolean ∧ t = 12)) (hw : Cond.arrayClass (newarray.typeOf at_) ∈ lw_tbl) (h0 : 0 ≤ n) (h1 : n ≤ 100000) (hN : n.toNat = N) (hc : cells + 1 ≤ R.cells) (hs : slots + N ≤ R.slots)
    (hd2 : decode cc (pc + 2) = .ok (.putfield idx, 3)) (hl : fL own idx ci fi) (hf : fR ci fi = true) (hfin : (Tn ci fi).2.2.2 = true ∧ nm = "<init>" ∧ (Tn ci fi).1 = own ∧ Cond.fieldLink own idx (Tn ci fi).1 (Tn ci fi).2.1 (Tn ci fi).2.2.1 ∈ lw_tbl) (hty : ∀ q : Nat, narrow (yn ci fi) (.ref (ad Y q)) = .ref (ad Y q) ∧ fits (yn ci fi) (.ref (ad Y q)) = true) (hT : M.1 a = ci) (ha : a < 3 + mH M)
    (kk : ∀ M', M' = na a fi t N M → RR X Y Q (cells + 1) (slots + N) (pc + 2 + 3) ls st M'.1 M'.2.1 M'.2.2.1 M'.2.2.2.1 M'.2.2.2.2) : RR X Y Q cells slots pc ls (.inl n :: .inr (some a) :: st) M.1 M.2.1 M.2.2.1 M.2.2.2.1 M.2.2.2.2 := r_na K hd ht hw h0 h1 hN hc hs hd2 hl hf hfin hty hT ha (kk _ rfl)
theorem r_nqM (K : OK X Y cc own nL ret R nm) {M : Mm} {a fi t ci cj idx idx2 N : Nat} {n : Int} (hd : decode cc pc = .ok (.anewarray idx, 3)) (ht : (t = 13 ∧ ci = 0) ∨ (t = 14 ∧ ci = 3)) (hw : Cond.classLink own idx (Rn ci) ∈ lw_tbl ∧ Cond.arrayOver (.object (Rn ci)) ∈ lw_tbl) (h0 : 0 ≤ n) (h1 : n ≤ 100000) (hN : n.toNat = N) (hc : cells + 1 ≤ R.cells) (hs : slots + N ≤ R.slots)
    (hd2 : decode cc (pc + 3) = .ok (.putfield idx2, 3)) (hl : fL own idx2 cj fi) (hf : fR cj fi = true) (hfin : (Tn cj fi).2.2.2 = true ∧ nm = "<init>" ∧ (Tn cj fi).1 = own ∧ Cond.fieldLink own idx2 (Tn cj fi).1 (Tn cj fi).2.1 (Tn cj fi).2.2.1 ∈ lw_tbl) (hty : ∀ q : Nat, narrow (yn cj fi) (.ref (ad Y q)) = .ref (ad Y q) ∧ fits (yn cj fi) (.ref (ad Y q)) = true) (hT : M.1 a = cj) (ha : a < 3 + mH M)
    (kk : ∀ M', M' = na a fi t N M → RR X Y Q (cells + 1) (slots + N) (pc + 3 + 3) ls st M'.1 M'.2.1 M'.2.2.1 M'.2.2.2.1 M'.2.2.2.2) : RR X Y Q cells slots pc ls (.inl n :: .inr (some a) :: st) M.1 M.2.1 M.2.2.1 M.2.2.2.1 M.2.2.2.2 := by
  subst hN
  exact r_newq K hd ht hw h0 h1 hc hs (r_putR K hd2 hl hf hfin (hty _) (by rw [va_up, if_neg (Nat.ne_of_lt ha)]; exact hT) (kk _ rfl))
theorem r_aaM (K : OK X Y cc own nL ret R nm) {M : Mm} {k v : Nat} {i : Int} {j : Nat} (hd : decode cc pc = .ok (.aastore, 1)) (hT : (M.1 k = 13 ∧ M.1 v = 0) ∨ (M.1 k = 14 ∧ M.1 v = 3)) (h0 : 0 ≤ i) (h1 : i < M.2.1 k) (hj : i.toNat = j) (kk : ∀ M', M' = pr k j v M → RR X Y Q cells slots (pc + 1) ls st M'.1 M'.2.1 M'.2.2.1 M'.2.2.2.1 M'.2.2.2.2) : RR X Y Q cells slots pc ls (.inr (some v) :: .inl i :: .inr (some k) :: st) M.1 M.2.1 M.2.2.1 M.2.2.2.1 M.2.2.2.2 := by
  subst hj
  exact r_aast K hd hT h0 h1 (kk _ rfl)
end RM
variable {M : Mm} {a : Nat}
theorem kM_X0 {n : Int} {N : Nat} (h0 : 0 ≤ n) (h9 : n ≤ 1000) (hN : n.toNat = N) (h1 : M.1 a = 0) (h2 : a < 3 + mH M) : gX0_init 1 N [.inr (some a), .inl n] M.1 M.2.1 M.2.2.1 M.2.2.2.1 M.2.2.2.2 (isM (na a 0 10 N M)) := k_X0_init h0 h9 hN h1 h2
theorem kM_X3 (h1 : M.1 a = 3) (h2 : a < 3 + mH M) : gX3_init 4 480 [.inr (some a)] M.1 M.2.1 M.2.2.1 M.2.2.2.1 M.2.2.2.2 (isM (pIni a M)) := k_X3_init h1 h2
theorem kM_X6 (h1 : M.1 a = 6) (h2 : a < 3 + mH M) : gX6_init 3 360 [.inr (some a)] M.1 M.2.1 M.2.2.1 M.2.2.2.1 M.2.2.2.2 (isM (tIni a M)) := k_X6_init h1 h2
theorem kM_X4 (h1 : M.1 a = 4) (h2 : a < 3 + mH M) : gX4_init 7 841 [.inr (some a)] M.1 M.2.1 M.2.2.1 M.2.2.2.1 M.2.2.2.2 (isM (nIni a M)) := k_X4_init h1 h2
theorem kM_X2 (h1 : M.1 a = 2) (h2 : a < 3 + mH M) : gX2_init 3 20 [.inr (some a)] M.1 M.2.1 M.2.2.1 M.2.2.2.1 M.2.2.2.2 (isM (fIni a M)) := k_X2_init h1 h2
set_option maxHeartbeats 4000000 in
set_option maxRecDepth 100000 in
theorem kM_X1 (hT : M.1 a = 1) (ha : a < 3 + mH M) : gX1_init 8 726 [.inr (some a)] M.1 M.2.1 M.2.2.1 M.2.2.2.1 M.2.2.2.2 (isM (dIni a M)) := by
  refine CT.by (by decide) (Nat.le_of_ble_eq_true rfl) fun X Y Q hQ K hv => ?_
  refine r_aload_n K dX1_init_0 rfl ?_
  refine r_obj K dX1_init_1 o_X1_3 (Nat.le_of_ble_eq_true rfl) (Nat.le_of_ble_eq_true rfl) ?_
  have F0 : fr a M M 0 := fr.rf a M
  obtain ⟨ci, hci⟩ : ∃ ci, ci = 1 := ⟨_, rfl⟩
  rw [← hci] at hT
  refine r_aload_n K dX1_init_4 rfl ?_
  refine r_nwM (M := M) K dX1_init_5 (by decide) n_X1_9 (Nat.le_of_ble_eq_true rfl) (Nat.le_of_ble_eq_true rfl) (fun M1 e1 => ?_)
  have hq : M1.1 (3 + mH M) = 0 ∧ 3 + mH M < 3 + mH M1 := ⟨(nw_T e1).1, by rw [(fr_nw (x := 0) e1).1]; omega⟩
  refine r_dup K dX1_init_8 ?_
  refine r_bipush K dX1_init_9 ?_
  refine rcI1g K dX1_init_11 c_X1_11 i_X0_init (kM_X0 (M := M1) (N := 120) (by decide) (by decide) rfl hq.1 hq.2) (by decide) (Nat.le_of_ble_eq_true rfl) ?_
  rintro _ T1 L1 P1 I1 n1 ⟨rfl, hM⟩
  refine mm_rr hM (fun M2 e2 => ?_)
  have hfo : fr a M M2 2 := (((fr_nw (x := 3 + mH M) e1).tr (fr_na e2)).low (Nat.le_refl _)).len rfl
  have hTa : M2.1 a = ci := ((F0.tr hfo).2 a ha).1.trans hT
  refine r_prM (M := M2) K dX1_init_14 f_X1_14 rfl p_X1_14 ⟨rfl, rfl⟩ (hTa.trans hci) (fun M3 e3 => ?_)
  have F1 : fr a M M3 2 := (F0.tr (hfo.tr (fr_pr e3))).len rfl
  refine r_aload_n K dX1_init_17 rfl ?_
  refine r_nwM (M := M3) K dX1_init_18 (by decide) n_X1_20 (Nat.le_of_ble_eq_true rfl) (Nat.le_of_ble_eq_true rfl) (fun M4 e4 => ?_)
  have hq : M4.1 (3 + mH M3) = 6 ∧ 3 + mH M3 < 3 + mH M4 := ⟨(nw_T e4).1, by rw [(fr_nw (x := 0) e4).1]; omega⟩
  refine r_dup K dX1_init_21 ?_
  refine rcI0g K dX1_init_22 c_X1_22 i_X6_init (kM_X6 (M := M4) hq.1 hq.2) (by decide) (Nat.le_of_ble_eq_true rfl) ?_
  rintro _ T1 L1 P1 I1 n1 ⟨rfl, hM⟩
  refine mm_rr hM (fun M5 e5 => ?_)
  have hfo : fr a M3 M5 4 := (((fr_nw (x := 3 + mH M3) e4).tr (fr_t e5 rfl)).low (Nat.le_refl _)).len rfl
  have hTa : M5.1 a = ci := ((F1.tr hfo).2 a ha).1.trans hT
  refine r_prM (M := M5) K dX1_init_25 f_X1_23 rfl p_X1_23 ⟨rfl, rfl⟩ (hTa.trans hci) (fun M6 e6 => ?_)
  have F2 : fr a M M6 6 := (F1.tr (hfo.tr (fr_pr e6))).len rfl
  refine r_aload_n K dX1_init_28 rfl ?_
  refine r_bipush K dX1_init_29 ?_
  have hTa : M6.1 a = ci := (F2.2 a ha).1.trans hT
  have hha : a < 3 + mH M6 := by rw [F2.1]; omega
  refine r_naM (M := M6) (N := 120) K dX1_init_31 (Or.inl ⟨rfl, rfl⟩) aw_int (by decide) (by decide) rfl (Nat.le_of_ble_eq_true rfl) (Nat.le_of_ble_eq_true rfl) dX1_init_33 f_X1_27 rfl p_X1_27 (fun _ => ⟨rfl, rfl⟩) (hTa.trans hci) hha (fun M7 e7 => ?_)
  have F3 : fr a M M7 7 := (F2.tr (fr_na e7)).len rfl
  refine r_aload_n K dX1_init_36 rfl ?_
  refine r_bipush K dX1_init_37 ?_
  have hTa : M7.1 a = ci := (F3.2 a ha).1.trans hT
  have hha : a < 3 + mH M7 := by rw [F3.1]; omega
  refine r_naM (M := M7) (N := 120) K dX1_init_39 (Or.inl ⟨rfl, rfl⟩) aw_int (by decide) (by decide) rfl (Nat.le_of_ble_eq_true rfl) (Nat.le_of_ble_eq_true rfl) dX1_init_41 f_X1_31 rfl p_X1_31 (fun _ => ⟨rfl, rfl⟩) (hTa.trans hci) hha (fun M8 e8 => ?_)
  have F4 : fr a M M8 8 := (F3.tr (fr_na e8)).len rfl
  exact q_vret K hQ rfl dX1_init_44 (Nat.le_refl _) (Nat.le_refl _) ⟨rfl, by show M8 = _; rw [e8, e7, e6, e5, e4, e3, e2, e1]; rfl⟩
set_option maxHeartbeats 4000000 in
set_option maxRecDepth 100000 in
theorem kM_X5 (hT : M.1 a = 5) (ha : a < 3 + mH M) : gX5_init 21 1517 [.inr (some a)] M.1 M.2.1 M.2.2.1 M.2.2.2.1 M.2.2.2.2 (isM (sIni a M)) := by
  refine CT.by (by decide) (Nat.le_of_ble_eq_true rfl) fun X Y Q hQ K hv => ?_
  refine r_aload_n K dX5_init_0 rfl ?_
  refine r_obj K dX5_init_1 o_X5_3 (Nat.le_of_ble_eq_true rfl) (Nat.le_of_ble_eq_true rfl) ?_
  have F0 : fr a M M 0 := fr.rf a M
  obtain ⟨ci, hci⟩ : ∃ ci, ci = 5 := ⟨_, rfl⟩
  rw [← hci] at hT
  refine r_aload_n K dX5_init_4 rfl ?_
  refine r_iconst K dX5_init_5 ?_
  have hTa : M.1 a = ci := (F0.2 a ha).1.trans hT
  have hha : a < 3 + mH M := by rw [F0.1]; omega
  refine r_nqM (M := M) (N := 5) K dX5_init_6 (Or.inl ⟨rfl, rfl⟩) q_X5_9 (by decide) (by decide) rfl (Nat.le_of_ble_eq_true rfl) (Nat.le_of_ble_eq_true rfl) dX5_init_9 f_X5_11 rfl p_X5_11 (fun _ => ⟨rfl, rfl⟩) (hTa.trans hci) hha (fun M1 e1 => ?_)
  have F1 : fr a M M1 1 := (F0.tr (fr_na e1)).len rfl
  refine r_aload_n K dX5_init_12 rfl ?_
  refine r_bipush K dX5_init_13 ?_
  have hTa : M1.1 a = ci := (F1.2 a ha).1.trans hT
  have hha : a < 3 + mH M1 := by rw [F1.1]; omega
  refine r_nqM (M := M1) (N := 25) K dX5_init_15 (Or.inr ⟨rfl, rfl⟩) q_X5_17 (by decide) (by decide) rfl (Nat.le_of_ble_eq_true rfl) (Nat.le_of_ble_eq_true rfl) dX5_init_18 f_X5_19 rfl p_X5_19 (fun _ => ⟨rfl, rfl⟩) (hTa.trans hci) hha (fun M2 e2 => ?_)
  have F2 : fr a M M2 2 := (F1.tr (fr_na e2)).len rfl
  refine r_aload_n K dX5_init_21 rfl ?_
  refine r_bipush K dX5_init_22 ?_
  have hTa : M2.1 a = ci := (F2.2 a ha).1.trans hT
  have hha : a < 3 + mH M2 := by rw [F2.1]; omega
  refine r_naM (M := M2) (N := 25) K dX5_init_24 (Or.inr (Or.inr ⟨rfl, rfl⟩)) aw_boolean (by decide) (by decide) rfl (Nat.le_of_ble_eq_true rfl) (Nat.le_of_ble_eq_true rfl) dX5_init_26 f_X5_23 rfl p_X5_23 (fun _ => ⟨rfl, rfl⟩) (hTa.trans hci) hha (fun M3 e3 => ?_)
  have F3 : fr a M M3 3 := (F2.tr (fr_na e3)).len rfl
  refine r_aload_n K dX5_init_29 rfl ?_
  refine r_nwM (M := M3) K dX5_init_30 (by decide) n_X5_27 (Nat.le_of_ble_eq_true rfl) (Nat.le_of_ble_eq_true rfl) (fun M4 e4 => ?_)
  have hq : M4.1 (3 + mH M3) = 4 ∧ 3 + mH M3 < 3 + mH M4 := ⟨(nw_T e4).1, by rw [(fr_nw (x := 0) e4).1]; omega⟩
  refine r_dup K dX5_init_33 ?_
  refine rcI0g K dX5_init_34 c_X5_29 i_X4_init (kM_X4 (M := M4) hq.1 hq.2) (by decide) (Nat.le_of_ble_eq_true rfl) ?_
  rintro _ T1 L1 P1 I1 n1 ⟨rfl, hM⟩
  refine mm_rr hM (fun M5 e5 => ?_)
  have hfo : fr a M3 M5 8 := (((fr_nw (x := 3 + mH M3) e4).tr (fr_n e5 rfl)).low (Nat.le_refl _)).len rfl
  have hTa : M5.1 a = ci := ((F3.tr hfo).2 a ha).1.trans hT
  refine r_prM (M := M5) K dX5_init_37 f_X5_30 rfl p_X5_30 ⟨rfl, rfl⟩ (hTa.trans hci) (fun M6 e6 => ?_)
  have F4 : fr a M M6 11 := (F3.tr (hfo.tr (fr_pr e6))).len rfl
  have hV13 : M1.1 (3 + mH M) = 13 ∧ M1.2.1 (3 + mH M) = 5 := by
    rw [e1]; exact nw_T (M := M) (M' := nw 13 5 M) rfl
  have hVP : M1.2.2.1 a 0 = some (3 + mH M) := by
    rw [e1]; exact (pr_P (M := nw 13 5 M) rfl).1
  have f1 : mH M1 = mH M + 1 := by rw [e1]; rfl
  have hP2 : M2.2.2.1 a 0 = some (3 + mH M) := by rw [e2]; show mP (va_up M1.2.2.1 (3 + mH M1) (fun _ => none)) a 1 _ a 0 = _; rw [mP_row, if_neg (by decide), va_up, if_neg (by omega)]; exact hVP
  have f2 : mH M2 = mH M + 2 := by rw [e2]; show mH M1 + 1 = _; omega
  have hP3 : M3.2.2.1 a 0 = some (3 + mH M) := by rw [e3]; show mP (va_up M2.2.2.1 (3 + mH M2) (fun _ => none)) a 2 _ a 0 = _; rw [mP_row, if_neg (by decide), va_up, if_neg (by omega)]; exact hP2
  have f3 : mH M3 = mH M + 3 := by rw [e3]; show mH M2 + 1 = _; omega
  have hP5 : M5.2.2.1 a 0 = some (3 + mH M) := by rw [(((fr_nw (x := 3 + mH M3) e4).tr (fr_n e5 rfl)).2 a (by omega)).2.2 (by omega)]; exact hP3
  have hP6 : M6.2.2.1 a 0 = some (3 + mH M) := by rw [(pr_P e6).2 0 (by decide)]; exact hP5
  have hr : (M6.1 (3 + mH M) = 13 ∧ M6.2.1 (3 + mH M) = 5) ∧ M6.1 a = ci ∧ mH M6 = mH M + 11 := by
    have q2 := (fr_na e2).2 (3 + mH M) (by omega)
    have q3 := (fr_na e3).2 (3 + mH M) (by omega)
    have q6 := (fr_N (M := M3) (M' := M6) (x := a) (fi := 3) (by rw [e6, e5, e4]; rfl)).2 (3 + mH M) (by omega)
    exact ⟨⟨q6.1.trans (q3.1.trans (q2.1.trans hV13.1)), q6.2.1.trans (q3.2.1.trans (q2.2.1.trans hV13.2))⟩, (F4.2 a ha).1.trans hT, F4.1⟩
  clear hV13 hVP hP2 hP3 hP5 hTa hha hfo hq
  refine r_iconst K dX5_init_40 ?_
  refine r_istore_n K dX5_init_41 (by decide) ?_
  obtain ⟨⟨hA, hB⟩, hC, hh⟩ := hr
  have hPP := hP6
  refine r_iload_n K dX5_init_42 rfl ?_
  refine r_iconst K dX5_init_43 ?_
  refine r_icmp_ge K 68 dX5_init_44 (by decide) (fun c44 => ?_) (fun c44 => ?_)
  · exact absurd c44 (by omega)
  refine r_aload_n K dX5_init_47 rfl ?_
  refine r_getR K dX5_init_48 f_X5_11 rfl (hC.trans hci) hPP ?_
  refine r_iload_n K dX5_init_51 rfl ?_
  refine r_nwM (M := M6) K dX5_init_52 (by decide) n_X5_9 (Nat.le_of_ble_eq_true rfl) (Nat.le_of_ble_eq_true rfl) (fun M7 e7 => ?_)
  have hq : M7.1 (3 + mH M6) = 0 ∧ 3 + mH M6 < 3 + mH M7 := ⟨(nw_T e7).1, by rw [(fr_nw (x := 0) e7).1]; omega⟩
  refine r_dup K dX5_init_55 ?_
  refine r_bipush K dX5_init_56 ?_
  refine rcI1g K dX5_init_58 c_X5_34 i_X0_init (kM_X0 (M := M7) (N := 120) (by decide) (by decide) rfl hq.1 hq.2) (by decide) (Nat.le_of_ble_eq_true rfl) ?_
  rintro _ T1 L1 P1 I1 n1 ⟨rfl, hM⟩
  refine mm_rr hM (fun M8 e8 => ?_)
  have hfo : fr (3 + mH M) M6 M8 2 := (((fr_nw (x := 3 + mH M6) e7).tr (fr_na e8)).low (Nat.le_refl _)).len rfl
  have hq2 : M8.1 (3 + mH M6) = 0 := ((fr_na e8).2 _ hq.2).1.trans hq.1
  refine r_aaM (M := M8) (j := 0) K dX5_init_61 (Or.inl ⟨(hfo.2 _ (by omega)).1.trans hA, hq2⟩) (by decide) (by rw [(hfo.2 _ (by omega)).2.1, hB]; decide) rfl (fun M9 e9 => ?_)
  have hg : fr (3 + mH M) M6 M9 2 := (hfo.tr (fr_pr e9)).len rfl
  have hA := (hg.2 (3 + mH M) (by omega)).1.trans hA
  have hB := (hg.2 (3 + mH M) (by omega)).2.1.trans hB
  have hC := (hg.2 a (by omega)).1.trans hC
  have hPP : M9.2.2.1 a 0 = some (3 + mH M) := by rw [(hg.2 a (by omega)).2.2 (by omega)]; exact hPP
  have hh : mH M9 = mH M + 13 := by rw [hg.1, hh]
  clear hg hfo hq hq2
  refine r_iinc K dX5_init_62 (by decide) rfl ?_
  refine r_goto K 42 dX5_init_65 (by decide) ?_
  refine r_iload_n K dX5_init_42 rfl ?_
  refine r_iconst K dX5_init_43 ?_
  refine r_icmp_ge K 68 dX5_init_44 (by decide) (fun c44 => ?_) (fun c44 => ?_)
  · exact absurd c44 (by omega)
  refine r_aload_n K dX5_init_47 rfl ?_
  refine r_getR K dX5_init_48 f_X5_11 rfl (hC.trans hci) hPP ?_
  refine r_iload_n K dX5_init_51 rfl ?_
  refine r_nwM (M := M9) K dX5_init_52 (by decide) n_X5_9 (Nat.le_of_ble_eq_true rfl) (Nat.le_of_ble_eq_true rfl) (fun M10 e10 => ?_)
  have hq : M10.1 (3 + mH M9) = 0 ∧ 3 + mH M9 < 3 + mH M10 := ⟨(nw_T e10).1, by rw [(fr_nw (x := 0) e10).1]; omega⟩
  refine r_dup K dX5_init_55 ?_
  refine r_bipush K dX5_init_56 ?_
  refine rcI1g K dX5_init_58 c_X5_34 i_X0_init (kM_X0 (M := M10) (N := 120) (by decide) (by decide) rfl hq.1 hq.2) (by decide) (Nat.le_of_ble_eq_true rfl) ?_
  rintro _ T1 L1 P1 I1 n1 ⟨rfl, hM⟩
  refine mm_rr hM (fun M11 e11 => ?_)
  have hfo : fr (3 + mH M) M9 M11 2 := (((fr_nw (x := 3 + mH M9) e10).tr (fr_na e11)).low (Nat.le_refl _)).len rfl
  have hq2 : M11.1 (3 + mH M9) = 0 := ((fr_na e11).2 _ hq.2).1.trans hq.1
  refine r_aaM (M := M11) (j := 1) K dX5_init_61 (Or.inl ⟨(hfo.2 _ (by omega)).1.trans hA, hq2⟩) (by decide) (by rw [(hfo.2 _ (by omega)).2.1, hB]; decide) rfl (fun M12 e12 => ?_)
  have hg : fr (3 + mH M) M9 M12 2 := (hfo.tr (fr_pr e12)).len rfl
  have hA := (hg.2 (3 + mH M) (by omega)).1.trans hA
  have hB := (hg.2 (3 + mH M) (by omega)).2.1.trans hB
  have hC := (hg.2 a (by omega)).1.trans hC
  have hPP : M12.2.2.1 a 0 = some (3 + mH M) := by rw [(hg.2 a (by omega)).2.2 (by omega)]; exact hPP
  have hh : mH M12 = mH M + 15 := by rw [hg.1, hh]
  clear hg hfo hq hq2
  refine r_iinc K dX5_init_62 (by decide) rfl ?_
  refine r_goto K 42 dX5_init_65 (by decide) ?_
  refine r_iload_n K dX5_init_42 rfl ?_
  refine r_iconst K dX5_init_43 ?_
  refine r_icmp_ge K 68 dX5_init_44 (by decide) (fun c44 => ?_) (fun c44 => ?_)
  · exact absurd c44 (by omega)
  refine r_aload_n K dX5_init_47 rfl ?_
  refine r_getR K dX5_init_48 f_X5_11 rfl (hC.trans hci) hPP ?_
  refine r_iload_n K dX5_init_51 rfl ?_
  refine r_nwM (M := M12) K dX5_init_52 (by decide) n_X5_9 (Nat.le_of_ble_eq_true rfl) (Nat.le_of_ble_eq_true rfl) (fun M13 e13 => ?_)
  have hq : M13.1 (3 + mH M12) = 0 ∧ 3 + mH M12 < 3 + mH M13 := ⟨(nw_T e13).1, by rw [(fr_nw (x := 0) e13).1]; omega⟩
  refine r_dup K dX5_init_55 ?_
  refine r_bipush K dX5_init_56 ?_
  refine rcI1g K dX5_init_58 c_X5_34 i_X0_init (kM_X0 (M := M13) (N := 120) (by decide) (by decide) rfl hq.1 hq.2) (by decide) (Nat.le_of_ble_eq_true rfl) ?_
  rintro _ T1 L1 P1 I1 n1 ⟨rfl, hM⟩
  refine mm_rr hM (fun M14 e14 => ?_)
  have hfo : fr (3 + mH M) M12 M14 2 := (((fr_nw (x := 3 + mH M12) e13).tr (fr_na e14)).low (Nat.le_refl _)).len rfl
  have hq2 : M14.1 (3 + mH M12) = 0 := ((fr_na e14).2 _ hq.2).1.trans hq.1
  refine r_aaM (M := M14) (j := 2) K dX5_init_61 (Or.inl ⟨(hfo.2 _ (by omega)).1.trans hA, hq2⟩) (by decide) (by rw [(hfo.2 _ (by omega)).2.1, hB]; decide) rfl (fun M15 e15 => ?_)
  have hg : fr (3 + mH M) M12 M15 2 := (hfo.tr (fr_pr e15)).len rfl
  have hA := (hg.2 (3 + mH M) (by omega)).1.trans hA
  have hB := (hg.2 (3 + mH M) (by omega)).2.1.trans hB
  have hC := (hg.2 a (by omega)).1.trans hC
  have hPP : M15.2.2.1 a 0 = some (3 + mH M) := by rw [(hg.2 a (by omega)).2.2 (by omega)]; exact hPP
  have hh : mH M15 = mH M + 17 := by rw [hg.1, hh]
  clear hg hfo hq hq2
  refine r_iinc K dX5_init_62 (by decide) rfl ?_
  refine r_goto K 42 dX5_init_65 (by decide) ?_
  refine r_iload_n K dX5_init_42 rfl ?_
  refine r_iconst K dX5_init_43 ?_
  refine r_icmp_ge K 68 dX5_init_44 (by decide) (fun c44 => ?_) (fun c44 => ?_)
  · exact absurd c44 (by omega)
  refine r_aload_n K dX5_init_47 rfl ?_
  refine r_getR K dX5_init_48 f_X5_11 rfl (hC.trans hci) hPP ?_
  refine r_iload_n K dX5_init_51 rfl ?_
  refine r_nwM (M := M15) K dX5_init_52 (by decide) n_X5_9 (Nat.le_of_ble_eq_true rfl) (Nat.le_of_ble_eq_true rfl) (fun M16 e16 => ?_)
  have hq : M16.1 (3 + mH M15) = 0 ∧ 3 + mH M15 < 3 + mH M16 := ⟨(nw_T e16).1, by rw [(fr_nw (x := 0) e16).1]; omega⟩
  refine r_dup K dX5_init_55 ?_
  refine r_bipush K dX5_init_56 ?_
  refine rcI1g K dX5_init_58 c_X5_34 i_X0_init (kM_X0 (M := M16) (N := 120) (by decide) (by decide) rfl hq.1 hq.2) (by decide) (Nat.le_of_ble_eq_true rfl) ?_
  rintro _ T1 L1 P1 I1 n1 ⟨rfl, hM⟩
  refine mm_rr hM (fun M17 e17 => ?_)
  have hfo : fr (3 + mH M) M15 M17 2 := (((fr_nw (x := 3 + mH M15) e16).tr (fr_na e17)).low (Nat.le_refl _)).len rfl
  have hq2 : M17.1 (3 + mH M15) = 0 := ((fr_na e17).2 _ hq.2).1.trans hq.1
  refine r_aaM (M := M17) (j := 3) K dX5_init_61 (Or.inl ⟨(hfo.2 _ (by omega)).1.trans hA, hq2⟩) (by decide) (by rw [(hfo.2 _ (by omega)).2.1, hB]; decide) rfl (fun M18 e18 => ?_)
  have hg : fr (3 + mH M) M15 M18 2 := (hfo.tr (fr_pr e18)).len rfl
  have hA := (hg.2 (3 + mH M) (by omega)).1.trans hA
  have hB := (hg.2 (3 + mH M) (by omega)).2.1.trans hB
  have hC := (hg.2 a (by omega)).1.trans hC
  have hPP : M18.2.2.1 a 0 = some (3 + mH M) := by rw [(hg.2 a (by omega)).2.2 (by omega)]; exact hPP
  have hh : mH M18 = mH M + 19 := by rw [hg.1, hh]
  clear hg hfo hq hq2
  refine r_iinc K dX5_init_62 (by decide) rfl ?_
  refine r_goto K 42 dX5_init_65 (by decide) ?_
  refine r_iload_n K dX5_init_42 rfl ?_
  refine r_iconst K dX5_init_43 ?_
  refine r_icmp_ge K 68 dX5_init_44 (by decide) (fun c44 => ?_) (fun c44 => ?_)
  · exact absurd c44 (by omega)
  refine r_aload_n K dX5_init_47 rfl ?_
  refine r_getR K dX5_init_48 f_X5_11 rfl (hC.trans hci) hPP ?_
  refine r_iload_n K dX5_init_51 rfl ?_
  refine r_nwM (M := M18) K dX5_init_52 (by decide) n_X5_9 (Nat.le_of_ble_eq_true rfl) (Nat.le_of_ble_eq_true rfl) (fun M19 e19 => ?_)
  have hq : M19.1 (3 + mH M18) = 0 ∧ 3 + mH M18 < 3 + mH M19 := ⟨(nw_T e19).1, by rw [(fr_nw (x := 0) e19).1]; omega⟩
  refine r_dup K dX5_init_55 ?_
  refine r_bipush K dX5_init_56 ?_
  refine rcI1g K dX5_init_58 c_X5_34 i_X0_init (kM_X0 (M := M19) (N := 120) (by decide) (by decide) rfl hq.1 hq.2) (by decide) (Nat.le_of_ble_eq_true rfl) ?_
  rintro _ T1 L1 P1 I1 n1 ⟨rfl, hM⟩
  refine mm_rr hM (fun M20 e20 => ?_)
  have hfo : fr (3 + mH M) M18 M20 2 := (((fr_nw (x := 3 + mH M18) e19).tr (fr_na e20)).low (Nat.le_refl _)).len rfl
  have hq2 : M20.1 (3 + mH M18) = 0 := ((fr_na e20).2 _ hq.2).1.trans hq.1
  refine r_aaM (M := M20) (j := 4) K dX5_init_61 (Or.inl ⟨(hfo.2 _ (by omega)).1.trans hA, hq2⟩) (by decide) (by rw [(hfo.2 _ (by omega)).2.1, hB]; decide) rfl (fun M21 e21 => ?_)
  have hg : fr (3 + mH M) M18 M21 2 := (hfo.tr (fr_pr e21)).len rfl
  have hA := (hg.2 (3 + mH M) (by omega)).1.trans hA
  have hB := (hg.2 (3 + mH M) (by omega)).2.1.trans hB
  have hC := (hg.2 a (by omega)).1.trans hC
  have hPP : M21.2.2.1 a 0 = some (3 + mH M) := by rw [(hg.2 a (by omega)).2.2 (by omega)]; exact hPP
  have hh : mH M21 = mH M + 21 := by rw [hg.1, hh]
  clear hg hfo hq hq2
  refine r_iinc K dX5_init_62 (by decide) rfl ?_
  refine r_goto K 42 dX5_init_65 (by decide) ?_
  refine r_iload_n K dX5_init_42 rfl ?_
  refine r_iconst K dX5_init_43 ?_
  refine r_icmp_ge K 68 dX5_init_44 (by decide) (fun c44 => ?_) (fun c44 => ?_)
  · exact q_vret K hQ rfl dX5_init_68 (Nat.le_refl _) (Nat.le_refl _) ⟨rfl, by show M21 = _; rw [e21, e20, e19, e18, e17, e16, e15, e14, e13, e12, e11, e10, e9, e8, e7, e6, e5, e4, e3, e2, e1]; rfl⟩
  · exact absurd c44 (by omega)
set_option maxHeartbeats 4000000 in
set_option maxRecDepth 100000 in
theorem kM_X7 (hT : M.1 a = 7) (ha : a < 3 + mH M) : gX7_init 50 3702 [.inr (some a)] M.1 M.2.1 M.2.2.1 M.2.2.2.1 M.2.2.2.2 (isM (bIni a M)) := by
  refine CT.by (by decide) (Nat.le_of_ble_eq_true rfl) fun X Y Q hQ K hv => ?_
  refine r_aload_n K dX7_init_0 rfl ?_
  refine r_obj K dX7_init_1 o_X7_3 (Nat.le_of_ble_eq_true rfl) (Nat.le_of_ble_eq_true rfl) ?_
  have F0 : fr a M M 0 := fr.rf a M
  obtain ⟨ci, hci⟩ : ∃ ci, ci = 7 := ⟨_, rfl⟩
  rw [← hci] at hT
  refine r_aload_n K dX7_init_4 rfl ?_
  refine r_nwM (M := M) K dX7_init_5 (by decide) n_X7_9 (Nat.le_of_ble_eq_true rfl) (Nat.le_of_ble_eq_true rfl) (fun M1 e1 => ?_)
  have hq : M1.1 (3 + mH M) = 0 ∧ 3 + mH M < 3 + mH M1 := ⟨(nw_T e1).1, by rw [(fr_nw (x := 0) e1).1]; omega⟩
  refine r_dup K dX7_init_8 ?_
  refine r_sipush K dX7_init_9 ?_
  refine rcI1g K dX7_init_12 c_X7_11 i_X0_init (kM_X0 (M := M1) (N := 200) (by decide) (by decide) rfl hq.1 hq.2) (by decide) (Nat.le_of_ble_eq_true rfl) ?_
  rintro _ T1 L1 P1 I1 n1 ⟨rfl, hM⟩
  refine mm_rr hM (fun M2 e2 => ?_)
  have hfo : fr a M M2 2 := (((fr_nw (x := 3 + mH M) e1).tr (fr_na e2)).low (Nat.le_refl _)).len rfl
  have hTa : M2.1 a = ci := ((F0.tr hfo).2 a ha).1.trans hT
  refine r_prM (M := M2) K dX7_init_15 f_X7_14 rfl p_X7_14 ⟨rfl, rfl⟩ (hTa.trans hci) (fun M3 e3 => ?_)
  have F1 : fr a M M3 2 := (F0.tr (hfo.tr (fr_pr e3))).len rfl
  refine r_aload_n K dX7_init_18 rfl ?_
  refine r_nwM (M := M3) K dX7_init_19 (by decide) n_X7_18 (Nat.le_of_ble_eq_true rfl) (Nat.le_of_ble_eq_true rfl) (fun M4 e4 => ?_)
  have hq : M4.1 (3 + mH M3) = 5 ∧ 3 + mH M3 < 3 + mH M4 := ⟨(nw_T e4).1, by rw [(fr_nw (x := 0) e4).1]; omega⟩
  refine r_dup K dX7_init_22 ?_
  refine rcI0g K dX7_init_23 c_X7_20 i_X5_init (kM_X5 (M := M4) hq.1 hq.2) (by decide) (Nat.le_of_ble_eq_true rfl) ?_
  rintro _ T1 L1 P1 I1 n1 ⟨rfl, hM⟩
  refine mm_rr hM (fun M5 e5 => ?_)
  have hfo : fr a M3 M5 22 := (((fr_nw (x := 3 + mH M3) e4).tr (fr_s e5 rfl)).low (Nat.le_refl _)).len rfl
  have hTa : M5.1 a = ci := ((F1.tr hfo).2 a ha).1.trans hT
  refine r_prM (M := M5) K dX7_init_26 f_X7_21 rfl p_X7_21 ⟨rfl, rfl⟩ (hTa.trans hci) (fun M6 e6 => ?_)
  have F2 : fr a M M6 24 := (F1.tr (hfo.tr (fr_pr e6))).len rfl
  refine r_aload_n K dX7_init_29 rfl ?_
  refine r_nwM (M := M6) K dX7_init_30 (by decide) n_X7_25 (Nat.le_of_ble_eq_true rfl) (Nat.le_of_ble_eq_true rfl) (fun M7 e7 => ?_)
  have hq : M7.1 (3 + mH M6) = 6 ∧ 3 + mH M6 < 3 + mH M7 := ⟨(nw_T e7).1, by rw [(fr_nw (x := 0) e7).1]; omega⟩
  refine r_dup K dX7_init_33 ?_
  refine rcI0g K dX7_init_34 c_X7_27 i_X6_init (kM_X6 (M := M7) hq.1 hq.2) (by decide) (Nat.le_of_ble_eq_true rfl) ?_
  rintro _ T1 L1 P1 I1 n1 ⟨rfl, hM⟩
  refine mm_rr hM (fun M8 e8 => ?_)
  have hfo : fr a M6 M8 4 := (((fr_nw (x := 3 + mH M6) e7).tr (fr_t e8 rfl)).low (Nat.le_refl _)).len rfl
  have hTa : M8.1 a = ci := ((F2.tr hfo).2 a ha).1.trans hT
  refine r_prM (M := M8) K dX7_init_37 f_X7_28 rfl p_X7_28 ⟨rfl, rfl⟩ (hTa.trans hci) (fun M9 e9 => ?_)
  have F3 : fr a M M9 28 := (F2.tr (hfo.tr (fr_pr e9))).len rfl
  refine r_aload_n K dX7_init_40 rfl ?_
  refine r_nwM (M := M9) K dX7_init_41 (by decide) n_X7_25 (Nat.le_of_ble_eq_true rfl) (Nat.le_of_ble_eq_true rfl) (fun M10 e10 => ?_)
  have hq : M10.1 (3 + mH M9) = 6 ∧ 3 + mH M9 < 3 + mH M10 := ⟨(nw_T e10).1, by rw [(fr_nw (x := 0) e10).1]; omega⟩
  refine r_dup K dX7_init_44 ?_
  refine rcI0g K dX7_init_45 c_X7_27 i_X6_init (kM_X6 (M := M10) hq.1 hq.2) (by decide) (Nat.le_of_ble_eq_true rfl) ?_
  rintro _ T1 L1 P1 I1 n1 ⟨rfl, hM⟩
  refine mm_rr hM (fun M11 e11 => ?_)
  have hfo : fr a M9 M11 4 := (((fr_nw (x := 3 + mH M9) e10).tr (fr_t e11 rfl)).low (Nat.le_refl _)).len rfl
  have hTa : M11.1 a = ci := ((F3.tr hfo).2 a ha).1.trans hT
  refine r_prM (M := M11) K dX7_init_48 f_X7_32 rfl p_X7_32 ⟨rfl, rfl⟩ (hTa.trans hci) (fun M12 e12 => ?_)
  have F4 : fr a M M12 32 := (F3.tr (hfo.tr (fr_pr e12))).len rfl
  refine r_aload_n K dX7_init_51 rfl ?_
  refine r_nwM (M := M12) K dX7_init_52 (by decide) n_X7_35 (Nat.le_of_ble_eq_true rfl) (Nat.le_of_ble_eq_true rfl) (fun M13 e13 => ?_)
  have hq : M13.1 (3 + mH M12) = 3 ∧ 3 + mH M12 < 3 + mH M13 := ⟨(nw_T e13).1, by rw [(fr_nw (x := 0) e13).1]; omega⟩
  refine r_dup K dX7_init_55 ?_
  refine rcI0g K dX7_init_56 c_X7_37 i_X3_init (kM_X3 (M := M13) hq.1 hq.2) (by decide) (Nat.le_of_ble_eq_true rfl) ?_
  rintro _ T1 L1 P1 I1 n1 ⟨rfl, hM⟩
  refine mm_rr hM (fun M14 e14 => ?_)
  have hfo : fr a M12 M14 5 := (((fr_nw (x := 3 + mH M12) e13).tr (fr_p e14 rfl)).low (Nat.le_refl _)).len rfl
  have hTa : M14.1 a = ci := ((F4.tr hfo).2 a ha).1.trans hT
  refine r_prM (M := M14) K dX7_init_59 f_X7_38 rfl p_X7_38 ⟨rfl, rfl⟩ (hTa.trans hci) (fun M15 e15 => ?_)
  have F5 : fr a M M15 37 := (F4.tr (hfo.tr (fr_pr e15))).len rfl
  refine r_aload_n K dX7_init_62 rfl ?_
  refine r_nwM (M := M15) K dX7_init_63 (by decide) n_X7_42 (Nat.le_of_ble_eq_true rfl) (Nat.le_of_ble_eq_true rfl) (fun M16 e16 => ?_)
  have hq : M16.1 (3 + mH M15) = 1 ∧ 3 + mH M15 < 3 + mH M16 := ⟨(nw_T e16).1, by rw [(fr_nw (x := 0) e16).1]; omega⟩
  refine r_dup K dX7_init_66 ?_
  refine rcI0g K dX7_init_67 c_X7_44 i_X1_init (kM_X1 (M := M16) hq.1 hq.2) (by decide) (Nat.le_of_ble_eq_true rfl) ?_
  rintro _ T1 L1 P1 I1 n1 ⟨rfl, hM⟩
  refine mm_rr hM (fun M17 e17 => ?_)
  have hfo : fr a M15 M17 9 := (((fr_nw (x := 3 + mH M15) e16).tr (fr_d e17 rfl)).low (Nat.le_refl _)).len rfl
  have hTa : M17.1 a = ci := ((F5.tr hfo).2 a ha).1.trans hT
  refine r_prM (M := M17) K dX7_init_70 f_X7_45 rfl p_X7_45 ⟨rfl, rfl⟩ (hTa.trans hci) (fun M18 e18 => ?_)
  have F6 : fr a M M18 46 := (F5.tr (hfo.tr (fr_pr e18))).len rfl
  refine r_aload_n K dX7_init_73 rfl ?_
  refine r_nwM (M := M18) K dX7_init_74 (by decide) n_X7_49 (Nat.le_of_ble_eq_true rfl) (Nat.le_of_ble_eq_true rfl) (fun M19 e19 => ?_)
  have hq : M19.1 (3 + mH M18) = 2 ∧ 3 + mH M18 < 3 + mH M19 := ⟨(nw_T e19).1, by rw [(fr_nw (x := 0) e19).1]; omega⟩
  refine r_dup K dX7_init_77 ?_
  refine rcI0g K dX7_init_78 c_X7_51 i_X2_init (kM_X2 (M := M19) hq.1 hq.2) (by decide) (Nat.le_of_ble_eq_true rfl) ?_
  rintro _ T1 L1 P1 I1 n1 ⟨rfl, hM⟩
  refine mm_rr hM (fun M20 e20 => ?_)
  have hfo : fr a M18 M20 4 := (((fr_nw (x := 3 + mH M18) e19).tr (fr_f e20 rfl)).low (Nat.le_refl _)).len rfl
  have hTa : M20.1 a = ci := ((F6.tr hfo).2 a ha).1.trans hT
  refine r_prM (M := M20) K dX7_init_81 f_X7_52 rfl p_X7_52 ⟨rfl, rfl⟩ (hTa.trans hci) (fun M21 e21 => ?_)
  have F7 : fr a M M21 50 := (F6.tr (hfo.tr (fr_pr e21))).len rfl
  exact q_vret K hQ rfl dX7_init_84 (Nat.le_refl _) (Nat.le_refl _) ⟨rfl, by show M21 = _; rw [e21, e20, e19, e18, e17, e16, e15, e14, e13, e12, e11, e10, e9, e8, e7, e6, e5, e4, e3, e2, e1]; rfl⟩
end INJ
