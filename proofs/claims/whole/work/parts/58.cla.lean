/-! THE CLAIM OUT OF ONE WALK OF THE LAW'S BODY. Your part is whole_start (and what it stands on); all else here is the same for every law, but numbers. -/
def R_law : String := "PatchBenchLaw"
def lw_P (b : Addr) (xs : List Int32) (args : Array Value) (s : State) : Prop := args = #[.ref b] ∧ s.IntsAt b xs ∧ xs.length ≤ 3072 ∧ (Jvm.Cond.and given_1 narrow_1).before args s = true
def lw_Q (_ : Array Value) (s : State) (o : Outcome) (t : State) : Prop := o = .returned (some (.int 1)) ∧ Framed s o t [] 600000 7302250
def lw_Z (below : List Frame) (a : Array Value) (s : State) : State → Prop := fun t => ∃ o, t.status = .running ∧ Ended t below o ∧ lw_Q a s o t
/-- the law's own end, with 1 on the stack, nothing written that was there before, its room as the claim has it -/
theorem lw_ret {p : Program} {l : Launch} {e : Env} {s : State} {m : MethodId} {below : List Frame} {meth : Method} {c : Code} {b : Nat} (hx : p.tables.exec = Jvm.exec) (hb : c.code = code) (hr : meth.sig.returnType = ret) (hlocks : meth.locks = false) {pc : Nat} {H : Heap} {ls : Array Slot} (hdg : decode code pc = .ok (.ireturn, 1)) : W p l e room_1 s m #[Value.ref b] below meth c H [] 600000 7302250 (lw_Z below #[Value.ref b] s) (F0 m pc ls [.int 1]) := by
  intro T hT X
  obtain ⟨fs, hret, hrun, hended, hW, hframe⟩ := X.leave (v := some (.int 1)) (hlocks := hlocks) (fun h => by rw [hr] at h; cases h)
  have hmeth' : T.vm.method? m = some meth := X.method'
  refine ⟨T.setFrames fs, ?_, .returned (some (.int 1)), hrun, hended, rfl, ⟨_, rfl⟩, hW, hframe⟩
  jvm_step X.here [X.here.top, hx, hb, hdg, hmeth', hr, ret, narrow_b1]
  (try refine ⟨rfl, ?_⟩); (try refine ⟨rfl, ?_⟩)
  first | (intro acts; rw [hret _ acts rfl rfl rfl]) | rw [hret _ _ rfl rfl rfl]
  exact Steps.refl _
/-- what holds at the law's entry: the machine, the code, the tables' words (any of lw_tbl by 'hts w (by decide +kernel)'), the script of L ints xs at the cell b, what the Statement gives of the start (any of its parts by flat_of_before) -/
def lw_At (p : Program) (s : State) (m : MethodId) (meth : Method) (c : Code) (b L : Nat) (xs : Nat → Int32) : Prop :=
  p.tables.exec = Jvm.exec ∧ c.code = code ∧ meth.sig.returnType = ret ∧ c.maxLocals = 4 ∧ s.vm.findClass R_law = some m.cls ∧ (∀ w ∈ lw_tbl, w.before #[Value.ref b] s = true) ∧ va_X b L xs s s.heap ∧ b < s.heap.size ∧ meth.locks = false ∧ (Jvm.Cond.and given_1 narrow_1).before #[Value.ref b] s = true
set_option maxHeartbeats 4000000 in
set_option maxRecDepth 100000 in
theorem arr_p {s : State} {ty : FieldType} {a : Array Value} (h : (Cond.arrayClass ty).before a s = true) (hn : ∀ C, ty ≠ .object C) : ∃ cA, ArrOfT s cA ty ∧ va_RA s cA ty := by
  obtain ⟨cA, kA, comp, h1, h2, h3⟩ := Cond.arrayClass_spec h
  refine ⟨cA, fun n z => ⟨fun k h => (by cases h), kA, h2, comp, h3⟩, ?_⟩
  cases ty with
  | object C => exact absurd rfl (hn C)
  | _ => exact h1
theorem arr_q {s : State} {C : String} {a : Array Value} (h : (Cond.arrayOver (.object C)).before a s = true) : ∃ cA, ArrOfT s cA (.object C) ∧ va_RA s cA (.object C) := by
  obtain ⟨comp, c, k, h1, h2, h3, h4, h5⟩ := Cond.arrayOver_spec h
  exact ⟨c, fun n z => ⟨fun k h => (by cases h), k, h3, comp, h4⟩, k, comp, h3, h4, h1, h5⟩
set_option maxHeartbeats 4000000 in
set_option maxRecDepth 100000 in
/-- THE LAW, from its entry -/
theorem whole_start {p : Program} {e : Env} {s : State} {m : MethodId} {below : List Frame} {meth : Method} {c : Code} (l : Launch) {b L : Nat} {xs : Nat → Int32} (hL : L ≤ 3072) (C0 : lw_At p s m meth c b L xs) : W p l e room_1 s m #[Value.ref b] below meth c s.heap [] 0 0 (lw_Z below #[Value.ref b] s) (entryFrame m ([Value.ref b] : List Value).toArray 4) := by
  obtain ⟨hx, hb, hr, hml, hown, hts, hX, hbl, hlocks, hgv⟩ := id C0
  have hs := flat_of_before _ hgv
  obtain ⟨tpF, htpF, hTpF⟩ := va_Tof (tm := .static "PatchBench" "PAIR_FROM" "[I") (ty := .int) (N := 10) (f := fun j => .int (Int32.ofInt ((pF j : Nat) : Int))) (A := fun q : Nat => s.heap.size ≤ q) (args := #[Value.ref b]) (s := s) (by decide) (hs _ (by decide +kernel)) (va_eqt (hs (.eq (.length (.static "PatchBench" "PAIR_FROM" "[I")) (.int (10 : Int32))) (by decide +kernel))) (fun j hj => match j, hj with
    | 0, _ => va_eqt (z := 0) (hs (.eq (.elem (.static "PatchBench" "PAIR_FROM" "[I") (.int (0 : Int32))) (.int (0 : Int32))) (by decide +kernel))
    | 1, _ => va_eqt (z := 0) (hs (.eq (.elem (.static "PatchBench" "PAIR_FROM" "[I") (.int (1 : Int32))) (.int (0 : Int32))) (by decide +kernel))
    | 2, _ => va_eqt (z := 0) (hs (.eq (.elem (.static "PatchBench" "PAIR_FROM" "[I") (.int (2 : Int32))) (.int (0 : Int32))) (by decide +kernel))
    | 3, _ => va_eqt (z := 0) (hs (.eq (.elem (.static "PatchBench" "PAIR_FROM" "[I") (.int (3 : Int32))) (.int (0 : Int32))) (by decide +kernel))
    | 4, _ => va_eqt (z := 1) (hs (.eq (.elem (.static "PatchBench" "PAIR_FROM" "[I") (.int (4 : Int32))) (.int (1 : Int32))) (by decide +kernel))
    | 5, _ => va_eqt (z := 1) (hs (.eq (.elem (.static "PatchBench" "PAIR_FROM" "[I") (.int (5 : Int32))) (.int (1 : Int32))) (by decide +kernel))
    | 6, _ => va_eqt (z := 1) (hs (.eq (.elem (.static "PatchBench" "PAIR_FROM" "[I") (.int (6 : Int32))) (.int (1 : Int32))) (by decide +kernel))
    | 7, _ => va_eqt (z := 2) (hs (.eq (.elem (.static "PatchBench" "PAIR_FROM" "[I") (.int (7 : Int32))) (.int (2 : Int32))) (by decide +kernel))
    | 8, _ => va_eqt (z := 2) (hs (.eq (.elem (.static "PatchBench" "PAIR_FROM" "[I") (.int (8 : Int32))) (.int (2 : Int32))) (by decide +kernel))
    | 9, _ => va_eqt (z := 3) (hs (.eq (.elem (.static "PatchBench" "PAIR_FROM" "[I") (.int (9 : Int32))) (.int (3 : Int32))) (by decide +kernel))
    | j + 10, h => absurd h (by omega)) (fun a ha => Nat.not_le.mpr ha)
  obtain ⟨tpT, htpT, hTpT⟩ := va_Tof (tm := .static "PatchBench" "PAIR_TO" "[I") (ty := .int) (N := 10) (f := fun j => .int (Int32.ofInt ((pT j : Nat) : Int))) (A := fun q : Nat => s.heap.size ≤ q) (args := #[Value.ref b]) (s := s) (by decide) (hs _ (by decide +kernel)) (va_eqt (hs (.eq (.length (.static "PatchBench" "PAIR_TO" "[I")) (.int (10 : Int32))) (by decide +kernel))) (fun j hj => match j, hj with
    | 0, _ => va_eqt (z := 1) (hs (.eq (.elem (.static "PatchBench" "PAIR_TO" "[I") (.int (0 : Int32))) (.int (1 : Int32))) (by decide +kernel))
    | 1, _ => va_eqt (z := 2) (hs (.eq (.elem (.static "PatchBench" "PAIR_TO" "[I") (.int (1 : Int32))) (.int (2 : Int32))) (by decide +kernel))
    | 2, _ => va_eqt (z := 3) (hs (.eq (.elem (.static "PatchBench" "PAIR_TO" "[I") (.int (2 : Int32))) (.int (3 : Int32))) (by decide +kernel))
    | 3, _ => va_eqt (z := 4) (hs (.eq (.elem (.static "PatchBench" "PAIR_TO" "[I") (.int (3 : Int32))) (.int (4 : Int32))) (by decide +kernel))
    | 4, _ => va_eqt (z := 2) (hs (.eq (.elem (.static "PatchBench" "PAIR_TO" "[I") (.int (4 : Int32))) (.int (2 : Int32))) (by decide +kernel))
    | 5, _ => va_eqt (z := 3) (hs (.eq (.elem (.static "PatchBench" "PAIR_TO" "[I") (.int (5 : Int32))) (.int (3 : Int32))) (by decide +kernel))
    | 6, _ => va_eqt (z := 4) (hs (.eq (.elem (.static "PatchBench" "PAIR_TO" "[I") (.int (6 : Int32))) (.int (4 : Int32))) (by decide +kernel))
    | 7, _ => va_eqt (z := 3) (hs (.eq (.elem (.static "PatchBench" "PAIR_TO" "[I") (.int (7 : Int32))) (.int (3 : Int32))) (by decide +kernel))
    | 8, _ => va_eqt (z := 4) (hs (.eq (.elem (.static "PatchBench" "PAIR_TO" "[I") (.int (8 : Int32))) (.int (4 : Int32))) (by decide +kernel))
    | 9, _ => va_eqt (z := 4) (hs (.eq (.elem (.static "PatchBench" "PAIR_TO" "[I") (.int (9 : Int32))) (.int (4 : Int32))) (by decide +kernel))
    | j + 10, h => absurd h (by omega)) (fun a ha => Nat.not_le.mpr ha)
  obtain ⟨a10, h10⟩ := arr_p (ty := .int) (hts (.arrayClass .int) (by decide +kernel)) (fun C h => by cases h)
  obtain ⟨a11, h11⟩ := arr_p (ty := .byte) (hts (.arrayClass .byte) (by decide +kernel)) (fun C h => by cases h)
  obtain ⟨a12, h12⟩ := arr_p (ty := .boolean) (hts (.arrayClass .boolean) (by decide +kernel)) (fun C h => by cases h)
  obtain ⟨a13, h13⟩ := arr_q (C := RX0) (hts (.arrayOver (.object RX0)) (by decide +kernel))
  obtain ⟨a14, h14⟩ := arr_q (C := RX3) (hts (.arrayOver (.object RX3)) (by decide +kernel))
  have hkn : ∀ ci, ci < 9 → ∃ (cC : ClassId) (iS : Nat → Nat), u_Kn s (Rn ci) (Tn ci) (cN ci) cC iS := fun ci hci => u_known (n := cN ci) (ws := lw_tbl) hts (fun w hw => (List.mem_filter.mp (cl_in hci w hw)).1) (hts (.instantiable (Rn ci) (cN ci)) (ci_9 (P := fun ci => Cond.instantiable (Rn ci) (cN ci) ∈ lw_tbl) (by decide +kernel) (by decide +kernel) (by decide +kernel) (by decide +kernel) (by decide +kernel) (by decide +kernel) (by decide +kernel) (by decide +kernel) (by decide +kernel) hci))
  obtain ⟨D, hD⟩ : ∃ D : va_G, ∀ ci, ci < 9 → u_Kn s (Rn ci) (Tn ci) (cN ci) (D.1 ci) (D.2 ci) := by
    have h1 : ∀ ci : Nat, ∃ q : ClassId × (Nat → Nat), ci < 9 → u_Kn s (Rn ci) (Tn ci) (cN ci) q.1 q.2 := fun ci => by
      by_cases h : ci < 9
      · obtain ⟨cC, iS, hh⟩ := hkn ci h
        exact ⟨(cC, iS), fun _ => hh⟩
      · obtain ⟨cC, iS, hh⟩ := hkn 0 (by decide)
        exact ⟨(cC, iS), fun w => absurd w h⟩
    exact ⟨(fun ci => (Classical.choose (h1 ci)).1, fun ci => (Classical.choose (h1 ci)).2), fun ci h => Classical.choose_spec (h1 ci) h⟩
  obtain ⟨Y, hY⟩ : ∃ Y : SY, Y = (D, (fun t => if t = 10 then a10 else if t = 11 then a11 else if t = 12 then a12 else if t = 13 then a13 else a14), s.heap.size, (fun k => if k = 0 then b else if k = 1 then tpF else tpT), (fun k => if k = 0 then L else 10), (fun k j => if k = 0 then (xs j).toInt else if k = 1 then ((pF j : Nat) : Int) else ((pT j : Nat) : Int))) := ⟨_, rfl⟩
  have y0 : yB Y = s.heap.size := by rw [hY]
  have yd : yD Y = D := by rw [hY]
  have hA : yA Y = fun q : Nat => s.heap.size ≤ q := by unfold yA; rw [y0]
  have hpF : ∀ j, pF j < 5 := fun j => by
    by_cases h : j < 10
    · exact (show ∀ j : Fin 10, pF j.val < 5 by decide) ⟨j, h⟩
    · have : pF j = 0 := by unfold pF; rw [List.getD_eq_getElem?_getD, List.getElem?_eq_none (by simp; omega)]; rfl
      omega
  have hpT : ∀ j, pT j < 5 := fun j => by
    by_cases h : j < 10
    · exact (show ∀ j : Fin 10, pT j.val < 5 by decide) ⟨j, h⟩
    · have : pT j = 0 := by unfold pT; rw [List.getD_eq_getElem?_getD, List.getElem?_eq_none (by simp; omega)]; rfl
      omega
  have hI0 : ∀ j, yI Y 0 j = (xs j).toInt := fun j => by rw [hY]; rfl
  have hI1 : ∀ j, yI Y 1 j = ((pF j : Nat) : Int) := fun j => by rw [hY]; rfl
  have hI2 : ∀ j, yI Y 2 j = ((pT j : Nat) : Int) := fun j => by rw [hY]; rfl
  have hrg : ∀ k i, k < 3 → rg (yI Y k i) := fun k i hk => by
    rcases (show k = 0 ∨ k = 1 ∨ k = 2 by omega) with q | q | q <;> subst q
    · rw [hI0]; exact rg_of _
    · rw [hI1]; have := hpF i; exact ⟨by omega, by omega⟩
    · rw [hI2]; have := hpT i; exact ⟨by omega, by omega⟩
  have hyL : yL Y 0 = L ∧ yL Y 1 = 10 ∧ yL Y 2 = 10 := by rw [hY]; exact ⟨rfl, rfl, rfl⟩
  have hyS : ySp Y 0 = b ∧ ySp Y 1 = tpF ∧ ySp Y 2 = tpT := by rw [hY]; exact ⟨rfl, rfl, rfl⟩
  have hK : KK Y s := by
    refine ⟨⟨fun ci q hq => ?_, fun k q hq => ?_⟩, fun a w hw hm => mov_warm hm (State.WarmedH.refl s) (hts w hw), by rw [y0]; exact Nat.le_refl _, fun k hk => ?_, fun k hk => ?_, fun k i hk => hrg k i hk, ?_, ?_⟩
    · have hci : ci < 9 := (List.getElem?_eq_some_iff.mp hq).1
      rw [cl_at hci] at hq
      cases hq
      rw [yd]; exact hD ci hci
    · rw [hY] at hq
      match k, hq with
      | 0, hq => cases hq; exact h10
      | 1, hq => cases hq; exact h11
      | 2, hq => cases hq; exact h12
      | 3, hq => cases hq; exact h13
      | 4, hq => cases hq; exact h14
      | k + 5, hq => simp at hq
    · rw [hA]
      rcases (show k = 0 ∨ k = 1 ∨ k = 2 by omega) with q | q | q <;> subst q
      · rw [hyL.1, hyS.1]
        obtain ⟨scr, x1, x2, x3, x4, x5⟩ := hX
        refine ⟨scr, x1, x2, x3, by omega, by rw [x4], fun j hj => ?_, Nat.not_le.mpr hbl⟩
        show scr.slots[j]? = some (Value.int (Int32.ofInt (yI Y 0 j)))
        rw [x5 j hj, hI0, oi_of]
      · rw [hyL.2.1, hyS.2.1, show (fun j => Value.int (Int32.ofInt (yI Y 1 j))) = fun j => Value.int (Int32.ofInt ((pF j : Nat) : Int)) from funext fun j => by rw [hI1]]
        exact hTpF
      · rw [hyL.2.2, hyS.2.2, show (fun j => Value.int (Int32.ofInt (yI Y 2 j))) = fun j => Value.int (Int32.ofInt ((pT j : Nat) : Int)) from funext fun j => by rw [hI2]]
        exact hTpT
    · rcases (show k = 0 ∨ k = 1 ∨ k = 2 by omega) with q | q | q <;> subst q
      · rw [hyL.1]; omega
      · rw [hyL.2.1]; decide
      · rw [hyL.2.2]; decide
    · rw [hA, hyS.2.1]
      exact va_Zof (hts (.laysStatic "PatchBench" "PAIR_FROM" "[I") (by decide +kernel)) (hts (.initialized "PatchBench") (by decide +kernel)) htpF (fun a ha => Nat.not_le.mpr ha)
    · rw [hA, hyS.2.2]
      exact va_Zof (hts (.laysStatic "PatchBench" "PAIR_TO" "[I") (by decide +kernel)) (hts (.initialized "PatchBench") (by decide +kernel)) htpT (fun a ha => Nat.not_le.mpr ha)
  obtain ⟨X, hXx⟩ : ∃ X : Cx, X = (p, l, e, room_1, s, m, #[Value.ref b], below, meth, c) := ⟨_, rfl⟩
  have K : KW X Y meth.name := by
    rw [hXx]
    exact ⟨hx, hb, hml, hown, hK, hr, hlocks, rfl, rfl⟩
  have hend : ∀ (T L : Nat → Nat) (P : Nat → Nat → Option Nat) (I : Nat → Nat → Int) (hn cells slots : Nat) (ls : List (Option PV)), cells ≤ 600000 → slots ≤ 7302250 → RR X Y (lw_Z below #[Value.ref b] s) cells slots 753 ls [] T L P I hn := by
    intro T L P I hn cells slots ls hc hsl
    refine r_iconst K dL_law_753 ?_
    intro H locs la hH hS hLa hV
    rw [hXx] at hS ⊢
    rw [hA] at hS
    refine va_forget (fun q hq => hS.2.2 q hq) ?_
    refine W.widen hc hsl ?_
    exact lw_ret hx hb hr hlocks dL_law_754
  obtain ⟨L0, hL0⟩ : ∃ L0 : Nat → Nat, L0 = fun k => if k < 3 then yL Y k else 0 := ⟨_, rfl⟩
  obtain ⟨I0, hI00⟩ : ∃ I0 : Nat → Nat → Int, I0 = fun k => if k < 3 then yI Y k else fun _ => 0 := ⟨_, rfl⟩
  have hgo := law_go (L0 := L0) (I0 := I0) K (by rw [hyL.1]; exact hL) hyL.2 (fun k hk => ⟨hI1 k, hI2 k⟩) (fun k hk => by rw [hL0]; exact if_neg (by omega)) (fun k hk => by rw [hI00]; exact if_neg (by omega)) hend
  have hH : HR Y (w0 L0 I0).1 (w0 L0 I0).2.1 (w0 L0 I0).2.2.1 (w0 L0 I0).2.2.2.1 (w0 L0 I0).2.2.2.2 s.heap := by
    refine ⟨by rw [y0]; rfl, fun k h1 h2 => absurd h2 (by show ¬ k < 3 + 0; omega), fun k hk => ?_, fun k hk => ?_, fun k i => ?_, fun k hk => ⟨?_, ?_, fun i => ?_⟩⟩
    · show (if k < 3 then 15 else 99) = 99
      have hk : 3 + 0 ≤ k := hk
      rw [if_neg (by omega)]
    · show (if k < 3 then 15 else 99) ≠ 15
      rw [if_neg (by omega)]; decide
    · show rg (I0 k i)
      rw [hI00]
      by_cases w : k < 3
      · simp only [if_pos w]; exact hrg k i w
      · simp only [if_neg w]; exact rg0
    · show (if k < 3 then 15 else 99) = 15
      rw [if_pos hk]
    · show L0 k = yL Y k
      rw [hL0]; exact if_pos hk
    · show I0 k i = yI Y k i
      rw [hI00]; simp only [if_pos hk]
  rw [lg_entry_eq]
  have hla : LH Y ((lg_sl (([.inr (some 0)] : List PV).map (eV Y)) ++ List.replicate (4 - (lg_sl (([.inr (some 0)] : List PV).map (eV Y))).length) Slot.unset).toArray) 4 (ls0 [.inr (some 0)] 4) := LH.entry (by decide) (fun v hv => by rw [List.mem_singleton.mp hv]; trivial)
  have heV : ([.inr (some 0)] : List PV).map (eV Y) = [Value.ref b] := by
    show [Value.ref (ad Y 0)] = _
    rw [ad, if_pos (by decide), hyS.1]
  rw [heV] at hla
  rw [hXx] at hgo
  refine hgo s.heap [] _ hH va_S.rf ?_ (fun v hv => by cases hv)
  show LH Y _ c.maxLocals _
  rw [hml]
  exact hla
set_option maxHeartbeats 4000000 in
theorem lw_walk (l : Launch) (b : Addr) (xs : List Int32) : MetFree l x (headSpec (Jvm.Cond.code x code maxLocals ret :: tables_1) room_1) (lw_P b xs) (fun _ _ _ _ _ => True) lw_Q := by
  refine MetFree.of_bodyS (code := code) (maxLocals := maxLocals) (ret := ret) (by decide) ?_ ?_
  · intro args s m h hn
    obtain ⟨meth, c, h1, h2, h3, h4, h5, h6, -, -⟩ := Cond.code_spec hn (atoms_spec (ws := Jvm.Cond.code x code maxLocals ret :: tables_1) h _ List.mem_cons_self)
    exact ⟨meth, c, h1, h2, h3, h4, h5, h6⟩
  · intro p e s m args below meth c s₁ B hml0 hP _
    obtain ⟨rfl, hx, hbd, hgv⟩ := hP
    obtain ⟨scr, harrAt, hlist, hof, hsmall⟩ := hx
    obtain ⟨hcb, hkn, -, -⟩ := State.arrayAt?_spec harrAt
    have hown : s.vm.findClass R_law = some m.cls := findClass_of_methodNamed B.named
    have hts0 : ∀ c ∈ (Jvm.Cond.code x code maxLocals ret :: tables_1), c.before #[Value.ref b] s = true := atoms_spec (ws := Jvm.Cond.code x code maxLocals ret :: tables_1) B.pre
    have hts : ∀ w ∈ lw_tbl, w.before #[Value.ref b] s = true := k2_hts_sels lw_privs (fun w hw => hts0 w (List.mem_cons_of_mem _ hw)) lw_privs_ok
    have hml : c.maxLocals = 4 := B.maxLocals_eq (hts0 _ List.mem_cons_self)
    have X₀ : Stand p l e room_1 s m #[Value.ref b] below meth c s₁ [] 0 0 := Stand.of_body B
    have hh0 : s₁.heap = s.heap := by rw [B.state]; rfl
    have hsz : scr.slots.size = xs.length := by rw [← Array.length_toList, hlist, List.length_map]
    have hval : ∀ j : Nat, j < xs.length → scr.slots[j]? = some (.int (xs.getD j 0)) := fun j hj => by
      rw [← Array.getElem?_toList, hlist]
      simp [hj]
    have hbl : b < s.heap.size := (Array.getElem?_eq_some_iff.mp hcb).1
    have hX : va_X b xs.length (fun j => xs.getD j 0) s s.heap := ⟨scr, hcb, hof, hkn, hsz, hval⟩
    have K : W p l e room_1 s m #[Value.ref b] below meth c s₁.heap [] 0 0 (lw_Z below #[Value.ref b] s) (entryFrame m ([Value.ref b] : List Value).toArray 4) := by
      rw [hh0]
      exact whole_start l hbd ⟨B.exec, B.bytes, B.returns, hml, hown, hts, hX, hbl, B.notSynchronized, hgv⟩
    obtain ⟨t, a1, o, b1, b2, b3⟩ := K s₁ rfl X₀
    exact ⟨t, o, a1, b1, b2, b3⟩
theorem lw_pre_spec {args : Array Value} {s : State} (h : (Jvm.Cond.and given_1 narrow_1).before args s = true) (hr : rest_1_c.before args s = true) : ∃ (b : Addr) (xs : List Int32), lw_P b xs args s := by
  have hs := flat_of_before _ h
  have hq := flat_of_before _ hr
  have hc : (Cond.count 1).before args s = true := hs _ (by decide +kernel)
  have harr : (Cond.arrayOf (.arg 0) .int).before args s = true := hs _ (by decide +kernel)
  have hle : (Cond.le (.length (.arg 0)) (.int 3072)).before args s = true := hs _ (by decide +kernel)
  have hlen : (Cond.isInt (.length (.arg 0))).before args s = true := hq _ (by decide +kernel)
  have hall : (Cond.all (.arg 0) (.isInt (.elem (.arg 0) (.index 0)))).before args s = true := hq _ (by decide +kernel)
  obtain ⟨b, xs, hb, hx⟩ := State.ints_of_pre rfl harr hlen hall
  have hsm : xs.length < 2 ^ 31 := hx.choose_spec.2.2.2
  have hev : (Term.length (.arg 0)).eval args s none [] s = some (.int xs.length.toInt32) := hx.length_eval hb
  have hv := Cond.le_ints hev (show (Term.int 3072).eval args s none [] s = some (.int 3072) from rfl)
  have hd : xs.length.toInt32 ≤ 3072 := by
    simpa [Cond.before, Cond.holds, hv] using hle
  have hN : xs.length ≤ 3072 := (Int32.ofNat_le_ofNat hsm (by decide)).mp (show Int32.ofNat xs.length ≤ Int32.ofNat 3072 from hd)
  exact ⟨b, xs, Cond.one_arg hc (show args[0]? = some (.ref b) from hb), hx, hN, h⟩
theorem lw_comes (l : Launch) : Comes l x (Jvm.Cond.code x code maxLocals ret :: tables_1) room_1 (fun tb e args s => Calls_1 tb e args s ∧ rest_1 tb e args s ∧ Pre_1 tb e args s)
    (fun _ _ args s o t => lw_Q args s o t) := by
  intro p e ha hc hk s m args below hf hfit hheap happ hpre
  obtain ⟨b, xs, hP⟩ := lw_pre_spec hpre.2.2 hpre.2.1
  obtain ⟨k, o, h1, h2, h3, hQ⟩ := lw_walk l b xs p e ha hc hk s m args below hf ((Spec.applies_iff_loose hf).mp happ).1 hP trivial
  exact ⟨k, o, h1, h2, h3, hQ⟩
theorem lw_frame {s t : State} {o : Outcome} {args : Array Value} (h : Framed s o t [] 600000 7302250) :
    Framed s o t (fieldLocs frame_1_writes args s ++ arrayLocs frame_1_arrays args s ++ staticLocs frame_1_statics s) 600000 7302250 := h
theorem lw_limb (L : Cond) (hL : ∀ (args : Array Value) (s t : State), L.after args s (.returned (some (.int 1))) t = true) :
    ArmFor flags0 classFile x code maxLocals ret World_1 tables_1 room_1 Calls_1 rest_1 Pre_1
      (fun tb e a s o t => postC L tb e a s o t ∧ Framed s o t (fieldLocs frame_1_writes a s ++ arrayLocs frame_1_arrays a s ++ staticLocs frame_1_statics s) 600000 7302250) := by
  intro l _ _ _ p e ha hc hk s m args below hf hfit hheap happ hpre
  obtain ⟨k, o, h1, h2, h3, rfl, hF⟩ := lw_comes l p e ha hc hk s m args below hf hfit hheap happ hpre
  exact ⟨k, _, h1, h2, h3, hL args s _, lw_frame hF⟩
theorem i_vc : Claimed_1_1 ∧ Claimed_1_2 := ⟨lw_limb limb_1_1 (fun args s t => by simp [limb_1_1, Cond.after, Cond.holds, Cond.value]), lw_limb limb_1_2 (fun args s t => Cond.after_iff.mpr (by
  first | (rw [show limb_1_2 = Cond.eq .result (.int 1) from rfl, Cond.eq_ints (x := 1) (y := 1) rfl rfl]; simp; done) | (simp [limb_1_2, Cond.value, Term.eval]; done)))⟩

