abbrev Po : Type := Option PV → (Nat → Nat) → (Nat → Nat) → (Nat → Nat → Option Nat) → (Nat → Nat → Int) → Nat → Prop
def PO (Y : SY) (post : Po) : Array Value → State → Outcome → State → Prop := fun _ s o t =>
  (∃ (r : Option PV) (T L : Nat → Nat) (P : Nat → Nat → Option Nat) (I : Nat → Nat → Int) (hn : Nat), o = .returned (r.map (eV Y)) ∧ (∀ v, r = some v → vg v) ∧ post r T L P I hn ∧ HR Y T L P I hn t.heap) ∧ va_F (yA Y) s t
def PR (Y : SY) (pa : List PV) (T L : Nat → Nat) (P : Nat → Nat → Option Nat) (I : Nat → Nat → Int) (hn : Nat) : Array Value → State → Prop := fun a U =>
  a = (pa.map (eV Y)).toArray ∧ (∀ v ∈ pa, vg v) ∧ KK Y U ∧ HR Y T L P I hn U.heap
abbrev rm_ (fr lo mc ms : Nat) : Room := { frames := fr, cells := mc, slots := ms, locals := lo }
/-- a method's contract: called with these arguments in this memory it returns, and post holds of its answer and the memory then; at most mc cells of ms slots are new -/
def CT (y : MethodName) (cc : ByteArray) (nL : Nat) (ret : Option FieldType) (fr lo mc ms : Nat) (pa : List PV) (T L : Nat → Nat) (P : Nat → Nat → Option Nat) (I : Nat → Nat → Int) (hn : Nat) (post : Po) : Prop :=
  ∀ (l : Launch) (Y : SY), Met l y [.code y cc nL ret] (rm_ fr lo mc ms) (PR Y pa T L P I hn) (PO Y post) mc ms (yA Y)
theorem lv_args1 (Y : SY) : ∀ (pa : List PV) (i j : Nat) (v : PV), pa[j]? = some v → (i + j, eV Y v) ∈ lv_args i (pa.map (eV Y))
  | [], _, _, _, h => by simp at h
  | w :: pa, i, 0, v, h => by
    rw [List.getElem?_cons_zero] at h
    cases h
    simp only [List.map_cons, lv_args, Nat.add_zero]
    exact List.mem_cons_self
  | w :: pa, i, j + 1, v, h => by
    rw [List.getElem?_cons_succ] at h
    simp only [List.map_cons, lv_args, eV_cat]
    refine List.mem_cons_of_mem _ ?_
    have := lv_args1 Y pa (i + 1) j v h
    rw [show i + (j + 1) = i + 1 + j by omega]
    exact this
theorem lg_len (Y : SY) : ∀ pa : List PV, (lg_sl (pa.map (eV Y))).length = pa.length
  | [] => rfl
  | v :: pa => by
    have := lg_len Y pa
    simp only [lg_sl, List.map_cons, List.flatMap_cons, eV_cat, List.length_append, List.length_cons] at this ⊢
    simp only [this]
    simp
    omega
def ls0 (pa : List PV) (nL : Nat) : List (Option PV) := pa.map some ++ List.replicate (nL - pa.length) none
theorem LH.entry {Y : SY} {pa : List PV} {nL : Nat} (h : pa.length ≤ nL) (hv : ∀ v ∈ pa, vg v) : LH Y ((lg_sl (pa.map (eV Y)) ++ List.replicate (nL - (lg_sl (pa.map (eV Y))).length) Slot.unset).toArray) nL (ls0 pa nL) := by
  have hl := lv_entry (pa.map (eV Y)) (n := nL) (by rw [lg_len]; exact h)
  have key : ∀ (i : Nat) (v : PV), (ls0 pa nL)[i]? = some (some v) → pa[i]? = some v := by
    intro i v hi
    unfold ls0 at hi
    rcases Nat.lt_or_ge i pa.length with q | q
    · rw [List.getElem?_append_left (by simpa using q), List.getElem?_map] at hi
      cases hp : pa[i]? with
      | none => rw [hp] at hi; cases hi
      | some w => rw [hp] at hi; cases hi; rfl
    · rw [List.getElem?_append_right (by simpa using q)] at hi
      have := List.eq_of_mem_replicate (List.mem_of_getElem? hi)
      cases this
  refine ⟨⟨hl.1, hl.2.1, fun q hq => ?_⟩, fun i v hi => hv v (List.mem_of_getElem? (key i v hi))⟩
  obtain ⟨i, x⟩ := q
  obtain ⟨v, h1, rfl⟩ := pl_mem.mp hq
  have := lv_args1 Y pa 0 i v (key i v h1)
  rw [Nat.zero_add] at this
  exact hl.2.2 _ this
section CTOF
variable {y : MethodName} {cc : ByteArray} {nL : Nat} {ret : Option FieldType} {fr lo mc ms : Nat} {pa : List PV} {T L : Nat → Nat} {P : Nat → Nat → Option Nat} {I : Nat → Nat → Int} {hn : Nat} {post : Po}
/-- the end that a contract wants -/
def QM (X : Cx) (Y : SY) (post : Po) (mc ms : Nat) : State → Prop := MQ (xb X) (PO Y post) (xa X) (xs X) mc ms (yA Y)
theorem CT.of (hy : plainName y.cls = true) (hpa : pa.length ≤ nL) (body : ∀ (X : Cx) (Y : SY), OK X Y cc y.cls nL ret (rm_ fr lo mc ms) y.name → (∀ v ∈ pa, vg v) → RR X Y (QM X Y post mc ms) 0 0 0 (ls0 pa nL) [] T L P I hn) : CT y cc nL ret fr lo mc ms pa T L P I hn post := by
  intro l Y
  refine Met.ofW (cc := cc) (maxL := nL) (ret := ret) hy rfl ?_
  intro p e s m args below meth c s₁ B hml hv
  obtain ⟨rfl, hvg, hK, hH⟩ := hv
  have h := body (p, l, e, rm_ fr lo mc ms, s, m, ((pa.map (eV Y)).toArray), below, meth, c) Y ⟨B.exec, B.bytes, hml, findClass_of_methodNamed B.named, hK, B.returns, B.notSynchronized, rfl, (name_of_methodNamed B.named B.method).1⟩ hvg
  rw [lg_entry_eq]
  refine h s.heap [] _ hH va_S.rf ?_ (fun v hv => by cases hv)
  show LH Y _ c.maxLocals _
  rw [hml]
  exact LH.entry hpa hvg
end CTOF
section RETS
variable {X : Cx} {Y : SY} {cells slots pc : Nat} {ls : List (Option PV)} {T L : Nat → Nat} {P : Nat → Nat → Option Nat} {I : Nat → Nat → Int} {hn : Nat} {cc : ByteArray} {own : String} {nL : Nat} {R : Room} {nm : String} {post : Po} {mc ms : Nat}
theorem r_iret {ret : Option FieldType} (K : OK X Y cc own nL ret R nm) (hr : ret = some .int) {z : Int} (hd : decode cc pc = .ok (.ireturn, 1)) (hc : cells ≤ mc) (hs : slots ≤ ms) (hp : post (some (.inl z)) T L P I hn) : RR X Y (QM X Y post mc ms) cells slots pc ls [.inl z] T L P I hn := by
  subst hr
  intro H locs la hH hS hL hV
  refine W.widen hc hs ?_
  exact W.iret (v := Int32.ofInt z) K.1 K.2.1 K.2.2.2.2.2.1 (fun t ht hW => ⟨⟨some (.inl z), T, L, P, I, hn, rfl, fun v hv => by cases hv; exact vh hV, hp, by rw [ht]; exact hH⟩, hS.F ht⟩) hS.2.2 hd K.2.2.2.2.2.2.1
theorem r_zret {ret : Option FieldType} (K : OK X Y cc own nL ret R nm) (hr : ret = some .boolean) {z : Int} (hd : decode cc pc = .ok (.ireturn, 1)) (h01 : z = 0 ∨ z = 1) (hc : cells ≤ mc) (hs : slots ≤ ms) (hp : post (some (.inl z)) T L P I hn) : RR X Y (QM X Y post mc ms) cells slots pc ls [.inl z] T L P I hn := by
  subst hr
  intro H locs la hH hS hL hV
  refine W.widen hc hs ?_
  have hn' : narrow .boolean (.int (Int32.ofInt z)) = .int (Int32.ofInt z) := by rcases h01 with rfl | rfl <;> rfl
  exact W.zret (v := Int32.ofInt z) K.1 K.2.1 K.2.2.2.2.2.1 hn' (fun t ht hW => ⟨⟨some (.inl z), T, L, P, I, hn, rfl, fun v hv => by cases hv; exact vh hV, hp, by rw [ht]; exact hH⟩, hS.F ht⟩) hS.2.2 hd K.2.2.2.2.2.2.1
theorem r_vret {ret : Option FieldType} (K : OK X Y cc own nL ret R nm) (hr : ret = none) (hd : decode cc pc = .ok (.return_, 1)) (hc : cells ≤ mc) (hs : slots ≤ ms) (hp : post none T L P I hn) : RR X Y (QM X Y post mc ms) cells slots pc ls [] T L P I hn := by
  subst hr
  intro H locs la hH hS hL hV
  refine W.widen hc hs ?_
  exact W.vret K.1 K.2.1 K.2.2.2.2.2.1 (fun t ht hW => ⟨⟨none, T, L, P, I, hn, rfl, fun v hv => (by cases hv), hp, by rw [ht]; exact hH⟩, hS.F ht⟩) hS.2.2 hd K.2.2.2.2.2.2.1
theorem r_aret {ret : Option FieldType} (K : OK X Y cc own nL ret R nm) {C : String} (hr : ret = some (.object C)) {q : Nat} (hd : decode cc pc = .ok (.areturn, 1)) (hc : cells ≤ mc) (hs : slots ≤ ms) (hp : post (some (.inr (some q))) T L P I hn) : RR X Y (QM X Y post mc ms) cells slots pc ls [.inr (some q)] T L P I hn := by
  subst hr
  intro H locs la hH hS hL hV
  refine W.widen hc hs ?_
  exact W.aret (v := .ref (ad Y q)) K.1 K.2.1 K.2.2.2.2.2.1 (Or.inl ⟨_, rfl⟩) (Or.inr ⟨_, rfl⟩) (fun t ht hW => ⟨⟨some (.inr (some q)), T, L, P, I, hn, rfl, fun v hv => by cases hv; trivial, hp, by rw [ht]; exact hH⟩, hS.F ht⟩) hS.2.2 hd K.2.2.2.2.2.2.1
end RETS
section CALLS
variable {X : Cx} {Y : SY} {Q : State → Prop} {cells slots pc : Nat} {ls : List (Option PV)} {st : List PV} {T L : Nat → Nat} {P : Nat → Nat → Option Nat} {I : Nat → Nat → Int} {hn : Nat} {cc : ByteArray} {own : String} {nL : Nat} {ret : Option FieldType} {R : Room} {nm : String}
variable {y : MethodName} {cy : ByteArray} {ny : Nat} {ry : Option FieldType} {fr lo mc ms : Nat} {pa : List PV} {post : Po} {idx : Nat}
theorem run_go {H : Heap} {locs : List Loc} {la : Array Slot} {st0 : List Value} {a : Array Value} (hL : LH Y la (xc X).maxLocals ls) (hV : ∀ v ∈ st, vg v) (hr : va_Run (xp X) (xl X) (xe X) (xR X) (xs X) (xm X) (xa X) (xb X) (xh X) (xc X) H locs cells slots mc ms (F0 (xm X) pc la st0) (st.map (eV Y)) (PO Y post a) (yA Y)) (hS : va_S (yA Y) (xs X).heap H locs)
    (kk : ∀ (r : Option PV) (T L : Nat → Nat) (P : Nat → Nat → Option Nat) (I : Nat → Nat → Int) (hn : Nat), post r T L P I hn → RR X Y Q (cells + mc) (slots + ms) (pc + 3) ls (r.toList ++ st) T L P I hn) : W (xp X) (xl X) (xe X) (xR X) (xs X) (xm X) (xa X) (xb X) (xh X) (xc X) H locs cells slots Q (F0 (xm X) pc la st0) := by
  intro U hU Z
  obtain ⟨v, st₀, t, U', Lc, h0, Z', hLc, e1, e2, ⟨⟨r, T1, L1, P1, I1, n1, hv, hvg, hp, hH⟩, hz, hk⟩, go⟩ := hr U hU Z
  have hv : v = r.map (eV Y) := by cases hv; rfl
  subst hv
  rw [h0] at hz hk
  obtain ⟨t2, a1, b1⟩ := kk r T1 L1 P1 I1 n1 hp U'.heap (locs ++ Lc) la (by rw [e1]; exact hH) ⟨Nat.le_trans hS.1 (by rw [e1]; exact hz), fun q h1 h2 => by rw [e1, hk q (Nat.lt_of_lt_of_le h1 hS.1) h2]; exact hS.2.1 q h1 h2, fun q hq => by
      rcases List.mem_append.mp hq with h | h
      · exact hS.2.2 q h
      · exact hLc q h⟩ hL (fun w hw => by
      rcases List.mem_append.mp hw with h | h
      · cases r with
        | none => cases h
        | some x => rw [List.mem_singleton.mp h]; exact hvg x rfl
      · exact hV w h) U' rfl Z'
  refine ⟨t2, go t2 ?_, b1⟩
  cases r with
  | none => exact a1
  | some x => exact a1
theorem PR_blind : FrameBlind (PR Y pa T L P I hn) := by
  intro a U g mk h
  obtain ⟨h1, h2, h3, h4⟩ := h
  exact ⟨h1, h2, h3.warm (U := U.calling g mk a) (State.WarmedH.refl U) h3.2.2.1 (fun _ _ _ => rfl), h4⟩
theorem PR_at {H : Heap} {locs : List Loc} (K : OK X Y cc own nL ret R nm) (hH : HR Y T L P I hn H) (hS : va_S (yA Y) (xs X).heap H locs) (hpa : ∀ v ∈ pa, vg v) : ∀ U : State, U.heap = H → (xs X).WarmedH U.vm → PR Y pa T L P I hn (pa.map (eV Y)).toArray U := by
  intro U hU hW
  refine ⟨rfl, hpa, K.2.2.2.2.1.warm hW ?_ ?_, by rw [hU]; exact hH⟩
  · rw [hU, hH.1]; omega
  · intro q h1 h2
    rw [hU]
    exact hS.2.1 q h1 h2
/-- what a call needs of the tables: by its own link, or a nest mate's -/
def cL (own : String) (idx : Nat) (y : MethodName) (cy : ByteArray) (ny : Nat) (ry : Option FieldType) (n : Nat) : Prop :=
  (Cond.methodLink own idx y ∈ lw_tbl ∨ Cond.methodLinkNest own idx y "PatchBench" ∈ lw_tbl) ∧ Cond.code y cy ny ry ∈ lw_tbl ∧ Cond.initialized y.cls ∈ lw_tbl ∧ y.cls ≠ "java/lang/invoke/MethodHandle" ∧ y.cls ≠ "java/lang/invoke/VarHandle" ∧ (parseMethodDescriptor y.desc).map (fun d => d.parameters.length) = some n
theorem cL_B (K : OK X Y cc own nL ret R nm) {n : Nat} (h : cL own idx y cy ny ry n) (hl : Cond.methodLink own idx y ∈ lw_tbl) (hf : fr + 1 ≤ R.frames) (hlo : 19 + ny + lo ≤ R.locals) : CallB (xR X) (xs X) (xa X) own idx y cy ny ry [.code y cy ny ry] (rm_ fr lo mc ms) mc ms n := by
  obtain ⟨-, h2, h3, h4, h5, h6⟩ := h
  have hR : xR X = R := K.2.2.2.2.2.2.2.1
  refine ⟨rfl, rfl, by rw [hR]; exact hf, by rw [hR]; show 8 + (ny + 11) + lo ≤ _; omega, fun w hw a' U hW => ?_, List.mem_cons_self, K.w h2 rfl, K.w h3 rfl, ⟨h4, h5⟩, fun sig hsig => ?_, K.w hl rfl⟩
  · rw [List.mem_singleton.mp hw]
    exact mov_warm rfl hW (K.w h2 rfl (a := #[]))
  · rw [hsig] at h6
    exact (Option.some.inj h6).symm
theorem cL_N (K : OK X Y cc own nL ret R nm) {n : Nat} (h : cL own idx y cy ny ry n) (hl : Cond.methodLinkNest own idx y "PatchBench" ∈ lw_tbl) (hf : fr + 1 ≤ R.frames) (hlo : 19 + ny + lo ≤ R.locals) : va_CN (xR X) (xs X) (xa X) own idx y "PatchBench" cy ny ry [.code y cy ny ry] (rm_ fr lo mc ms) mc ms n := by
  obtain ⟨-, h2, h3, h4, h5, h6⟩ := h
  have hR : xR X = R := K.2.2.2.2.2.2.2.1
  refine ⟨⟨rfl, rfl, by rw [hR]; exact hf, by rw [hR]; show 8 + (ny + 11) + lo ≤ _; omega, fun w hw a' U hW => ?_, List.mem_cons_self⟩, K.w h2 rfl, K.w h3 rfl, ⟨h4, h5⟩, fun sig hsig => ?_, K.w hl rfl⟩
  · rw [List.mem_singleton.mp hw]
    exact mov_warm rfl hW (K.w h2 rfl (a := #[]))
  · rw [hsig] at h6
    exact (Option.some.inj h6).symm
theorem map_rev (Y : SY) (pa st : List PV) : (pa.reverse ++ st).map (eV Y) = (pa.map (eV Y)).reverse ++ st.map (eV Y) := by simp
theorem room_st (Y : SY) {la : Array Slot} {m : MethodId} {s0 : List Value} (st : List PV) (h : st.length ≤ 8) : 2 * (F0 m pc la s0).monitorRoom + ((st.map (eV Y)).map fun v => v.category).sum ≤ 8 := lv_room (by rw [st_sum]; exact h)
/-- a call of an instance's method -/
theorem r_callV (K : OK X Y cc own nL ret R nm) {b ci n : Nat} (pa : List PV) (hd : decode cc pc = .ok (.invokevirtual idx, 3)) (hw : cL own idx y cy ny ry n) (hw2 : Cond.instanceMethod y ∈ lw_tbl ∧ Cond.selects y.cls y y ∈ lw_tbl ∧ ci < 9 ∧ Rn ci = y.cls) (hn' : pa.length = n) (hT : T b = ci) (hM : CT y cy ny ry fr lo mc ms (.inr (some b) :: pa) T L P I hn post) (hf : fr + 1 ≤ R.frames) (hlo : 19 + ny + lo ≤ R.locals) (hc : cells + mc ≤ R.cells) (hs : slots + ms ≤ R.slots) (hst : st.length ≤ 8) {st0 : List PV} (hst0 : st0 = pa.reverse ++ .inr (some b) :: st)
    (kk : ∀ (r : Option PV) (T L : Nat → Nat) (P : Nat → Nat → Option Nat) (I : Nat → Nat → Int) (hn : Nat), post r T L P I hn → RR X Y Q (cells + mc) (slots + ms) (pc + 3) ls (r.toList ++ st) T L P I hn) : RR X Y Q cells slots pc ls st0 T L P I hn := by
  subst hst0
  intro H locs la hH hS hL hV
  have hR : xR X = R := K.2.2.2.2.2.2.2.1
  have hpa : ∀ v ∈ (.inr (some b) :: pa : List PV), vg v := fun v hv => by
    rcases List.mem_cons.mp hv with h | h
    · rw [h]; trivial
    · exact hV v (List.mem_append_left _ (List.mem_reverse.mpr h))
  have hVst : ∀ v ∈ st, vg v := fun v hv => hV v (List.mem_append_right _ (List.mem_cons_of_mem _ hv))
  have hpre := PR_at K hH hS hpa
  obtain ⟨hin, hsel, hci, hC⟩ := hw2
  obtain ⟨r', hr', cell, g1, g2, g3, -⟩ := hH.obj hT hci
  have hrecv : ∃ cellB : Cell, H[ad Y b]? = some cellB ∧ cellB.vm.isStatics = false ∧ (xs X).vm.findClass y.cls = some cellB.cls := ⟨cell, g1, by rw [g3]; rfl, by rw [g2, ← hC]; exact (K.2.2.2.2.1.1.1 ci _ (cl_at hci)).2.1⟩
  rw [map_rev]
  have hcs : cells + mc ≤ (xR X).cells ∧ slots + ms ≤ (xR X).slots := by rw [hR]; exact ⟨hc, hs⟩
  rcases hw.1 with hl | hl
  · exact run_go hL hVst (va_runV (As := pa.map (eV Y)) (rest := st.map (eV Y)) (Ts := tbl) (b := ad Y b) ⟨K.1, K.2.1, K.2.2.1, K.2.2.2.1, K.2.2.2.2.1.ts _⟩ (hM (xl X) Y) ⟨cL_B K hw hl hf hlo, K.w hin rfl, K.w hsel rfl⟩ ⟨PR_blind, hrecv, hpre⟩ rfl (by simpa using hn') (by rw [← K.2.2.1]; exact hL.1.1) rfl (room_st Y st hst) hd hcs) hS kk
  · exact run_go hL hVst (va_runVN (As := pa.map (eV Y)) (rest := st.map (eV Y)) (Ts := tbl) (b := ad Y b) ⟨K.1, K.2.1, K.2.2.1, K.2.2.2.1, K.2.2.2.2.1.ts _⟩ (hM (xl X) Y) ⟨cL_N K hw hl hf hlo, K.w hin rfl, K.w hsel rfl⟩ ⟨PR_blind, hrecv, hpre⟩ rfl (by simpa using hn') (by rw [← K.2.2.1]; exact hL.1.1) rfl (room_st Y st hst) hd hcs) hS kk
/-- a call of a class's method -/
theorem r_callS (K : OK X Y cc own nL ret R nm) {n : Nat} (pa : List PV) (hd : decode cc pc = .ok (.invokestatic idx, 3)) (hw : cL own idx y cy ny ry n) (hw2 : Cond.static y ∈ lw_tbl) (hn' : pa.length = n) (hM : CT y cy ny ry fr lo mc ms pa T L P I hn post) (hf : fr + 1 ≤ R.frames) (hlo : 19 + ny + lo ≤ R.locals) (hc : cells + mc ≤ R.cells) (hs : slots + ms ≤ R.slots) (hst : st.length ≤ 8) {st0 : List PV} (hst0 : st0 = pa.reverse ++ st)
    (kk : ∀ (r : Option PV) (T L : Nat → Nat) (P : Nat → Nat → Option Nat) (I : Nat → Nat → Int) (hn : Nat), post r T L P I hn → RR X Y Q (cells + mc) (slots + ms) (pc + 3) ls (r.toList ++ st) T L P I hn) : RR X Y Q cells slots pc ls st0 T L P I hn := by
  subst hst0
  intro H locs la hH hS hL hV
  have hR : xR X = R := K.2.2.2.2.2.2.2.1
  have hpa : ∀ v ∈ pa, vg v := fun v hv => hV v (List.mem_append_left _ (List.mem_reverse.mpr hv))
  have hVst : ∀ v ∈ st, vg v := fun v hv => hV v (List.mem_append_right _ hv)
  have hpre := PR_at K hH hS hpa
  rw [map_rev]
  have hcs : cells + mc ≤ (xR X).cells ∧ slots + ms ≤ (xR X).slots := by rw [hR]; exact ⟨hc, hs⟩
  rcases hw.1 with hl | hl
  · exact run_go hL hVst (va_runS (As := pa.map (eV Y)) (rest := st.map (eV Y)) (Ts := tbl) ⟨K.1, K.2.1, K.2.2.1, K.2.2.2.1, K.2.2.2.2.1.ts _⟩ (hM (xl X) Y) ⟨cL_B K hw hl hf hlo, K.w hw2 rfl⟩ ⟨PR_blind, hpre⟩ rfl (by simpa using hn') (by rw [← K.2.2.1]; exact hL.1.1) rfl (room_st Y st hst) hd hcs) hS kk
  · exact run_go hL hVst (va_runSN (As := pa.map (eV Y)) (rest := st.map (eV Y)) (Ts := tbl) ⟨K.1, K.2.1, K.2.2.1, K.2.2.2.1, K.2.2.2.2.1.ts _⟩ (hM (xl X) Y) ⟨cL_N K hw hl hf hlo, K.w hw2 rfl, trivial⟩ ⟨PR_blind, hpre⟩ rfl (by simpa using hn') (by rw [← K.2.2.1]; exact hL.1.1) rfl (room_st Y st hst) hd hcs) hS kk
/-- a call of a constructor -/
theorem r_callI (K : OK X Y cc own nL ret R nm) {b n : Nat} (pa : List PV) (hd : decode cc pc = .ok (.invokespecial idx, 3)) (hw : cL own idx y cy ny none n) (hw2 : Cond.instanceMethod y ∈ lw_tbl ∧ y.name = "<init>") (hn' : pa.length = n) (hM : CT y cy ny none fr lo mc ms (.inr (some b) :: pa) T L P I hn post) (hf : fr + 1 ≤ R.frames) (hlo : 19 + ny + lo ≤ R.locals) (hc : cells + mc ≤ R.cells) (hs : slots + ms ≤ R.slots) (hst : st.length ≤ 8) {st0 : List PV} (hst0 : st0 = pa.reverse ++ .inr (some b) :: st)
    (kk : ∀ (r : Option PV) (T L : Nat → Nat) (P : Nat → Nat → Option Nat) (I : Nat → Nat → Int) (hn : Nat), post r T L P I hn → RR X Y Q (cells + mc) (slots + ms) (pc + 3) ls (r.toList ++ st) T L P I hn) : RR X Y Q cells slots pc ls st0 T L P I hn := by
  subst hst0
  intro H locs la hH hS hL hV
  have hR : xR X = R := K.2.2.2.2.2.2.2.1
  have hpa : ∀ v ∈ (.inr (some b) :: pa : List PV), vg v := fun v hv => by
    rcases List.mem_cons.mp hv with h | h
    · rw [h]; trivial
    · exact hV v (List.mem_append_left _ (List.mem_reverse.mpr h))
  have hVst : ∀ v ∈ st, vg v := fun v hv => hV v (List.mem_append_right _ (List.mem_cons_of_mem _ hv))
  have hpre := PR_at K hH hS hpa
  rw [map_rev]
  have hcs : cells + mc ≤ (xR X).cells ∧ slots + ms ≤ (xR X).slots := by rw [hR]; exact ⟨hc, hs⟩
  rcases hw.1 with hl | hl
  · exact run_go hL hVst (va_runI (As := pa.map (eV Y)) (rest := st.map (eV Y)) (Ts := tbl) (b := ad Y b) ⟨K.1, K.2.1, K.2.2.1, K.2.2.2.1, K.2.2.2.2.1.ts _⟩ (hM (xl X) Y) ⟨cL_B K hw hl hf hlo, hw2.2, K.w hw2.1 rfl⟩ ⟨PR_blind, hpre⟩ rfl (by simpa using hn') (by rw [← K.2.2.1]; exact hL.1.1) rfl (room_st Y st hst) hd hcs) hS kk
  · exact run_go hL hVst (va_runIN (As := pa.map (eV Y)) (rest := st.map (eV Y)) (Ts := tbl) (b := ad Y b) ⟨K.1, K.2.1, K.2.2.1, K.2.2.2.1, K.2.2.2.2.1.ts _⟩ (hM (xl X) Y) ⟨cL_N K hw hl hf hlo, hw2.2, K.w hw2.1 rfl⟩ ⟨PR_blind, hpre⟩ rfl (by simpa using hn') (by rw [← K.2.2.1]; exact hL.1.1) rfl (room_st Y st hst) hd hcs) hS kk
/-- Object's constructor -/
theorem r_obj (K : OK X Y cc own nL ret R nm) {b : Nat} (hd : decode cc pc = .ok (.invokespecial idx, 3)) (hw : Cond.methodLink own idx objectInit ∈ lw_tbl) (hf : 1 ≤ R.frames) (hlo : st.length + 12 ≤ R.locals) (kk : RR X Y Q cells slots (pc + 3) ls st T L P I hn) : RR X Y Q cells slots pc ls (.inr (some b) :: st) T L P I hn := by
  intro H locs la hH hS hL hV
  have hR : xR X = R := K.2.2.2.2.2.2.2.1
  refine W.objInit K.1 K.2.1 K.2.2.2.1 (K.w hw rfl) (K.w (by decide +kernel) rfl) (K.w (by decide +kernel) rfl) rfl (by exact hL.1.1) rfl hd (by rw [hR]; exact hf) ?_ (kk H locs la hH hS hL (vtail hV))
  rw [hR]
  show 2 * 0 + _ + 12 ≤ _
  rw [st_sum]; omega
end CALLS
