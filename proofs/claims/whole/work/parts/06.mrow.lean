section MROW
variable {X : Cx} {Y : SY} {Q : State → Prop} {cells slots pc : Nat} {ls : List (Option PV)} {st : List PV} {T L : Nat → Nat} {P : Nat → Nat → Option Nat} {I : Nat → Nat → Int} {hn : Nat} {cc : ByteArray} {own : String} {nL : Nat} {ret : Option FieldType} {R : Room} {nm : String}
theorem OK.w (K : OK X Y cc own nL ret R nm) {w : Cond} (h : w ∈ lw_tbl) (hm : mov w = true) {a : Array Value} : w.before a (xs X) = true := K.2.2.2.2.1.2.1 a w h hm
theorem r_getV (K : OK X Y cc own nL ret R nm) {k ci fi idx : Nat} (hd : decode cc pc = .ok (.getfield idx, 3)) (hl : fL own idx ci fi) (hT : T k = ci) (kk : ∀ (H : Heap) (locs : List Loc) (la : Array Slot), HR Y T L P I hn H → va_S (yA Y) (xs X).heap H locs → LH Y la (xc X).maxLocals ls → (∀ v ∈ st, vg v) → W (xp X) (xl X) (xe X) (xR X) (xs X) (xm X) (xa X) (xb X) (xh X) (xc X) H locs cells slots Q (F0 (xm X) (pc + 3) la (fV Y P I ci k fi :: st.map (eV Y)))) : RR X Y Q cells slots pc ls (.inr (some k) :: st) T L P I hn := by
  obtain ⟨hci, hN, hlk⟩ := hl
  intro H locs la hH hS hL hV
  rcases hlk with hlk | hlk
  · exact va_get (D := yD Y) (Ts := tbl) K.1 K.2.1 (K.2.2.2.2.1.ts _) (cl_in hci) K.2.2.2.1 K.2.2.2.2.1.1 (va_P1 (hH.obj hT hci)) 0 rfl (cl_at hci) fi hN (K.w hlk rfl) (fun _ h => h) (fV_at hN) hd (kk H locs la hH hS hL (vtail hV))
  · exact va_getN (D := yD Y) (Ts := tbl) K.1 K.2.1 (K.2.2.2.2.1.ts _) (cl_in hci) K.2.2.2.1 K.2.2.2.2.1.1 (va_P1 (hH.obj hT hci)) 0 rfl (cl_at hci) fi hN (K.w hlk rfl) (fun _ h => h) (fV_at hN) hd (kk H locs la hH hS hL (vtail hV))
theorem r_getI (K : OK X Y cc own nL ret R nm) {k ci fi idx : Nat} (hd : decode cc pc = .ok (.getfield idx, 3)) (hl : fL own idx ci fi) (hf : fR ci fi = false) (hT : T k = ci) (kk : RR X Y Q cells slots (pc + 3) ls (.inl (I k fi) :: st) T L P I hn) : RR X Y Q cells slots pc ls (.inr (some k) :: st) T L P I hn :=
  r_getV K hd hl hT (fun H locs la hH hS hL hV => by
    have e : fV Y P I ci k fi = eV Y (.inl (I k fi)) := by simp [fV, hf, eV]
    rw [e]
    exact kk H locs la hH hS hL (vcons (hH.2.2.2.2.1 k fi) hV))
theorem r_getR (K : OK X Y cc own nL ret R nm) {k ci fi idx : Nat} (hd : decode cc pc = .ok (.getfield idx, 3)) (hl : fL own idx ci fi) (hf : fR ci fi = true) (hT : T k = ci) {q : Nat} (hq : P k fi = some q) (kk : RR X Y Q cells slots (pc + 3) ls (.inr (some q) :: st) T L P I hn) : RR X Y Q cells slots pc ls (.inr (some k) :: st) T L P I hn :=
  r_getV K hd hl hT (fun H locs la hH hS hL hV => by
    have e : fV Y P I ci k fi = eV Y (.inr (some q)) := by simp [fV, hf, eV, hq, va_rf]
    rw [e]
    exact kk H locs la hH hS hL (vcons trivial hV))
/-- a field is written: any of its kinds -/
theorem putW {H : Heap} {locs : List Loc} {la : Array Slot} {rest : List Value} (K : OK X Y cc own nL ret R nm) {k ci fi idx : Nat} {v : Value} {fs : List Value} (hd : decode cc pc = .ok (.putfield idx, 3)) (hl : fL own idx ci fi) (hfin : (Tn ci fi).2.2.2 = false ∨ ((Tn ci fi).2.2.2 = true ∧ nm = "<init>" ∧ (Tn ci fi).1 = own ∧ Cond.fieldLink own idx (Tn ci fi).1 (Tn ci fi).2.1 (Tn ci fi).2.2.1 ∈ lw_tbl)) (hn' : narrow (yn ci fi) v = v) (hfit : fits (yn ci fi) v = true) (hA : yA Y (ad Y k)) (hS : va_S (yA Y) (xs X).heap H locs) (hat : va_at (yD Y) vwCl (ad Y k, .inr (ci, fs)) H) (hlen : fi < fs.length)
    (kk : ∀ (H' : Heap) (locs' : List Loc), va_at (yD Y) vwCl (ad Y k, .inr (ci, fs.set fi v)) H' → H'.size = H.size → (∀ q, q ≠ ad Y k → H'[q]? = H[q]?) → va_S (yA Y) (xs X).heap H' locs' → W (xp X) (xl X) (xe X) (xR X) (xs X) (xm X) (xa X) (xb X) (xh X) (xc X) H' locs' cells slots Q (F0 (xm X) (pc + 3) la rest)) :
    W (xp X) (xl X) (xe X) (xR X) (xs X) (xm X) (xa X) (xb X) (xh X) (xc X) H locs cells slots Q (F0 (xm X) pc la (v :: .ref (ad Y k) :: rest)) := by
  obtain ⟨hci, hN, hlk⟩ := hl
  have hts := K.2.2.2.2.1.ts (xa X)
  have hin := cl_in hci
  have hK := K.2.2.2.2.1.1
  have hc := cl_at hci
  have hap := va_apart (own := own) hts hin (yn ci) (cl_ty hci) (cl_nm hci) hK hc
  obtain ⟨r, h1, cell, q1, q2, q3, q4⟩ := hat
  have hr : r = (Rn ci, Tn ci, cN ci) := Option.some.inj (h1.symm.trans hc)
  subst hr
  obtain ⟨hSl, hfc, kC, hkC, hkind⟩ := hK.1 ci _ hc
  obtain ⟨cf, kf, ff, f, hi, hsl⟩ := hSl fi hN
  have hlay := hts _ (hin _ (u_in_lay hN))
  unfold u_lay at hlay
  have hst := (u_facts hfc hkC (u_lays hts hin hN) hi).1
  have fin : ∀ H' : Heap, H'[ad Y k]? = some (cell.setSlot f.slot v) → H'.size = H.size → (∀ q, q ≠ ad Y k → H'[q]? = H[q]?) → W (xp X) (xl X) (xe X) (xR X) (xs X) (xm X) (xa X) (xb X) (xh X) (xc X) H' (locs ++ [⟨ad Y k, f.slot⟩]) cells slots Q (F0 (xm X) (pc + 3) la rest) := by
    intro H' e1 e2 e3
    rw [hsl] at e1
    exact kk H' _ ⟨_, hc, t_OB.to (V := updV (vp_V fs) fi v) ⟨_, e1, q2, q3, t_set q4 hap hN v⟩ (fun j _ => vp_updV_set hlen v j)⟩ e2 e3 (hS.put e2 e3 hA)
  rcases hfin with hfin | ⟨hfin, hnm, hdecl, hlk⟩
  · rw [if_neg (by rw [hfin]; decide)] at hlay
    have h6 := u_store hfc hkC hkind hlay hi (cl_ty hci fi hN) hn' hfit
    rcases hlk with hlk | hlk
    · exact W.putK K.1 K.2.1 (f := f) ⟨K.2.2.2.1, K.w hlk rfl, ⟨_, _, _, hi⟩, hst⟩ (by rw [q2]; exact h6) q1 q3 (by rw [hsl]; exact k2_hasslot (q4 fi hN)) rfl rfl hd fin
    · exact va_WputK K.1 K.2.1 (f := f) K.2.2.2.1 (K.w hlk rfl) hi hst (by rw [q2]; exact h6) q1 q3 (by rw [hsl]; exact k2_hasslot (q4 fi hN)) rfl rfl hd fin
  · rw [if_pos hfin] at hlay
    have hcf : (xm X).cls = cf := by
      obtain ⟨_, _, c', _, _, _, -, -, hf', -, -, -, hown2, -⟩ := Cond.laysFinal_spec hlay
      have e1 : c' = cf := by have := hi.symm.trans hf'; simp at this; exact this.1.symm
      rw [hdecl] at hown2
      rw [← e1]; exact Option.some.inj (K.2.2.2.1.symm.trans hown2)
    have h6 := u_fits hfc hkC hkind (Or.inr hlay) hi (cl_ty hci fi hN) hn' hfit
    have hnm2 : (xh X).name = "<init>" := K.2.2.2.2.2.2.2.2.trans hnm
    exact W.putFinK K.1 K.2.1 K.2.2.2.1 (K.w hlk rfl) hi hst hcf hnm2 (by rw [q2]; exact h6) q1 q3 (by rw [hsl]; exact k2_hasslot (q4 fi hN)) rfl rfl hd fin
theorem yA_hi {k : Nat} (h : 3 ≤ k) : yA Y (ad Y k) := by
  rw [ad_hi Y h]; show yB Y ≤ _; omega
theorem cE_obj {k ci : Nat} (hT : T k = ci) (hci : ci < 9) : cE Y T L P I k = .inr (ci, (List.range (cN ci)).map (fV Y P I ci k)) := by rw [cE, hT, if_pos hci]
theorem cE_arr {k t : Nat} (hT : T k = t) (h9 : 9 ≤ t) (h13 : t < 13) : cE Y T L P I k = .inl (yC Y t, L k, .inl (fun j => Int32.ofInt (I k j))) := by rw [cE, hT, if_neg (by omega), if_pos h13]
theorem cE_rar {k t : Nat} (hT : T k = t) (h13 : 13 ≤ t) : cE Y T L P I k = .inl (yC Y t, L k, .inr (.inr (.inr (.inr (fun j => (P k j).map (ad Y)))))) := by rw [cE, hT, if_neg (by omega), if_neg (by omega)]
/-- a whole number's field is written -/
theorem r_putI (K : OK X Y cc own nL ret R nm) {k ci fi idx : Nat} {z : Int} (hd : decode cc pc = .ok (.putfield idx, 3)) (hl : fL own idx ci fi) (hf : fR ci fi = false) (hfin : (Tn ci fi).2.2.2 = false) (hty : yn ci fi = .int ∨ (yn ci fi = .boolean ∧ (z = 0 ∨ z = 1))) (hT : T k = ci) (kk : RR X Y Q cells slots (pc + 3) ls st T L P (mI I k fi z) hn) : RR X Y Q cells slots pc ls (.inl z :: .inr (some k) :: st) T L P I hn := by
  intro H locs la hH hS hL hV
  have hci := hl.1
  have hN := hl.2.1
  have h3 : 3 ≤ k := hH.ge (by omega)
  have hz := vh hV
  have hnf : narrow (yn ci fi) (.int (Int32.ofInt z)) = .int (Int32.ofInt z) ∧ fits (yn ci fi) (.int (Int32.ofInt z)) = true := by
    rcases hty with e | ⟨e, rfl | rfl⟩
    · rw [e]; exact ⟨rfl, rfl⟩
    · rw [e]; exact ⟨rfl, rfl⟩
    · rw [e]; exact ⟨rfl, rfl⟩
  refine putW K hd hl (Or.inl hfin) hnf.1 hnf.2 (yA_hi h3) hS (hH.obj hT hci) (by simpa using hN) fun H' locs' c1 c2 c3 c4 => ?_
  refine kk H' locs' la (hH.updI h3 c2 c3 hz ?_) c4 hL (vtail (vtail hV))
  rw [cE_obj hT hci]
  have e : (List.range (cN ci)).map (fV Y P (mI I k fi z) ci k) = ((List.range (cN ci)).map (fV Y P I ci k)).set fi (.int (Int32.ofInt z)) := by
    have e0 : fV Y P (mI I k fi z) ci k fi = .int (Int32.ofInt z) := by simp [fV, hf, mI_eq]
    rw [← e0]
    refine (fV_set fun j hj => ?_).symm
    simp only [fV, mI_nj hj]
  rw [e]
  exact c1
/-- a reference's field is written, in its class's constructor -/
theorem r_putR (K : OK X Y cc own nL ret R nm) {k ci fi idx q : Nat} (hd : decode cc pc = .ok (.putfield idx, 3)) (hl : fL own idx ci fi) (hf : fR ci fi = true) (hfin : (Tn ci fi).2.2.2 = true ∧ nm = "<init>" ∧ (Tn ci fi).1 = own ∧ Cond.fieldLink own idx (Tn ci fi).1 (Tn ci fi).2.1 (Tn ci fi).2.2.1 ∈ lw_tbl) (hty : narrow (yn ci fi) (.ref (ad Y q)) = .ref (ad Y q) ∧ fits (yn ci fi) (.ref (ad Y q)) = true) (hT : T k = ci) (kk : RR X Y Q cells slots (pc + 3) ls st T L (mP P k fi (some q)) I hn) : RR X Y Q cells slots pc ls (.inr (some q) :: .inr (some k) :: st) T L P I hn := by
  intro H locs la hH hS hL hV
  have hci := hl.1
  have hN := hl.2.1
  have h3 : 3 ≤ k := hH.ge (by omega)
  refine putW K hd hl (Or.inr hfin) hty.1 hty.2 (yA_hi h3) hS (hH.obj hT hci) (by simpa using hN) fun H' locs' c1 c2 c3 c4 => ?_
  refine kk H' locs' la (hH.updP h3 c2 c3 ?_) c4 hL (vtail (vtail hV))
  rw [cE_obj hT hci]
  have e : (List.range (cN ci)).map (fV Y (mP P k fi (some q)) I ci k) = ((List.range (cN ci)).map (fV Y P I ci k)).set fi (.ref (ad Y q)) := by
    have e0 : fV Y (mP P k fi (some q)) I ci k fi = .ref (ad Y q) := by simp [fV, hf, mP_row, va_rf]
    rw [← e0]
    refine (fV_set fun j hj => ?_).symm
    simp only [fV, mP_row, if_neg hj]
  rw [e]
  exact c1
theorem KK.tys {U : State} (h : KK Y U) : va_K (yD Y) vwCl [(yC Y 10, .int), (yC Y 11, .byte), (yC Y 12, .boolean), (yC Y 13, .object RX0), (yC Y 14, .object RX3)] U := h.1
theorem r_iald (K : OK X Y cc own nL ret R nm) {k : Nat} {i : Int} (hd : decode cc pc = .ok (.iaload, 1)) (hT : T k = 10) (h0 : 0 ≤ i) (h1 : i < L k) (kk : RR X Y Q cells slots (pc + 1) ls (.inl (I k i.toNat) :: st) T L P I hn) : RR X Y Q cells slots pc ls (.inl i :: .inr (some k) :: st) T L P I hn := by
  intro H locs la hH hS hL hV
  have hi := vh hV
  refine va_iald K.1 K.2.1 K.2.2.2.2.1.1 (va_P1 (q := (ad Y k, .inl (yC Y 10, L k, .inl (fun j => Int32.ofInt (I k j))))) (hH.arr hT (by decide) (by decide))) 0 0 rfl rfl (oi_in hi h0 h1) hd ?_
  rw [oi_cl hi]
  exact kk H locs la hH hS hL (vcons (hH.2.2.2.2.1 k _) (vtail (vtail hV)))
theorem r_bald (K : OK X Y cc own nL ret R nm) {k : Nat} {i : Int} (hd : decode cc pc = .ok (.baload, 1)) (hT : T k = 11) (h0 : 0 ≤ i) (h1 : i < L k) (kk : RR X Y Q cells slots (pc + 1) ls (.inl (I k i.toNat) :: st) T L P I hn) : RR X Y Q cells slots pc ls (.inl i :: .inr (some k) :: st) T L P I hn := by
  intro H locs la hH hS hL hV
  have hi := vh hV
  refine va_bald K.1 K.2.1 K.2.2.2.2.1.1 (va_P1 (q := (ad Y k, .inl (yC Y 11, L k, .inl (fun j => Int32.ofInt (I k j))))) (hH.arr hT (by decide) (by decide))) 0 1 rfl rfl (oi_in hi h0 h1) hd ?_
  rw [oi_cl hi]
  exact kk H locs la hH hS hL (vcons (hH.2.2.2.2.1 k _) (vtail (vtail hV)))
theorem r_zald (K : OK X Y cc own nL ret R nm) {k : Nat} {i : Int} (hd : decode cc pc = .ok (.baload, 1)) (hT : T k = 12) (h0 : 0 ≤ i) (h1 : i < L k) (kk : RR X Y Q cells slots (pc + 1) ls (.inl (I k i.toNat) :: st) T L P I hn) : RR X Y Q cells slots pc ls (.inl i :: .inr (some k) :: st) T L P I hn := by
  intro H locs la hH hS hL hV
  have hi := vh hV
  refine va_zald K.1 K.2.1 K.2.2.2.2.1.1 (va_P1 (q := (ad Y k, .inl (yC Y 12, L k, .inl (fun j => Int32.ofInt (I k j))))) (hH.arr hT (by decide) (by decide))) 0 2 rfl rfl (oi_in hi h0 h1) hd ?_
  rw [oi_cl hi]
  exact kk H locs la hH hS hL (vcons (hH.2.2.2.2.1 k _) (vtail (vtail hV)))
/-- the script's, the two tables' -/
theorem r_oald (K : OK X Y cc own nL ret R nm) {k : Nat} {i : Int} (hd : decode cc pc = .ok (.iaload, 1)) (hk : k < 3) (h0 : 0 ≤ i) (h1 : i < L k) (kk : RR X Y Q cells slots (pc + 1) ls (.inl (I k i.toNat) :: st) T L P I hn) : RR X Y Q cells slots pc ls (.inl i :: .inr (some k) :: st) T L P I hn := by
  intro H locs la hH hS hL hV
  have hi := vh hV
  obtain ⟨e1, e2, e3⟩ := hH.2.2.2.2.2 k hk
  have had : ad Y k = ySp Y k := if_pos hk
  obtain ⟨cell, c1, c2, c3, c4, c5, c6, c7⟩ := K.2.2.2.2.1.2.2.2.1 k hk
  have hlt : i.toNat < yL Y k := by omega
  refine W.iald (a := ad Y k) (cell := cell) (v := .int (Int32.ofInt (yI Y k i.toNat))) K.1 K.2.1 ?_ c2 c3 ?_ ?_ rfl rfl hd ?_
  · rw [had, hS.2.1 _ (Array.getElem?_eq_some_iff.mp c1).1 c7]; exact c1
  · rw [oi_cl hi]
    have h2 : ¬ Int32.ofInt i < 0 := by rw [← oi_0, oi_lt hi rg0]; omega
    intro h
    rcases h with h | h
    · exact h2 h
    · omega
  · rw [oi_cl hi]; exact c6 _ hlt
  · rw [← e3]
    exact kk H locs la hH hS hL (vcons (hH.2.2.2.2.1 k _) (vtail (vtail hV)))
theorem r_aald (K : OK X Y cc own nL ret R nm) {k : Nat} {i : Int} (hd : decode cc pc = .ok (.aaload, 1)) (hT : T k = 13 ∨ T k = 14) (h0 : 0 ≤ i) (h1 : i < L k) (kk : RR X Y Q cells slots (pc + 1) ls (.inr (P k i.toNat) :: st) T L P I hn) : RR X Y Q cells slots pc ls (.inl i :: .inr (some k) :: st) T L P I hn := by
  intro H locs la hH hS hL hV
  have hi := vh hV
  have e : va_rf ((P k i.toNat).map (ad Y)) = eV Y (.inr (P k i.toNat)) := by
    cases P k i.toNat <;> rfl
  rcases hT with hT | hT
  · refine va_aldq K.1 K.2.1 K.2.2.2.2.1.1 (va_P1 (q := (ad Y k, .inl (yC Y 13, L k, .inr (.inr (.inr (.inr (fun j => (P k j).map (ad Y)))))))) (hH.rar hT (by decide) (by decide))) 0 3 rfl rfl (oi_in hi h0 h1) hd ?_
    rw [oi_cl hi, e]
    exact kk H locs la hH hS hL (vcons trivial (vtail (vtail hV)))
  · refine va_aldq K.1 K.2.1 K.2.2.2.2.1.1 (va_P1 (q := (ad Y k, .inl (yC Y 14, L k, .inr (.inr (.inr (.inr (fun j => (P k j).map (ad Y)))))))) (hH.rar hT (by decide) (by decide))) 0 4 rfl rfl (oi_in hi h0 h1) hd ?_
    rw [oi_cl hi, e]
    exact kk H locs la hH hS hL (vcons trivial (vtail (vtail hV)))
end MROW
