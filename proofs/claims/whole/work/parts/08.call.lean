section CALL
variable {X : Cx} {Y : SY} {Q : State → Prop} {cells slots pc : Nat} {ls : List (Option PV)} {st : List PV} {T L : Nat → Nat} {P : Nat → Nat → Option Nat} {I : Nat → Nat → Int} {hn : Nat} {cc : ByteArray} {own : String} {nL : Nat} {ret : Option FieldType} {R : Room} {nm : String}
theorem fV_new {ci k : Nat} (h : ci < 9) : ∀ j, j < cN ci → defaultValue (yn ci j) = vp_V ((List.range (cN ci)).map (fV Y (va_up P k (fun _ => none)) (va_up I k (fun _ => 0)) ci k)) j := by
  have key : ∀ ci, ci < 9 → ∀ j, j < cN ci → defaultValue (yn ci j) = if fR ci j then .null else .int 0 := fun ci h =>
    ci_9 (P := fun ci => ∀ j, j < cN ci → defaultValue (yn ci j) = if fR ci j then .null else .int 0) (by decide +kernel) (by decide +kernel) (by decide +kernel) (by decide +kernel) (by decide +kernel) (by decide +kernel) (by decide +kernel) (by decide +kernel) (by decide +kernel) h
  intro j hj
  rw [key ci h j hj, vp_V, List.getD_eq_getElem?_getD, fV_at hj]
  simp only [Option.getD_some, fV, va_up, if_true, Option.map_none, va_rf]
  rfl
/-- a new object of class ci -/
theorem r_new (K : OK X Y cc own nL ret R nm) {ci idx : Nat} (hd : decode cc pc = .ok (.new idx, 3)) (hci : ci < 9) (hw : Cond.classLink own idx (Rn ci) ∈ lw_tbl ∧ Cond.instantiable (Rn ci) (cN ci) ∈ lw_tbl ∧ Cond.initialized (Rn ci) ∈ lw_tbl) (hc : cells + 1 ≤ R.cells) (hs : slots + cN ci ≤ R.slots)
    (kk : RR X Y Q (cells + 1) (slots + cN ci) (pc + 3) ls (.inr (some (3 + hn)) :: st) (va_up T (3 + hn) ci) (va_up L (3 + hn) 0) (va_up P (3 + hn) (fun _ => none)) (va_up I (3 + hn) (fun _ => 0)) (hn + 1)) : RR X Y Q cells slots pc ls st T L P I hn := by
  intro H locs la hH hS hL hV
  have hR : xR X = R := K.2.2.2.2.2.2.2.1
  have hKn := K.2.2.2.2.1.1.1 ci _ (cl_at hci)
  refine W.newcK K.1 K.2.1 K.2.2.2.1 (K.w hw.1 rfl) (K.w hw.2.1 rfl) (K.w hw.2.2 rfl) rfl hd (by rw [hR]; exact hc) (by rw [hR]; exact hs) hKn.2.1 (ad_new hH) fun H' kC hkC c1 c2 c3 => ?_
  have z2 : H'.size = H.size + 1 := by rw [c2, ad_new hH]
  have o2 : ∀ q, q < H.size → H'[q]? = H[q]? := fun q hq => c3 q (by rw [← ad_new hH]; exact hq)
  refine kk H' locs la (hH.new (by omega) z2 o2 ?_) ⟨by rw [z2]; exact Nat.le_succ_of_le hS.1, fun q g1 g2 => (o2 q (Nat.lt_of_lt_of_le g1 hS.1)).trans (hS.2.1 q g1 g2), hS.2.2⟩ hL (vcons trivial hV)
  have hup : va_up T (3 + hn) ci (3 + hn) = ci := by simp [va_up]
  rw [cE_obj hup hci]
  exact ⟨_, cl_at hci, (u_born (yn ci) (K.2.2.2.2.1.ts #[]) (cl_in hci) hKn hkC c1 (cl_ty hci)).to (fV_new hci)⟩
/-- a new array of references: 13 of Bytes, 14 of Patch -/
theorem r_newq (K : OK X Y cc own nL ret R nm) {t ci idx : Nat} {n : Int} (hd : decode cc pc = .ok (.anewarray idx, 3)) (ht : (t = 13 ∧ ci = 0) ∨ (t = 14 ∧ ci = 3)) (hw : Cond.classLink own idx (Rn ci) ∈ lw_tbl ∧ Cond.arrayOver (.object (Rn ci)) ∈ lw_tbl) (h0 : 0 ≤ n) (h1 : n ≤ 100000) (hc : cells + 1 ≤ R.cells) (hs : slots + n.toNat ≤ R.slots)
    (kk : RR X Y Q (cells + 1) (slots + n.toNat) (pc + 3) ls (.inr (some (3 + hn)) :: st) (va_up T (3 + hn) t) (va_up L (3 + hn) n.toNat) (va_up P (3 + hn) (fun _ => none)) (va_up I (3 + hn) (fun _ => 0)) (hn + 1)) : RR X Y Q cells slots pc ls (.inl n :: st) T L P I hn := by
  intro H locs la hH hS hL hV
  have hi := vh hV
  have hR : xR X = R := K.2.2.2.2.2.2.2.1
  have hn0 : ¬ Int32.ofInt n < 0 := by rw [← oi_0, oi_lt hi rg0]; omega
  refine W.anew K.1 K.2.1 K.2.2.2.1 (K.w hw.1 rfl) (K.w hw.2 rfl) rfl hd rfl hn0 (by rw [oi_cl hi]; omega) (by rw [hR]; exact hc) (by rw [hR, oi_cl hi]; exact hs) fun cA kA comp f1 f2 f3 f4 => ?_
  rw [oi_cl hi, ad_new hH]
  generalize hH1 : H.push ({ cls := cA, slots := Array.replicate n.toNat .null, vm := .none } : Cell) = H'
  have z2 : H'.size = H.size + 1 := by rw [← hH1, Array.size_push]
  have e1 : H'[H.size]? = some (arrV cA n.toNat (fun _ => .null)) := by rw [← hH1, Array.getElem?_push_size, ← arrV_new]
  have o2 : ∀ q : Nat, q < H.size → H'[q]? = H[q]? := fun q hq => by rw [← hH1, Array.getElem?_push, if_neg (Nat.ne_of_lt hq)]
  refine kk H' locs la (hH.new (by rcases ht with ⟨rfl, -⟩ | ⟨rfl, -⟩ <;> decide) z2 o2 ?_) ⟨by rw [z2]; exact Nat.le_succ_of_le hS.1, fun q g1 g2 => (o2 q (Nat.lt_of_lt_of_le g1 hS.1)).trans (hS.2.1 q g1 g2), hS.2.2⟩ hL (vcons trivial (vtail hV))
  have h13 : 13 ≤ t := by rcases ht with ⟨rfl, -⟩ | ⟨rfl, -⟩ <;> decide
  have hcA : cA = yC Y t := by
    rcases ht with ⟨rfl, rfl⟩ | ⟨rfl, rfl⟩
    · obtain ⟨_, _, -, -, -, g4⟩ := (K.2.2.2.2.1.1.2 3 _ rfl).2
      exact Option.some.inj (f1.symm.trans g4)
    · obtain ⟨_, _, -, -, -, g4⟩ := (K.2.2.2.2.1.1.2 4 _ rfl).2
      exact Option.some.inj (f1.symm.trans g4)
  have hup : va_up T (3 + hn) t (3 + hn) = t := by simp [va_up]
  rw [cE_rar hup h13]
  show H'[ad Y (3 + hn)]? = some (vp_cell _ _)
  rw [← ad_new hH, e1, vp_cell_q, hcA]
  congr 2
  · simp [va_up]
  · funext j
    simp [va_up, va_rf]
theorem r_ifnonnull (K : OK X Y cc own nL ret R nm) {o : Option Nat} {off : Int} (tgt : Nat) (hd : decode cc pc = .ok (.ifnonnull off, 3)) (ht : (pc : Int) + off = (tgt : Int)) (kt : ∀ q, o = some q → RR X Y Q cells slots tgt ls st T L P I hn) (kf : o = none → RR X Y Q cells slots (pc + 3) ls st T L P I hn) : RR X Y Q cells slots pc ls (.inr o :: st) T L P I hn := by
  intro H locs la hH hS hL hV
  cases o with
  | none => exact lv_ifnonnullN K.1 K.2.1 hd (kf rfl H locs la hH hS hL (vtail hV))
  | some q => exact lv_ifnonnull K.1 K.2.1 hd ht (kt q rfl H locs la hH hS hL (vtail hV))
theorem r_tableOut (K : OK X Y cc own nL ret R nm) {dflt lo hi : Int} {offs : Array Int} {len : Nat} {x : Int} (tgt : Nat) (hd : decode cc pc = .ok (.tableswitch dflt lo hi offs, len)) (h : x < lo ∨ hi < x) (ht : (pc : Int) + dflt = (tgt : Int)) (k : RR X Y Q cells slots tgt ls st T L P I hn) : RR X Y Q cells slots pc ls (.inl x :: st) T L P I hn :=
  fun H locs la hH hS hL hV => lv_tableOut K.1 K.2.1 hd (by rw [oi_toInt (vh hV)]; exact h) ht (k H locs la hH hS hL (vtail hV))
theorem r_tableIn (K : OK X Y cc own nL ret R nm) {dflt lo hi : Int} {offs : Array Int} {len : Nat} {x off : Int} (tgt : Nat) (hd : decode cc pc = .ok (.tableswitch dflt lo hi offs, len)) (h1 : lo ≤ x) (h2 : x ≤ hi) (ho : offs[(x - lo).toNat]? = some off) (ht : (pc : Int) + off = (tgt : Int)) (k : RR X Y Q cells slots tgt ls st T L P I hn) : RR X Y Q cells slots pc ls (.inl x :: st) T L P I hn :=
  fun H locs la hH hS hL hV => lv_tableIn K.1 K.2.1 hd (by rw [oi_toInt (vh hV)]; omega) (by rw [oi_toInt (vh hV)]; omega) (by rw [oi_toInt (vh hV)]; exact ho) ht (k H locs la hH hS hL (vtail hV))
theorem r_lookup (K : OK X Y cc own nL ret R nm) {dflt : Int} {ps : Array (Int × Int)} {len : Nat} {x off : Int} (tgt : Nat) (hd : decode cc pc = .ok (.lookupswitch dflt ps, len)) (hp : (ps.toList.zip (ps.toList.drop 1)).all (fun (a, next) => a.1 < next.1) = true) (ho : Op.lookupswitch.offset ps.toList dflt x = off) (ht : (pc : Int) + off = (tgt : Int)) (k : RR X Y Q cells slots tgt ls st T L P I hn) : RR X Y Q cells slots pc ls (.inl x :: st) T L P I hn :=
  fun H locs la hH hS hL hV => lv_lookup K.1 K.2.1 hd hp (by rw [oi_toInt (vh hV)]; exact ho) ht (k H locs la hH hS hL (vtail hV))
/-- getstatic of the two tables: 1 is PAIR_FROM, 2 is PAIR_TO -/
theorem r_gets (K : OK X Y cc own nL ret R nm) {idx k : Nat} (hd : decode cc pc = .ok (.getstatic idx, 3)) (hk : (k = 1 ∧ (Cond.fieldLink own idx "PatchBench" "PAIR_FROM" "[I" ∈ lw_tbl ∨ Cond.fieldLinkNest own idx "PatchBench" "PAIR_FROM" "[I" "PatchBench" ∈ lw_tbl)) ∨ (k = 2 ∧ (Cond.fieldLink own idx "PatchBench" "PAIR_TO" "[I" ∈ lw_tbl ∨ Cond.fieldLinkNest own idx "PatchBench" "PAIR_TO" "[I" "PatchBench" ∈ lw_tbl))) (kk : RR X Y Q cells slots (pc + 3) ls (.inr (some k) :: st) T L P I hn) : RR X Y Q cells slots pc ls st T L P I hn := by
  intro H locs la hH hS hL hV
  have go := kk H locs la hH hS hL (vcons trivial hV)
  have e1 : ySp Y 1 = ad Y 1 := (if_pos (by decide)).symm
  have e2 : ySp Y 2 = ad Y 2 := (if_pos (by decide)).symm
  have z1 := K.2.2.2.2.1.2.2.2.2.2.2.1
  have z2 := K.2.2.2.2.1.2.2.2.2.2.2.2
  rw [e1] at z1
  rw [e2] at z2
  rcases hk with ⟨rfl, hl | hl⟩ | ⟨rfl, hl | hl⟩
  · exact va_gets K.1 K.2.1 z1 hS K.2.2.2.1 (K.w hl rfl) (fun _ h => h) hd go
  · exact va_getsN K.1 K.2.1 z1 hS K.2.2.2.1 (K.w hl rfl) (fun _ h => h) hd go
  · exact va_gets K.1 K.2.1 z2 hS K.2.2.2.1 (K.w hl rfl) (fun _ h => h) hd go
  · exact va_getsN K.1 K.2.1 z2 hS K.2.2.2.1 (K.w hl rfl) (fun _ h => h) hd go
theorem st_sum (Y : SY) (st : List PV) : ((st.map (eV Y)).map fun v => v.category).sum = st.length := by
  induction st with
  | nil => rfl
  | cons v st ih =>
    rw [List.map_cons, List.map_cons, List.sum_cons, eV_cat, ih, List.length_cons, Nat.add_comm]
theorem r_min (K : OK X Y cc own nL ret R nm) {x y : Int} {idx : Nat} (hd : decode cc pc = .ok (.invokestatic idx, 3)) (hw : Cond.methodLink own idx Lib.Math.min.name ∈ lw_tbl) (hf : 1 ≤ R.frames) (hlo : st.length + 13 ≤ R.locals) (hc : cells ≤ R.cells) (hs : slots ≤ R.slots) (kk : RR X Y Q cells slots (pc + 3) ls (.inl (if y < x then y else x) :: st) T L P I hn) : RR X Y Q cells slots pc ls (.inl y :: .inl x :: st) T L P I hn := by
  intro H locs la hH hS hL hV
  have hR : xR X = R := K.2.2.2.2.2.2.2.1
  have hy := vh hV
  have hx := vh (vtail hV)
  refine va_mmin K.1 K.2.1 (hL.1.1.symm) K.2.2.2.1 (K.w hw rfl) (K.w (by decide +kernel) rfl) (K.w (by decide +kernel) rfl) (K.w (by decide +kernel) rfl) (by rw [hR]; exact hf) (by rw [hR, st_sum]; exact hlo) (by rw [hR]; exact hc) (by rw [hR]; exact hs) hd ?_
  have e : (if Int32.ofInt y < Int32.ofInt x then Int32.ofInt y else Int32.ofInt x) = Int32.ofInt (if y < x then y else x) := by
    by_cases h : y < x
    · rw [if_pos h, if_pos ((oi_lt hy hx).mpr h)]
    · rw [if_neg h, if_neg (fun q => h ((oi_lt hy hx).mp q))]
  rw [e]
  exact kk H locs la hH hS hL (vcons (show rg _ by split <;> assumption) (vtail (vtail hV)))
theorem r_max (K : OK X Y cc own nL ret R nm) {x y : Int} {idx : Nat} (hd : decode cc pc = .ok (.invokestatic idx, 3)) (hw : Cond.methodLink own idx Lib.Math.max.name ∈ lw_tbl) (hf : 1 ≤ R.frames) (hlo : st.length + 13 ≤ R.locals) (hc : cells ≤ R.cells) (hs : slots ≤ R.slots) (kk : RR X Y Q cells slots (pc + 3) ls (.inl (if x < y then y else x) :: st) T L P I hn) : RR X Y Q cells slots pc ls (.inl y :: .inl x :: st) T L P I hn := by
  intro H locs la hH hS hL hV
  have hR : xR X = R := K.2.2.2.2.2.2.2.1
  have hy := vh hV
  have hx := vh (vtail hV)
  refine va_mmax K.1 K.2.1 (hL.1.1.symm) K.2.2.2.1 (K.w hw rfl) (K.w (by decide +kernel) rfl) (K.w (by decide +kernel) rfl) (K.w (by decide +kernel) rfl) (by rw [hR]; exact hf) (by rw [hR, st_sum]; exact hlo) (by rw [hR]; exact hc) (by rw [hR]; exact hs) hd ?_
  have e : (if Int32.ofInt x < Int32.ofInt y then Int32.ofInt y else Int32.ofInt x) = Int32.ofInt (if x < y then y else x) := by
    by_cases h : x < y
    · rw [if_pos h, if_pos ((oi_lt hx hy).mpr h)]
    · rw [if_neg h, if_neg (fun q => h ((oi_lt hx hy).mp q))]
  rw [e]
  exact kk H locs la hH hS hL (vcons (show rg _ by split <;> assumption) (vtail (vtail hV)))
end CALL
