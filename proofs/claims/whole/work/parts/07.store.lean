section STOR
variable {X : Cx} {Y : SY} {Q : State → Prop} {cells slots pc : Nat} {ls : List (Option PV)} {st : List PV} {T L : Nat → Nat} {P : Nat → Nat → Option Nat} {I : Nat → Nat → Int} {hn : Nat} {cc : ByteArray} {own : String} {nL : Nat} {ret : Option FieldType} {R : Room} {nm : String}
theorem cell_up {cA : ClassId} {n i : Nat} {I : Nat → Nat → Int} {k : Nat} {z : Int} {v : Int32} (hv : v = Int32.ofInt z) : (vp_cell cA (n, .inl (fun j => Int32.ofInt (I k j)))).setSlot i (.int v) = vp_cell cA (n, .inl (fun j => Int32.ofInt (mI I k i z k j))) := by
  rw [vp_cell_i, vp_cell_i, arrV_store]
  congr 2
  funext q
  subst hv
  by_cases hq : q = i
  · subst hq; simp [updV, mI_row]
  · simp [updV, mI_row, hq]
theorem r_iast (K : OK X Y cc own nL ret R nm) {k : Nat} {i z : Int} (hd : decode cc pc = .ok (.iastore, 1)) (hT : T k = 10) (h0 : 0 ≤ i) (h1 : i < L k) (kk : RR X Y Q cells slots (pc + 1) ls st T L P (mI I k i.toNat z) hn) : RR X Y Q cells slots pc ls (.inl z :: .inl i :: .inr (some k) :: st) T L P I hn := by
  intro H locs la hH hS hL hV
  have hz := vh hV
  have hi := vh (vtail hV)
  have h3 : 3 ≤ k := hH.ge (by omega)
  refine W.iast K.1 K.2.1 (hH.arr hT (by decide) (by decide)) ((K.2.2.2.2.1.1.2 0 _ rfl).1 (L k) (fun j => .int (Int32.ofInt (I k j)))) (fun q => by cases q) (by show ¬ (_ ∨ (arrV _ _ _).slots.size ≤ _); rw [arrV_size]; exact oi_in hi h0 h1) rfl rfl hd fun H1 e z oq => ?_
  rw [oi_cl hi, cell_up rfl] at e
  refine kk H1 _ la (hH.updI h3 z oq hz ?_) (hS.put z oq (yA_hi h3)) hL (vtail (vtail (vtail hV)))
  rw [cE_arr hT (by decide) (by decide)]
  exact e
theorem r_bast (K : OK X Y cc own nL ret R nm) {k : Nat} {i z : Int} (hd : decode cc pc = .ok (.bastore, 1)) (hT : T k = 11) (h0 : 0 ≤ i) (h1 : i < L k) (kk : RR X Y Q cells slots (pc + 1) ls st T L P (mI I k i.toNat (zByte z)) hn) : RR X Y Q cells slots pc ls (.inl z :: .inl i :: .inr (some k) :: st) T L P I hn := by
  intro H locs la hH hS hL hV
  have hz := vh hV
  have hi := vh (vtail hV)
  have h3 : 3 ≤ k := hH.ge (by omega)
  refine W.bast K.1 K.2.1 (hH.arr hT (by decide) (by decide)) ((K.2.2.2.2.1.1.2 1 _ rfl).1 (L k) (fun j => .int (Int32.ofInt (I k j)))) (fun q => by cases q) (by show ¬ (_ ∨ (arrV _ _ _).slots.size ≤ _); rw [arrV_size]; exact oi_in hi h0 h1) rfl rfl hd fun H1 e z oq => ?_
  rw [oi_cl hi] at e
  refine kk H1 _ la (hH.updI h3 z oq (rg_of _) ?_) (hS.put z oq (yA_hi h3)) hL (vtail (vtail (vtail hV)))
  rw [cE_arr hT (by decide) (by decide)]
  exact e.trans (congrArg some (cell_up (oi_of _).symm))
theorem r_zast (K : OK X Y cc own nL ret R nm) {k : Nat} {i z : Int} (hd : decode cc pc = .ok (.bastore, 1)) (hT : T k = 12) (h0 : 0 ≤ i) (h1 : i < L k) (h01 : z = 0 ∨ z = 1) (kk : RR X Y Q cells slots (pc + 1) ls st T L P (mI I k i.toNat z) hn) : RR X Y Q cells slots pc ls (.inl z :: .inl i :: .inr (some k) :: st) T L P I hn := by
  intro H locs la hH hS hL hV
  have hz := vh hV
  have hi := vh (vtail hV)
  have h3 : 3 ≤ k := hH.ge (by omega)
  refine W.zast K.1 K.2.1 (hH.arr hT (by decide) (by decide)) ((K.2.2.2.2.1.1.2 2 _ rfl).1 (L k) (fun j => .int (Int32.ofInt (I k j)))) (fun q => by cases q) (by show ¬ (_ ∨ (arrV _ _ _).slots.size ≤ _); rw [arrV_size]; exact oi_in hi h0 h1) rfl rfl hd fun H1 e z oq => ?_
  rw [oi_cl hi] at e
  refine kk H1 _ la (hH.updI h3 z oq hz ?_) (hS.put z oq (yA_hi h3)) hL (vtail (vtail (vtail hV)))
  rw [cE_arr hT (by decide) (by decide)]
  rcases h01 with rfl | rfl
  · exact e.trans (congrArg some (cell_up rfl))
  · exact e.trans (congrArg some (cell_up rfl))
theorem r_aast (K : OK X Y cc own nL ret R nm) {k v : Nat} {i : Int} (hd : decode cc pc = .ok (.aastore, 1)) (hT : (T k = 13 ∧ T v = 0) ∨ (T k = 14 ∧ T v = 3)) (h0 : 0 ≤ i) (h1 : i < L k) (kk : RR X Y Q cells slots (pc + 1) ls st T L (mP P k i.toNat (some v)) I hn) : RR X Y Q cells slots pc ls (.inr (some v) :: .inl i :: .inr (some k) :: st) T L P I hn := by
  intro H locs la hH hS hL hV
  have hi := vh (vtail hV)
  have key : ∀ (t ci j : Nat), T k = t → T v = ci → 13 ≤ t → t < 15 → ci < 9 → (∀ x, x = (yC Y t, FieldType.object (Rn ci)) → [(yC Y 10, FieldType.int), (yC Y 11, .byte), (yC Y 12, .boolean), (yC Y 13, .object RX0), (yC Y 14, .object RX3)][j]? = some x) → W (xp X) (xl X) (xe X) (xR X) (xs X) (xm X) (xa X) (xb X) (xh X) (xc X) H locs cells slots Q (F0 (xm X) pc la (((.inr (some v) :: .inl i :: .inr (some k) :: st) : List PV).map (eV Y))) := by
    intro t ci j hT hv h13 h15 hci hj
    have h3 : 3 ≤ k := hH.ge (by omega)
    have hK := K.2.2.2.2.1.1
    obtain ⟨r', hr', cellV, g1, g2, g3, -⟩ := hH.obj hv hci
    have hcls := (hK.1 ci _ (cl_at hci)).2
    obtain ⟨kA, comp, k1, k2, k3, -⟩ := (hK.2 j _ (hj _ rfl)).2
    have hcomp : comp = (yD Y).1 ci := Option.some.inj (k3.symm.trans hcls.1)
    subst hcomp
    obtain ⟨kC, hkC, -⟩ := hcls.2
    refine W.aast K.1 K.2.1 (hH.rar hT h13 h15) (fun q h => by cases h) (fun h => by cases h) k1 k2 rfl hkC ⟨by rw [← oi_0, oi_lt hi rg0]; omega, by show _ < (arrV _ _ _).slots.size; rw [arrV_size, oi_cl hi]; omega⟩ g1 (fun q h => by rw [g3] at h; cases h) (by rw [g2]; exact hkC) (by rw [g2]; exact va_assign hcls) rfl rfl hd fun H1 e z oq => ?_
    refine kk H1 _ la (hH.updP h3 z oq ?_) (hS.put z oq (yA_hi h3)) hL (vtail (vtail (vtail hV)))
    rw [cE_rar hT h13]
    show H1[ad Y k]? = some (vp_cell _ _)
    rw [e, oi_cl hi, vp_cell_q, vp_cell_q, arrV_store]
    congr 2
    funext q
    by_cases hq : q = i.toNat
    · subst hq
      simp [updV, mP_row, va_rf]
    · simp [updV, mP_row, hq]
  rcases hT with ⟨h1, h2⟩ | ⟨h1, h2⟩
  · exact key 13 0 3 h1 h2 (by decide) (by decide) (by decide) (fun x hx => by subst hx; rfl)
  · exact key 14 3 4 h1 h2 (by decide) (by decide) (by decide) (fun x hx => by subst hx; rfl)
theorem r_alen (K : OK X Y cc own nL ret R nm) {k : Nat} (hd : decode cc pc = .ok (.arraylength, 1)) (hT : T k = 10) (hl : L k < 2147483648) (kk : RR X Y Q cells slots (pc + 1) ls (.inl (L k) :: st) T L P I hn) : RR X Y Q cells slots pc ls (.inr (some k) :: st) T L P I hn := by
  intro H locs la hH hS hL hV
  refine va_alen K.1 K.2.1 K.2.2.2.2.1.1 (va_P1 (q := (ad Y k, .inl (yC Y 10, L k, .inl (fun j => Int32.ofInt (I k j))))) (hH.arr hT (by decide) (by decide))) 0 0 rfl rfl rfl hd ?_
  exact kk H locs la hH hS hL (vcons (show rg _ from ⟨by omega, by omega⟩) (vtail hV))
theorem r_olen (K : OK X Y cc own nL ret R nm) {k : Nat} (hd : decode cc pc = .ok (.arraylength, 1)) (hk : k < 3) (kk : RR X Y Q cells slots (pc + 1) ls (.inl (L k) :: st) T L P I hn) : RR X Y Q cells slots pc ls (.inr (some k) :: st) T L P I hn := by
  intro H locs la hH hS hL hV
  obtain ⟨e1, e2, e3⟩ := hH.2.2.2.2.2 k hk
  have had : ad Y k = ySp Y k := if_pos hk
  obtain ⟨cell, c1, c2, c3, c4, c5, c6, c7⟩ := K.2.2.2.2.1.2.2.2.1 k hk
  have hl := K.2.2.2.2.1.2.2.2.2.1 k hk
  refine W.alen (a := ad Y k) (cell := cell) (n := Int32.ofNat (yL Y k)) K.1 K.2.1 (by rw [had, hS.2.1 _ (Array.getElem?_eq_some_iff.mp c1).1 c7]; exact c1) c2 c5 rfl rfl hd ?_
  rw [← e2]
  exact kk H locs la hH hS hL (vcons (show rg _ from ⟨by omega, by omega⟩) (vtail hV))
theorem ad_new {H : Heap} (h : HR Y T L P I hn H) : H.size = ad Y (3 + hn) := by
  rw [ad_hi Y (by omega), h.1]; omega
/-- a new array of whole numbers: t is 10, 11 or 12 -/
theorem r_newa (K : OK X Y cc own nL ret R nm) {at_ : ArrayType} {t : Nat} {n : Int} (hd : decode cc pc = .ok (.newarray at_, 2)) (ht : (at_ = .int ∧ t = 10) ∨ (at_ = .byte ∧ t = 11) ∨ (at_ = .boolean ∧ t = 12)) (hw : Cond.arrayClass (newarray.typeOf at_) ∈ lw_tbl) (h0 : 0 ≤ n) (h1 : n ≤ 100000) (hc : cells + 1 ≤ R.cells) (hs : slots + n.toNat ≤ R.slots)
    (kk : RR X Y Q (cells + 1) (slots + n.toNat) (pc + 2) ls (.inr (some (3 + hn)) :: st) (va_up T (3 + hn) t) (va_up L (3 + hn) n.toNat) (va_up P (3 + hn) (fun _ => none)) (va_up I (3 + hn) (fun _ => 0)) (hn + 1)) : RR X Y Q cells slots pc ls (.inl n :: st) T L P I hn := by
  intro H locs la hH hS hL hV
  have hi := vh hV
  have hR : xR X = R := K.2.2.2.2.2.2.2.1
  have hn0 : ¬ Int32.ofInt n < 0 := by rw [← oi_0, oi_lt hi rg0]; omega
  have hcb : componentBytes (newarray.typeOf at_) ≤ 4 := by rcases ht with ⟨rfl, -⟩ | ⟨rfl, -⟩ | ⟨rfl, -⟩ <;> decide
  have hb : n.toNat * componentBytes (newarray.typeOf at_) ≤ 536870912 := Nat.le_trans (Nat.mul_le_mul_left _ hcb) (by omega)
  refine va_newaK K.1 K.2.1 (K.w hw rfl) rfl hd rfl hn0 (oi_cl hi) hb (by rw [hR]; exact hc) (by rw [hR]; exact hs) (ad_new hH) fun H' cA c1 c2 c3 c4 c5 => ?_
  have z2 : H'.size = H.size + 1 := by rw [c2, ad_new hH]
  have o2 : ∀ q, q < H.size → H'[q]? = H[q]? := fun q hq => c3 q (by rw [← ad_new hH]; exact hq)
  refine kk H' locs la (hH.new (by rcases ht with ⟨-, rfl⟩ | ⟨-, rfl⟩ | ⟨-, rfl⟩ <;> decide) z2 o2 ?_) ⟨by rw [z2]; exact Nat.le_succ_of_le hS.1, fun q g1 g2 => (o2 q (Nat.lt_of_lt_of_le g1 hS.1)).trans (hS.2.1 q g1 g2), hS.2.2⟩ hL (vcons trivial (vtail hV))
  have hcA : cA = yC Y t := by
    rcases ht with ⟨rfl, rfl⟩ | ⟨rfl, rfl⟩ | ⟨rfl, rfl⟩
    · exact Option.some.inj (c5.symm.trans (K.2.2.2.2.1.1.2 0 _ rfl).2)
    · exact Option.some.inj (c5.symm.trans (K.2.2.2.2.1.1.2 1 _ rfl).2)
    · exact Option.some.inj (c5.symm.trans (K.2.2.2.2.1.1.2 2 _ rfl).2)
  have h9 : 9 ≤ t := by rcases ht with ⟨-, rfl⟩ | ⟨-, rfl⟩ | ⟨-, rfl⟩ <;> decide
  have h13 : t < 13 := by rcases ht with ⟨-, rfl⟩ | ⟨-, rfl⟩ | ⟨-, rfl⟩ <;> decide
  have hup : va_up T (3 + hn) t (3 + hn) = t := by simp [va_up]
  rw [cE_arr hup h9 h13]
  show H'[ad Y (3 + hn)]? = some (vp_cell _ _)
  rw [c1, vp_cell_i, hcA]
  congr 2
  · simp [va_up]
  · funext j
    rcases ht with ⟨rfl, -⟩ | ⟨rfl, -⟩ | ⟨rfl, -⟩ <;> simp [va_up] <;> rfl
end STOR
