section CPY
variable {X : Cx} {Y : SY} {Q : State → Prop} {cells slots pc : Nat} {ls : List (Option PV)} {st : List PV} {T L : Nat → Nat} {P : Nat → Nat → Option Nat} {I : Nat → Nat → Int} {hn : Nat} {cc : ByteArray} {own : String} {nL : Nat} {ret : Option FieldType} {R : Room} {nm : String}
/-- a row of the memory is replaced -/
def mR (I : Nat → Nat → Int) (a : Nat) (f : Nat → Int) : Nat → Nat → Int := fun b => if b = a then f else I b
theorem mR_eq {I : Nat → Nat → Int} {a : Nat} {f : Nat → Int} : mR I a f a = f := by simp [mR]
theorem mR_ne {I : Nat → Nat → Int} {a b : Nat} {f : Nat → Int} (h : b ≠ a) : mR I a f b = I b := by simp [mR, h]
/-- System.arraycopy between two different arrays of ints, from their beginnings -/
theorem r_copy (K : OK X Y cc own nL ret R nm) {a b idx : Nat} {n : Int} (hd : decode cc pc = .ok (.invokestatic idx, 3)) (hw : Cond.methodLink own idx arraycopyName ∈ lw_tbl) (hTa : T a = 10) (hTb : T b = 10) (h0 : 0 ≤ n) (h1 : n ≤ L a) (h2 : n ≤ L b) (hf : 1 ≤ R.frames) (hlo : st.length + 18 ≤ R.locals)
    (kk : RR X Y Q cells slots (pc + 3) ls st T L P (mR I b (fun j => if j < n.toNat then I a j else I b j)) hn) : RR X Y Q cells slots pc ls (.inl n :: .inl 0 :: .inr (some b) :: .inl 0 :: .inr (some a) :: st) T L P I hn := by
  intro H locs la hH hS hL hV
  have hR : xR X = R := K.2.2.2.2.2.2.2.1
  have hn1 := vh hV
  have h3 : 3 ≤ b := hH.ge (by omega)
  have hVst := vtail (vtail (vtail (vtail (vtail hV))))
  have hc0 := hH.arr hTa (by decide) (by decide)
  have hc1 := hH.arr hTb (by decide) (by decide)
  obtain ⟨-, k0, hk0, cm0, hkk0⟩ := (K.2.2.2.2.1.1.2 0 _ rfl).1 (L a) (fun j => .int (Int32.ofInt (I a j)))
  intro U hU Z
  obtain ⟨vm', Z', step⟩ := Z.arraycopy K.1 K.2.2.2.1 (K.w hw rfl) (K.w (by decide +kernel) rfl) (K.w (by decide +kernel) rfl) (K.w (by decide +kernel) rfl) (src := ad Y a) (dst := ad Y b) (cs := vp_cell (yC Y 10) (L a, .inl (fun j => Int32.ofInt (I a j)))) (cd := vp_cell (yC Y 10) (L b, .inl (fun j => Int32.ofInt (I b j)))) (srcPos := Int32.ofInt 0) (destPos := Int32.ofInt 0) (n := Int32.ofInt n) (by rw [hU]; exact hc0) (by rw [hU]; exact hc1)
    (fun _ h => by cases h) (fun _ h => by cases h) (fun h => by cases h) (fun h => by cases h) hk0 hk0 hkk0 hkk0 rfl (by decide) (by decide) (by rw [← oi_0, oi_lt hn1 rg0]; omega)
    (by rw [oi_toInt rg0, oi_toInt hn1]; show ¬ _ > ((arrV _ (L a) _).slots.size : Int); rw [arrV_size]; omega)
    (by rw [oi_toInt rg0, oi_toInt hn1]; show ¬ _ > ((arrV _ (L b) _).slots.size : Int); rw [arrV_size]; omega)
    (fun vm₁ _ i hi => by
      rw [oi_cl hn1] at hi
      have e : (vp_cell (yC Y 10) (L a, .inl (fun j => Int32.ofInt (I a j)))).slots.getD ((Int32.ofInt 0).toNatClampNeg + i) .null = .int (Int32.ofInt (I a i)) := by
        rw [oi_cl rg0]
        show (arrV _ (L a) (fun j => .int (Int32.ofInt (I a j)))).slots.getD _ _ = _
        rw [Array.getD_eq_getD_getElem?, arrV_read _ _ (by simp; omega)]
        simp
      rw [e]
      exact ⟨rfl, trivial⟩)
    (g := F0 (xm X) pc la (((.inl n :: .inl 0 :: .inr (some b) :: .inl 0 :: .inr (some a) :: st) : List PV).map (eV Y))) rfl hL.1.1 (rest := st.map (eV Y)) rfl (by rw [K.2.1]; exact hd) (by rw [hR]; exact hf) (by show 2 * 0 + _ + (7 + 11) ≤ _; rw [hR, st_sum]; omega)
  have e1 : copied (vp_cell (yC Y 10) (L a, .inl (fun j => Int32.ofInt (I a j)))) (vp_cell (yC Y 10) (L b, .inl (fun j => Int32.ofInt (I b j)))) (Int32.ofInt 0) (Int32.ofInt 0) (Int32.ofInt n) = vp_cell (yC Y 10) (L b, .inl (fun j => Int32.ofInt (mR I b (fun j => if j < n.toNat then I a j else I b j) b j))) := by
    refine (va_copied (fun z => .int z) (yC Y 10) (yC Y 10) (fun j => Int32.ofInt (I a j)) (fun j => Int32.ofInt (I b j)) (by rw [oi_cl rg0, oi_cl hn1]; simp; omega)).trans ?_
    rw [vp_cell_i]
    congr 2
    funext j
    rw [oi_cl rg0, oi_cl hn1, mR_eq]
    simp only [va_cpy]
    by_cases h : j < n.toNat
    · rw [if_pos h, if_pos (by simp; omega)]; simp
    · rw [if_neg h, if_neg (by simp; omega)]
  rw [e1] at Z' step
  have hl : ad Y b < H.size := (Array.getElem?_eq_some_iff.mp hc1).1
  generalize hcell : vp_cell (yC Y 10) (L b, .inl (fun j => Int32.ofInt (mR I b (fun j => if j < n.toNat then I a j else I b j) b j))) = cell at Z' step e1
  have hheap : ((U.setVm vm').setCell (ad Y b) cell).heap = H.setIfInBounds (ad Y b) cell := by rw [← hU]; rfl
  have oq : ∀ q : Nat, q ≠ ad Y b → (H.setIfInBounds (ad Y b) cell)[q]? = H[q]? := fun q hq => by simp [Array.getElem?_setIfInBounds, Ne.symm hq]
  have hsz : (H.setIfInBounds (ad Y b) cell).size = H.size := by simp
  obtain ⟨t, a1, b1⟩ := kk _ _ la (hH.upd h3 hsz oq (fun j hj => mR_ne hj) (fun _ _ => rfl) (fun i => by
      rw [mR_eq]
      show rg (if i < n.toNat then I a i else I b i)
      split
      · exact hH.2.2.2.2.1 _ _
      · exact hH.2.2.2.2.1 _ _) (by
      rw [cE_arr hTb (by decide) (by decide)]
      show (H.setIfInBounds (ad Y b) cell)[ad Y b]? = some (vp_cell _ _)
      rw [hcell]
      simp [Array.getElem?_setIfInBounds, hl])) ⟨by rw [hsz]; exact hS.1, fun q g1 g2 => by
      rw [oq q (fun e => g2 (by rw [e]; exact yA_hi h3))]
      exact hS.2.1 q g1 g2, fun q hq => by
      rcases List.mem_append.mp hq with h | h
      · exact hS.2.2 q h
      · obtain ⟨z, -, hz⟩ := List.mem_map.mp h
        rw [← hz]
        exact yA_hi h3⟩ hL hVst _ hheap Z'
  exact ⟨t, step t a1, b1⟩
end CPY
