def Rn (ci : Nat) : String := match ci with
  | 0 => RX0
  | 1 => RX1
  | 2 => RX2
  | 3 => RX3
  | 4 => RX4
  | 5 => RX5
  | 6 => RX6
  | 7 => RX7
  | _ => RX8
def Tn (ci : Nat) : u_T := match ci with
  | 0 => TX0
  | 1 => TX1
  | 2 => TX2
  | 3 => TX3
  | 4 => TX4
  | 5 => TX5
  | 6 => TX6
  | 7 => TX7
  | _ => TX8
def yn (ci : Nat) : Nat → FieldType := match ci with
  | 0 => tyX0
  | 1 => tyX1
  | 2 => tyX2
  | 3 => tyX3
  | 4 => tyX4
  | 5 => tyX5
  | 6 => tyX6
  | 7 => tyX7
  | _ => tyX8
theorem ci_9 {P : Nat → Prop} (h0 : P 0) (h1 : P 1) (h2 : P 2) (h3 : P 3) (h4 : P 4) (h5 : P 5) (h6 : P 6) (h7 : P 7) (h8 : P 8) {i : Nat} (hi : i < 9) : P i := by
  match i, hi with
  | 0, _ => exact h0
  | 1, _ => exact h1
  | 2, _ => exact h2
  | 3, _ => exact h3
  | 4, _ => exact h4
  | 5, _ => exact h5
  | 6, _ => exact h6
  | 7, _ => exact h7
  | 8, _ => exact h8
  | n + 9, h => exact absurd h (by omega)
abbrev tbl : List Cond := lw_tbl.filter mov
theorem cl_at {ci : Nat} (h : ci < 9) : vwCl[ci]? = some (Rn ci, Tn ci, cN ci) := ci_9 (P := fun ci => vwCl[ci]? = some (Rn ci, Tn ci, cN ci)) rfl rfl rfl rfl rfl rfl rfl rfl rfl h
theorem lay_mov (C : String) (T : u_T) (N : Nat) : ∀ w ∈ u_ws C T N, mov w = true := by
  intro w hw
  obtain ⟨k, -, rfl⟩ := List.mem_map.mp hw
  unfold u_lay
  split <;> rfl
theorem cl_in {ci : Nat} (h : ci < 9) : ∀ w ∈ u_ws (Rn ci) (Tn ci) (cN ci), w ∈ tbl := fun w hw =>
  List.mem_filter.mpr ⟨(ci_9 (P := fun ci => ∀ w ∈ u_ws (Rn ci) (Tn ci) (cN ci), w ∈ lw_tbl) inX0 inX1 inX2 inX3 inX4 inX5 inX6 inX7 inX8 h) w hw, lay_mov _ _ _ w hw⟩
theorem cl_ty {ci : Nat} (h : ci < 9) : ∀ k, k < cN ci → parseFieldDescriptor (Tn ci k).2.2.1 = some (yn ci k) :=
  ci_9 (P := fun ci => ∀ k, k < cN ci → parseFieldDescriptor (Tn ci k).2.2.1 = some (yn ci k)) tyX0_ok tyX1_ok tyX2_ok tyX3_ok tyX4_ok tyX5_ok tyX6_ok tyX7_ok tyX8_ok h
theorem cl_nm {ci : Nat} (h : ci < 9) : ∀ a, a < cN ci → ∀ b, b < cN ci → a ≠ b → (Tn ci a).2.1 ≠ (Tn ci b).2.1 :=
  ci_9 (P := fun ci => ∀ a, a < cN ci → ∀ b, b < cN ci → a ≠ b → (Tn ci a).2.1 ≠ (Tn ci b).2.1) nmX0 nmX1 nmX2 nmX3 nmX4 nmX5 nmX6 nmX7 nmX8 h
theorem KK.ts {Y : SY} {U : State} (h : KK Y U) (a : Array Value) : ∀ w ∈ tbl, w.before a U = true := fun w hw => h.2.1 a w (List.mem_filter.mp hw).1 (List.mem_filter.mp hw).2
/-- a field's link: own's entry idx is field fi of class ci, of its own class or of a nest mate's -/
def fL (own : String) (idx ci fi : Nat) : Prop := ci < 9 ∧ fi < cN ci ∧ (Cond.fieldLink own idx (Tn ci fi).1 (Tn ci fi).2.1 (Tn ci fi).2.2.1 ∈ lw_tbl ∨ Cond.fieldLinkNest own idx (Tn ci fi).1 (Tn ci fi).2.1 (Tn ci fi).2.2.1 "PatchBench" ∈ lw_tbl)
def mI (I : Nat → Nat → Int) (a i : Nat) (z : Int) : Nat → Nat → Int := fun b => if b = a then (fun j => if j = i then z else I a j) else I b
def mP (P : Nat → Nat → Option Nat) (a i : Nat) (z : Option Nat) : Nat → Nat → Option Nat := fun b => if b = a then (fun j => if j = i then z else P a j) else P b
theorem mI_eq {I : Nat → Nat → Int} {a i : Nat} {z : Int} : mI I a i z a i = z := by simp [mI]
theorem mI_ne {I : Nat → Nat → Int} {a i b : Nat} {z : Int} (h : b ≠ a) : mI I a i z b = I b := by simp [mI, h]
theorem mI_nj {I : Nat → Nat → Int} {a i j : Nat} {z : Int} (h : j ≠ i) : mI I a i z a j = I a j := by simp [mI, h]
theorem mI_row {I : Nat → Nat → Int} {a i j : Nat} {z : Int} : mI I a i z a j = if j = i then z else I a j := by simp [mI]
theorem mP_ne {I : Nat → Nat → Option Nat} {a i b : Nat} {z : Option Nat} (h : b ≠ a) : mP I a i z b = I b := by simp [mP, h]
theorem mP_row {I : Nat → Nat → Option Nat} {a i j : Nat} {z : Option Nat} : mP I a i z a j = if j = i then z else I a j := by simp [mP]
theorem mI_mI {I : Nat → Nat → Int} {a i : Nat} {z w : Int} : mI (mI I a i z) a i w = mI I a i w := by
  funext b j
  simp only [mI]
  split
  · by_cases hj : j = i <;> simp [hj]
  · rfl
section MEM
variable {Y : SY} {T L : Nat → Nat} {P P' : Nat → Nat → Option Nat} {I I' : Nat → Nat → Int} {hn : Nat} {H H' : Heap}
theorem HR.lt (h : HR Y T L P I hn H) {k : Nat} (hk : T k ≠ 99) : k < 3 + hn := by
  rcases Nat.lt_or_ge k (3 + hn) with q | q
  · exact q
  · exact absurd (h.2.2.1 k q) hk
theorem HR.ge (h : HR Y T L P I hn H) {k : Nat} (hk : T k ≠ 15) : 3 ≤ k := by
  rcases Nat.lt_or_ge k 3 with q | q
  · exact absurd (h.2.2.2.2.2 k q).1 hk
  · exact q
theorem HR.obj (h : HR Y T L P I hn H) {k ci : Nat} (hT : T k = ci) (hci : ci < 9) : va_at (yD Y) vwCl (ad Y k, .inr (ci, (List.range (cN ci)).map (fV Y P I ci k))) H := by
  have h1 := h.2.1 k (h.ge (by omega)) (h.lt (by omega))
  rw [cE, hT, if_pos hci] at h1
  exact h1
theorem HR.arr (h : HR Y T L P I hn H) {k t : Nat} (hT : T k = t) (h9 : 9 ≤ t) (h13 : t < 13) : H[ad Y k]? = some (vp_cell (yC Y t) (L k, .inl (fun j => Int32.ofInt (I k j)))) := by
  have h1 := h.2.1 k (h.ge (by omega)) (h.lt (by omega))
  rw [cE, hT, if_neg (by omega), if_pos h13] at h1
  exact h1
theorem HR.rar (h : HR Y T L P I hn H) {k t : Nat} (hT : T k = t) (h13 : 13 ≤ t) (h15 : t < 15) : H[ad Y k]? = some (vp_cell (yC Y t) (L k, .inr (.inr (.inr (.inr (fun j => (P k j).map (ad Y))))))) := by
  have h1 := h.2.1 k (h.ge (by omega)) (h.lt (by omega))
  rw [cE, hT, if_neg (by omega), if_neg (by omega)] at h1
  exact h1
theorem HR.upd (h : HR Y T L P I hn H) {k : Nat} (h3 : 3 ≤ k) (e2 : H'.size = H.size) (e3 : ∀ q, q ≠ ad Y k → H'[q]? = H[q]?) (hI : ∀ j, j ≠ k → I' j = I j) (hP : ∀ j, j ≠ k → P' j = P j) (hg : ∀ i, rg (I' k i)) (hc : va_at (yD Y) vwCl (ad Y k, cE Y T L P' I' k) H') : HR Y T L P' I' hn H' := by
  obtain ⟨a1, a2, a3, a4, a5, a6⟩ := h
  refine ⟨e2.trans a1, fun j hj hj2 => ?_, a3, a4, fun j i => ?_, fun j hj => ?_⟩
  · by_cases hjk : j = k
    · subst hjk; exact hc
    · have hne : ad Y j ≠ ad Y k := by rw [ad_hi Y hj, ad_hi Y h3]; omega
      have e : cE Y T L P' I' j = cE Y T L P I j := by
        have q1 : fV Y P' I' (T j) j = fV Y P I (T j) j := by funext i; simp only [fV, hI j hjk, hP j hjk]
        simp only [cE, q1, hI j hjk, hP j hjk]
      rw [e]
      exact (a2 j hj hj2).kept (e3 _ hne)
  · by_cases hjk : j = k
    · subst hjk; exact hg i
    · rw [hI j hjk]; exact a5 j i
  · have hjk : j ≠ k := by omega
    rw [hI j hjk]; exact a6 j hj
theorem HR.updI (h : HR Y T L P I hn H) {k i : Nat} {z : Int} (h3 : 3 ≤ k) (e2 : H'.size = H.size) (e3 : ∀ q, q ≠ ad Y k → H'[q]? = H[q]?) (hz : rg z) (hc : va_at (yD Y) vwCl (ad Y k, cE Y T L P (mI I k i z) k) H') : HR Y T L P (mI I k i z) hn H' := by
  refine h.upd h3 e2 e3 (fun j hj => mI_ne hj) (fun _ _ => rfl) (fun j => ?_) hc
  rw [mI_row]
  split
  · exact hz
  · exact h.2.2.2.2.1 k j
theorem HR.updP (h : HR Y T L P I hn H) {k i : Nat} {z : Option Nat} (h3 : 3 ≤ k) (e2 : H'.size = H.size) (e3 : ∀ q, q ≠ ad Y k → H'[q]? = H[q]?) (hc : va_at (yD Y) vwCl (ad Y k, cE Y T L (mP P k i z) I k) H') : HR Y T L (mP P k i z) I hn H' :=
  h.upd h3 e2 e3 (fun _ _ => rfl) (fun j hj => mP_ne hj) (fun j => h.2.2.2.2.1 k j) hc
/-- a new cell behind the others -/
theorem HR.new (h : HR Y T L P I hn H) {t n : Nat} (ht : t ≠ 15) (e2 : H'.size = H.size + 1) (e3 : ∀ q, q < H.size → H'[q]? = H[q]?) (hc : va_at (yD Y) vwCl (ad Y (3 + hn), cE Y (va_up T (3 + hn) t) (va_up L (3 + hn) n) (va_up P (3 + hn) (fun _ => none)) (va_up I (3 + hn) (fun _ => 0)) (3 + hn)) H') : HR Y (va_up T (3 + hn) t) (va_up L (3 + hn) n) (va_up P (3 + hn) (fun _ => none)) (va_up I (3 + hn) (fun _ => 0)) (hn + 1) H' := by
  obtain ⟨a1, a2, a3, a4, a5, a6⟩ := h
  refine ⟨by omega, fun j hj hj2 => ?_, fun j hj => ?_, fun j hj => ?_, fun j i => ?_, fun j hj => ?_⟩
  · by_cases hjk : j = 3 + hn
    · subst hjk; exact hc
    · have e : cE Y (va_up T (3 + hn) t) (va_up L (3 + hn) n) (va_up P (3 + hn) (fun _ => none)) (va_up I (3 + hn) (fun _ => 0)) j = cE Y T L P I j := by
        have q1 : ∀ ci, fV Y (va_up P (3 + hn) (fun _ => none)) (va_up I (3 + hn) (fun _ => 0)) ci j = fV Y P I ci j := by intro ci; funext i; simp only [fV, va_up, if_neg hjk]
        simp only [cE, q1, va_up, if_neg hjk]
      rw [e]
      have h4 := a2 j hj (by omega)
      exact h4.kept (e3 _ h4.lt)
  · rw [va_up, if_neg (by omega)]; exact a3 j (by omega)
  · rw [va_up]
    split
    · exact ht
    · exact a4 j hj
  · rw [va_up]
    split
    · exact rg0
    · exact a5 j i
  · have q : j ≠ 3 + hn := by omega
    simp only [va_up, if_neg q]
    exact a6 j hj
theorem va_P1 {D : va_G} {cl : List vw_C} {q : Nat × va_E} (h : va_at D cl q H) : va_P D cl [q] H := by
  intro k x hx
  cases k with
  | zero => cases hx; exact h
  | succ k => simp at hx
theorem fV_at {ci k fi : Nat} (hN : fi < cN ci) : ((List.range (cN ci)).map (fV Y P I ci k))[fi]? = some (fV Y P I ci k fi) := by
  rw [List.getElem?_map, List.getElem?_range hN]; rfl
theorem fV_set {f g : Nat → Value} {N fi : Nat} (hg : ∀ j, j ≠ fi → g j = f j) : ((List.range N).map f).set fi (g fi) = (List.range N).map g := by
  apply List.ext_getElem?
  intro j
  by_cases h : fi = j
  · subst h
    rw [List.getElem?_set_self']
    by_cases hl : fi < N
    · simp [hl]
    · simp [hl]
  · rw [List.getElem?_set_ne h, List.getElem?_map, List.getElem?_map]
    by_cases hl : j < N
    · rw [List.getElem?_range hl]; simp [hg j (Ne.symm h)]
    · simp [hl]
end MEM
