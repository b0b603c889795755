/-! A layer of mathematical integers over the machine's rows: a memory of typed cells (kinds T, lengths L, references P, numbers I), locals and stack of Ints and references. -/
abbrev PV : Type := Int ⊕ Option Nat
abbrev SY : Type := va_G × (Nat → ClassId) × Nat × (Nat → Nat) × (Nat → Nat) × (Nat → Nat → Int)
abbrev yD (Y : SY) : va_G := Y.1
abbrev yC (Y : SY) : Nat → ClassId := Y.2.1
abbrev yB (Y : SY) : Nat := Y.2.2.1
abbrev ySp (Y : SY) : Nat → Nat := Y.2.2.2.1
abbrev yL (Y : SY) : Nat → Nat := Y.2.2.2.2.1
abbrev yI (Y : SY) : Nat → Nat → Int := Y.2.2.2.2.2
def ad (Y : SY) (k : Nat) : Nat := if k < 3 then ySp Y k else yB Y + (k - 3)
theorem ad_hi (Y : SY) {k : Nat} (h : 3 ≤ k) : ad Y k = yB Y + (k - 3) := if_neg (by omega)
def eV (Y : SY) (v : PV) : Value := match v with
  | .inl z => .int (Int32.ofInt z)
  | .inr none => .null
  | .inr (some k) => .ref (ad Y k)
def rg (z : Int) : Prop := -2147483648 ≤ z ∧ z < 2147483648
def vg (v : PV) : Prop := match v with
  | .inl z => rg z
  | .inr _ => True
def yA (Y : SY) : Nat → Prop := fun q => yB Y ≤ q
/-- which fields are references -/
def fR8 (i : Nat) : Bool := !(i == 1 || i == 10 || i == 11 || i == 20 || (decide (24 ≤ i) && decide (i ≤ 31)))
def fR (ci i : Nat) : Bool := match ci with
  | 0 => decide (i < 1)
  | 1 => decide (i < 4)
  | 2 => decide (i < 3)
  | 3 => decide (i < 4)
  | 4 => decide (i < 7)
  | 5 => true
  | 6 => decide (i < 3)
  | 7 => true
  | _ => fR8 i
def cN (ci : Nat) : Nat := match ci with
  | 0 => 2
  | 1 => 11
  | 2 => 8
  | 3 => 6
  | 4 => 11
  | 5 => 4
  | 6 => 4
  | 7 => 7
  | _ => 41
def fV (Y : SY) (P : Nat → Nat → Option Nat) (I : Nat → Nat → Int) (ci k i : Nat) : Value := if fR ci i then va_rf ((P k i).map (ad Y)) else .int (Int32.ofInt (I k i))
def cE (Y : SY) (T L : Nat → Nat) (P : Nat → Nat → Option Nat) (I : Nat → Nat → Int) (k : Nat) : va_E :=
  if T k < 9 then .inr (T k, (List.range (cN (T k))).map (fV Y P I (T k) k))
  else if T k < 13 then .inl (yC Y (T k), L k, .inl (fun j => Int32.ofInt (I k j)))
  else .inl (yC Y (T k), L k, .inr (.inr (.inr (.inr (fun j => (P k j).map (ad Y))))))
/-- the heap holds the memory -/
def HR (Y : SY) (T L : Nat → Nat) (P : Nat → Nat → Option Nat) (I : Nat → Nat → Int) (hn : Nat) (H : Heap) : Prop :=
  H.size = yB Y + hn ∧ (∀ k, 3 ≤ k → k < 3 + hn → va_at (yD Y) vwCl (ad Y k, cE Y T L P I k) H) ∧ (∀ k, 3 + hn ≤ k → T k = 99) ∧ (∀ k, 3 ≤ k → T k ≠ 15) ∧ (∀ k i, rg (I k i)) ∧ ∀ k, k < 3 → T k = 15 ∧ L k = yL Y k ∧ ∀ i, I k i = yI Y k i
def aTy (t : Nat) : FieldType := match t with
  | 10 => .int
  | 11 => .byte
  | 12 => .boolean
  | 13 => .object RX0
  | _ => .object RX3
def mov (w : Cond) : Bool := match w with
  | .fieldLinkNest _ _ _ _ _ _ => true
  | .methodLinkNest _ _ _ _ => true
  | .arrayOver (.object _) => true
  | w => goodWord w
/-- what is known of the tables, the statics, the script -/
def KK (Y : SY) (U : State) : Prop :=
  va_K (yD Y) vwCl [(yC Y 10, .int), (yC Y 11, .byte), (yC Y 12, .boolean), (yC Y 13, .object RX0), (yC Y 14, .object RX3)] U ∧ (∀ (a : Array Value) (w : Cond), w ∈ lw_tbl → mov w = true → w.before a U = true) ∧ yB Y ≤ U.heap.size ∧
  (∀ k, k < 3 → va_T .int (ySp Y k) (yL Y k) (fun j => .int (Int32.ofInt (yI Y k j))) (yA Y) U U.heap) ∧ (∀ k, k < 3 → yL Y k < 2147483648) ∧ (∀ k i, k < 3 → rg (yI Y k i)) ∧
  va_Z "PatchBench" "PAIR_FROM" "[I" (.ref (ySp Y 1)) (yA Y) U U.heap ∧ va_Z "PatchBench" "PAIR_TO" "[I" (.ref (ySp Y 2)) (yA Y) U U.heap
theorem mov_warm {w : Cond} (h : mov w = true) {s U : State} (hW : s.WarmedH U.vm) {a a' : Array Value} (hb : w.before a s = true) : w.before a' U = true := by
  cases w with
  | fieldLinkNest x1 x2 x3 x4 x5 x6 => exact va_Nw.use rfl (va_Nw.warmF hW (va_Nw.of rfl hb))
  | methodLinkNest x1 x2 x3 x4 => exact va_Nw.use rfl (va_Nw.warmM hW (va_Nw.of rfl hb))
  | arrayOver t =>
    cases t with
    | object C => exact va_AO.use (va_AO.moved hW.alike (va_AO.of hb))
    | _ => exact word_at hW (good_of_word h) hb
  | _ => exact word_at hW (good_of_word h) hb
theorem KK.warm {Y : SY} {s U : State} (h : KK Y s) (hW : s.WarmedH U.vm) (hz : yB Y ≤ U.heap.size) (hq : ∀ q, q < s.heap.size → ¬ yA Y q → U.heap[q]? = s.heap[q]?) : KK Y U := by
  obtain ⟨h1, h2, h3, h4, h5, h6, h7, h8⟩ := h
  exact ⟨va_K.moved hW.alike h1, fun a w hw hm => mov_warm hm hW (h2 #[] w hw hm), hz, fun k hk => ((h4 k hk).kept hq).moved hW.alike, h5, h6, (h7.kept hq).moved hW.alike, (h8.kept hq).moved hW.alike⟩
/-- the context of a method's body -/
abbrev Cx : Type := Program × Launch × Env × Room × State × MethodId × Array Value × List Frame × Method × Code
abbrev xp (X : Cx) : Program := X.1
abbrev xl (X : Cx) : Launch := X.2.1
abbrev xe (X : Cx) : Env := X.2.2.1
abbrev xR (X : Cx) : Room := X.2.2.2.1
abbrev xs (X : Cx) : State := X.2.2.2.2.1
abbrev xm (X : Cx) : MethodId := X.2.2.2.2.2.1
abbrev xa (X : Cx) : Array Value := X.2.2.2.2.2.2.1
abbrev xb (X : Cx) : List Frame := X.2.2.2.2.2.2.2.1
abbrev xh (X : Cx) : Method := X.2.2.2.2.2.2.2.2.1
abbrev xc (X : Cx) : Code := X.2.2.2.2.2.2.2.2.2
def pl (Y : SY) (ls : List (Option PV)) : List (Nat × Value) := ls.zipIdx.filterMap (fun q => q.1.map (fun v => (q.2, eV Y v)))
theorem pl_mem {Y : SY} {ls : List (Option PV)} {i : Nat} {x : Value} : (i, x) ∈ pl Y ls ↔ ∃ v, ls[i]? = some (some v) ∧ x = eV Y v := by
  unfold pl
  rw [List.mem_filterMap]
  constructor
  · rintro ⟨⟨o, j⟩, h1, h2⟩
    rw [List.mem_zipIdx_iff_getElem?] at h1
    cases o with
    | none => simp at h2
    | some v =>
      simp at h2
      obtain ⟨rfl, rfl⟩ := h2
      exact ⟨v, h1, rfl⟩
  · rintro ⟨v, h1, rfl⟩
    exact ⟨(some v, i), List.mem_zipIdx_iff_getElem?.mpr h1, rfl⟩
def LH (Y : SY) (la : Array Slot) (nL : Nat) (ls : List (Option PV)) : Prop := lv_has la nL (pl Y ls) ∧ ∀ (i : Nat) (v : PV), ls[i]? = some (some v) → vg v
theorem LH.get {Y : SY} {la : Array Slot} {nL : Nat} {ls : List (Option PV)} (h : LH Y la nL ls) {i : Nat} {v : PV} (hi : ls[i]? = some (some v)) : la[i]? = some (.val (eV Y v)) := h.1.2.2 (i, eV Y v) (pl_mem.mpr ⟨v, hi, rfl⟩)
theorem eV_cat (Y : SY) (v : PV) : (eV Y v).category = 1 := by
  cases v with
  | inl z => rfl
  | inr o => cases o <;> rfl
theorem LH.set {Y : SY} {la la' : Array Slot} {nL : Nat} {ls : List (Option PV)} (h : LH Y la nL ls) {i : Nat} {v : PV} (hv : vg v) (h' : lv_has la' nL ((i, eV Y v) :: (pl Y ls).filter (fun q => !(q.1 == i) && !(q.1 + 1 == i && q.2.category == 2)))) : LH Y la' nL (ls.set i (some v)) := by
  refine ⟨⟨h'.1, h'.2.1, fun q hq => ?_⟩, fun j w hj => ?_⟩
  · obtain ⟨j, x⟩ := q
    obtain ⟨w, hw, rfl⟩ := pl_mem.mp hq
    refine h'.2.2 (j, eV Y w) ?_
    by_cases hji : i = j
    · subst hji
      rw [List.getElem?_set_self' ] at hw
      cases hls : ls[i]? with
      | none => rw [hls] at hw; simp at hw
      | some o =>
        rw [hls] at hw
        simp at hw
        subst hw
        exact List.mem_cons_self
    · rw [List.getElem?_set_ne hji] at hw
      refine List.mem_cons_of_mem _ (List.mem_filter.mpr ⟨pl_mem.mpr ⟨w, hw, rfl⟩, ?_⟩)
      have e1 : (j == i) = false := by simp; omega
      have e2 : ((eV Y w).category == 2) = false := by rw [eV_cat]; rfl
      simp only [e1, e2, Bool.and_false, Bool.not_false, Bool.and_self]
  · by_cases hji : i = j
    · subst hji
      rw [List.getElem?_set_self' ] at hj
      cases hls : ls[i]? with
      | none => rw [hls] at hj; simp at hj
      | some o =>
        rw [hls] at hj
        simp at hj
        subst hj
        exact hv
    · rw [List.getElem?_set_ne hji] at hj
      exact h.2 j w hj
/-- from here, with these locals, this stack, this memory, the machine comes to Q -/
def RR (X : Cx) (Y : SY) (Q : State → Prop) (cells slots pc : Nat) (ls : List (Option PV)) (st : List PV) (T L : Nat → Nat) (P : Nat → Nat → Option Nat) (I : Nat → Nat → Int) (hn : Nat) : Prop :=
  ∀ (H : Heap) (locs : List Loc) (la : Array Slot), HR Y T L P I hn H → va_S (yA Y) (xs X).heap H locs → LH Y la (xc X).maxLocals ls → (∀ v ∈ st, vg v) →
    W (xp X) (xl X) (xe X) (xR X) (xs X) (xm X) (xa X) (xb X) (xh X) (xc X) H locs cells slots Q (F0 (xm X) pc la (st.map (eV Y)))
/-- the context is that of a method with these bytes, of this class -/
def OK (X : Cx) (Y : SY) (cc : ByteArray) (own : String) (nL : Nat) (ret : Option FieldType) (R : Room) (nm : String) : Prop :=
  (xp X).tables.exec = Jvm.exec ∧ (xc X).code = cc ∧ (xc X).maxLocals = nL ∧ (xs X).vm.findClass own = some (xm X).cls ∧ KK Y (xs X) ∧ (xh X).sig.returnType = ret ∧ (xh X).locks = false ∧ xR X = R ∧ (xh X).name = nm
