theorem oi_add (x y : Int) : Int32.ofInt x + Int32.ofInt y = Int32.ofInt (x + y) := (Int32.ofInt_add x y).symm
theorem oi_sub (x y : Int) : Int32.ofInt x - Int32.ofInt y = Int32.ofInt (x - y) := (Int32.ofInt_sub x y).symm
theorem oi_mul (x y : Int) : Int32.ofInt x * Int32.ofInt y = Int32.ofInt (x * y) := (Int32.ofInt_mul x y).symm
theorem oi_neg (x : Int) : - Int32.ofInt x = Int32.ofInt (-x) := (Int32.ofInt_neg x).symm
theorem oi_toInt {x : Int} (h : rg x) : (Int32.ofInt x).toInt = x := by
  obtain ⟨h1, h2⟩ := h
  exact Int32.toInt_ofInt_of_le (by omega) (by omega)
theorem oi_of (x : Int32) : Int32.ofInt x.toInt = x := Int32.ofInt_toInt x
theorem rg_of (x : Int32) : rg x.toInt := by
  have h1 := Int32.le_toInt x
  have h2 := Int32.toInt_lt x
  exact ⟨by omega, by omega⟩
theorem oi_lt {x y : Int} (hx : rg x) (hy : rg y) : Int32.ofInt x < Int32.ofInt y ↔ x < y := by rw [Int32.lt_iff_toInt_lt, oi_toInt hx, oi_toInt hy]
theorem oi_le {x y : Int} (hx : rg x) (hy : rg y) : Int32.ofInt x ≤ Int32.ofInt y ↔ x ≤ y := by rw [Int32.le_iff_toInt_le, oi_toInt hx, oi_toInt hy]
theorem oi_eq {x y : Int} (hx : rg x) (hy : rg y) : Int32.ofInt x = Int32.ofInt y ↔ x = y := by
  constructor
  · intro h
    have := congrArg Int32.toInt h
    rwa [oi_toInt hx, oi_toInt hy] at this
  · rintro rfl; rfl
theorem rg0 : rg 0 := ⟨by decide, by decide⟩
theorem oi_0 : Int32.ofInt 0 = 0 := rfl
theorem oi_cl {x : Int} (h : rg x) : (Int32.ofInt x).toNatClampNeg = x.toNat := by
  show (Int32.ofInt x).toInt.toNat = _
  rw [oi_toInt h]
theorem oi_in {x : Int} {n : Nat} (h : rg x) (h1 : 0 ≤ x) (h2 : x < n) : vp_in (Int32.ofInt x) n := by
  rw [vp_in_iff, oi_toInt h]
  exact ⟨h1, h2⟩
theorem vcons {v : PV} {st : List PV} (h : vg v) (hs : ∀ w ∈ st, vg w) : ∀ w ∈ v :: st, vg w := fun w hw => (List.mem_cons.mp hw).elim (fun e => e ▸ h) (hs w)
theorem vtail {v : PV} {st : List PV} (hs : ∀ w ∈ v :: st, vg w) : ∀ w ∈ st, vg w := fun w hw => hs w (List.mem_cons_of_mem _ hw)
theorem vhead {v : PV} {st : List PV} (hs : ∀ w ∈ v :: st, vg w) : vg v := hs v List.mem_cons_self
theorem vh {z : Int} {st : List PV} (hs : ∀ w ∈ (.inl z : PV) :: st, vg w) : rg z := hs _ List.mem_cons_self
section ROWS
variable {X : Cx} {Y : SY} {Q : State → Prop} {cells slots pc : Nat} {ls : List (Option PV)} {st : List PV} {T L : Nat → Nat} {P : Nat → Nat → Option Nat} {I : Nat → Nat → Int} {hn : Nat} {cc : ByteArray} {own : String} {nL : Nat} {ret : Option FieldType} {R : Room} {nm : String}
theorem r_iconst (K : OK X Y cc own nL ret R nm) {n : Int} (hd : decode cc pc = .ok (.iconst n, 1)) (k : RR X Y Q cells slots (pc + 1) ls (.inl n :: st) T L P I hn) (hr : -2147483648 ≤ n ∧ n < 2147483648 := by omega) : RR X Y Q cells slots pc ls st T L P I hn :=
  fun H locs la hH hS hL hV => lv_iconst K.1 K.2.1 hd rfl (k H locs la hH hS hL (vcons hr hV))
theorem r_bipush (K : OK X Y cc own nL ret R nm) {n : Int} (hd : decode cc pc = .ok (.bipush n, 2)) (k : RR X Y Q cells slots (pc + 2) ls (.inl n :: st) T L P I hn) (hr : -2147483648 ≤ n ∧ n < 2147483648 := by omega) (hv : (Int8.ofInt n).toInt32 = Int32.ofInt n := by decide) : RR X Y Q cells slots pc ls st T L P I hn :=
  fun H locs la hH hS hL hV => lv_bipush K.1 K.2.1 hd hv (k H locs la hH hS hL (vcons hr hV))
theorem r_sipush (K : OK X Y cc own nL ret R nm) {n : Int} (hd : decode cc pc = .ok (.sipush n, 3)) (k : RR X Y Q cells slots (pc + 3) ls (.inl n :: st) T L P I hn) (hr : -2147483648 ≤ n ∧ n < 2147483648 := by omega) (hv : (Int16.ofInt n).toInt32 = Int32.ofInt n := by decide) : RR X Y Q cells slots pc ls st T L P I hn :=
  fun H locs la hH hS hL hV => lv_sipush K.1 K.2.1 hd hv (k H locs la hH hS hL (vcons hr hV))
theorem r_ldc (K : OK X Y cc own nL ret R nm) {i : Nat} {v : Int32} {n : Int} (hd : decode cc pc = .ok (.ldc i, 2)) (hc : Cond.constant own i v ∈ lw_tbl) (hv : v = Int32.ofInt n) (k : RR X Y Q cells slots (pc + 2) ls (.inl n :: st) T L P I hn) (hr : -2147483648 ≤ n ∧ n < 2147483648 := by omega) : RR X Y Q cells slots pc ls st T L P I hn := by
  subst hv
  exact fun H locs la hH hS hL hV => lv_ldc K.1 K.2.1 K.2.2.2.1 (K.2.2.2.2.1.2.1 _ _ hc rfl) hd (k H locs la hH hS hL (vcons hr hV))
theorem r_iload_n (K : OK X Y cc own nL ret R nm) {j : Fin 4} {z : Int} (hd : decode cc pc = .ok (.iload_n j, 1)) (hl : ls[(j : Nat)]? = some (some (.inl z))) (k : RR X Y Q cells slots (pc + 1) ls (.inl z :: st) T L P I hn) : RR X Y Q cells slots pc ls st T L P I hn :=
  fun H locs la hH hS hL hV => lv_iload_n K.1 K.2.1 hd rfl (hL.get hl) (k H locs la hH hS hL (vcons (hL.2 _ _ hl) hV))
theorem r_iload (K : OK X Y cc own nL ret R nm) {j : Nat} {z : Int} (hd : decode cc pc = .ok (.iload j, 2)) (hl : ls[j]? = some (some (.inl z))) (k : RR X Y Q cells slots (pc + 2) ls (.inl z :: st) T L P I hn) : RR X Y Q cells slots pc ls st T L P I hn :=
  fun H locs la hH hS hL hV => lv_iload K.1 K.2.1 hd (hL.get hl) (k H locs la hH hS hL (vcons (hL.2 _ _ hl) hV))
theorem r_aload_n (K : OK X Y cc own nL ret R nm) {j : Fin 4} {q : Nat} (hd : decode cc pc = .ok (.aload_n j, 1)) (hl : ls[(j : Nat)]? = some (some (.inr (some q)))) (k : RR X Y Q cells slots (pc + 1) ls (.inr (some q) :: st) T L P I hn) : RR X Y Q cells slots pc ls st T L P I hn :=
  fun H locs la hH hS hL hV => lv_aload_n K.1 K.2.1 hd rfl (hL.get hl) (k H locs la hH hS hL (vcons trivial hV))
theorem r_aload (K : OK X Y cc own nL ret R nm) {j q : Nat} (hd : decode cc pc = .ok (.aload j, 2)) (hl : ls[j]? = some (some (.inr (some q)))) (k : RR X Y Q cells slots (pc + 2) ls (.inr (some q) :: st) T L P I hn) : RR X Y Q cells slots pc ls st T L P I hn :=
  fun H locs la hH hS hL hV => lv_aload K.1 K.2.1 hd (hL.get hl) (k H locs la hH hS hL (vcons trivial hV))
theorem r_istore_n (K : OK X Y cc own nL ret R nm) {j : Fin 4} {z : Int} (hd : decode cc pc = .ok (.istore_n j, 1)) (hj : (j : Nat) < nL) (k : RR X Y Q cells slots (pc + 1) (ls.set (j : Nat) (some (.inl z))) st T L P I hn) : RR X Y Q cells slots pc ls (.inl z :: st) T L P I hn :=
  fun H locs la hH hS hL hV => lv_istore_n K.1 K.2.1 hd rfl hL.1 (by rw [K.2.2.1]; exact hj) rfl (fun la' h' => k H locs la' hH hS (hL.set (v := .inl z) (vh hV) h') (vtail hV))
theorem r_istore (K : OK X Y cc own nL ret R nm) {j : Nat} {z : Int} (hd : decode cc pc = .ok (.istore j, 2)) (hj : j < nL) (k : RR X Y Q cells slots (pc + 2) (ls.set j (some (.inl z))) st T L P I hn) : RR X Y Q cells slots pc ls (.inl z :: st) T L P I hn :=
  fun H locs la hH hS hL hV => lv_istore K.1 K.2.1 hd hL.1 (by rw [K.2.2.1]; exact hj) rfl (fun la' h' => k H locs la' hH hS (hL.set (v := .inl z) (vh hV) h') (vtail hV))
theorem r_astore_n (K : OK X Y cc own nL ret R nm) {j : Fin 4} {q : Nat} (hd : decode cc pc = .ok (.astore_n j, 1)) (hj : (j : Nat) < nL) (k : RR X Y Q cells slots (pc + 1) (ls.set (j : Nat) (some (.inr (some q)))) st T L P I hn) : RR X Y Q cells slots pc ls (.inr (some q) :: st) T L P I hn :=
  fun H locs la hH hS hL hV => lv_astore_n K.1 K.2.1 hd rfl hL.1 (by rw [K.2.2.1]; exact hj) rfl (fun la' h' => k H locs la' hH hS (hL.set (v := .inr (some q)) trivial h') (vtail hV))
theorem r_iinc (K : OK X Y cc own nL ret R nm) {j : Nat} {n z : Int} (hd : decode cc pc = .ok (.iinc j n, 3)) (hj : j < nL) (hl : ls[j]? = some (some (.inl z))) (k : RR X Y Q cells slots (pc + 3) (ls.set j (some (.inl (z + n)))) st T L P I hn) (hr : -2147483648 ≤ z + n ∧ z + n < 2147483648 := by omega) : RR X Y Q cells slots pc ls st T L P I hn :=
  fun H locs la hH hS hL hV => by
    obtain ⟨i, hi⟩ := List.getElem?_of_mem (pl_mem.mpr ⟨_, hl, rfl⟩ : (j, eV Y (.inl z)) ∈ pl Y ls)
    exact lv_iinc (k := i) K.1 K.2.1 hd hL.1 hi (oi_add z n) (by rw [K.2.2.1]; exact hj) rfl (fun la' h' => k H locs la' hH hS (hL.set (v := .inl (z + n)) hr h') hV)
theorem r_iadd (K : OK X Y cc own nL ret R nm) {x y : Int} (hd : decode cc pc = .ok (.iadd, 1)) (k : RR X Y Q cells slots (pc + 1) ls (.inl (x + y) :: st) T L P I hn) (hr : -2147483648 ≤ x + y ∧ x + y < 2147483648 := by omega) : RR X Y Q cells slots pc ls (.inl y :: .inl x :: st) T L P I hn :=
  fun H locs la hH hS hL hV => lv_iadd K.1 K.2.1 hd (by rw [oi_add]; exact k H locs la hH hS hL (vcons hr (vtail (vtail hV))))
theorem r_isub (K : OK X Y cc own nL ret R nm) {x y : Int} (hd : decode cc pc = .ok (.isub, 1)) (k : RR X Y Q cells slots (pc + 1) ls (.inl (x - y) :: st) T L P I hn) (hr : -2147483648 ≤ x - y ∧ x - y < 2147483648 := by omega) : RR X Y Q cells slots pc ls (.inl y :: .inl x :: st) T L P I hn :=
  fun H locs la hH hS hL hV => lv_isub K.1 K.2.1 hd (by rw [oi_sub]; exact k H locs la hH hS hL (vcons hr (vtail (vtail hV))))
theorem r_imul (K : OK X Y cc own nL ret R nm) {x y : Int} (hd : decode cc pc = .ok (.imul, 1)) (k : RR X Y Q cells slots (pc + 1) ls (.inl (x * y) :: st) T L P I hn) (hr : -2147483648 ≤ x * y ∧ x * y < 2147483648 := by omega) : RR X Y Q cells slots pc ls (.inl y :: .inl x :: st) T L P I hn :=
  fun H locs la hH hS hL hV => lv_imul K.1 K.2.1 hd (by rw [oi_mul]; exact k H locs la hH hS hL (vcons hr (vtail (vtail hV))))
theorem r_ineg (K : OK X Y cc own nL ret R nm) {x : Int} (hd : decode cc pc = .ok (.ineg, 1)) (k : RR X Y Q cells slots (pc + 1) ls (.inl (-x) :: st) T L P I hn) (hr : -2147483648 ≤ -x ∧ -x < 2147483648 := by omega) : RR X Y Q cells slots pc ls (.inl x :: st) T L P I hn :=
  fun H locs la hH hS hL hV => lv_ineg K.1 K.2.1 hd (by rw [oi_neg]; exact k H locs la hH hS hL (vcons hr (vtail hV)))
theorem oi_div {x y : Int} (hx : rg x) (hy : rg y) (h0 : 0 ≤ x) (h1 : 0 < y) : Int32.ofInt x / Int32.ofInt y = Int32.ofInt (x / y) := by
  have h2 : x / y ≤ x := Int.ediv_le_self _ h0
  have h3 : 0 ≤ x / y := Int.ediv_nonneg h0 (by omega)
  have hr : rg (x / y) := ⟨by omega, by have := hx.2; omega⟩
  apply Int32.toInt_inj.mp
  rw [Int32.toInt_div_of_ne_right _ _ (by
    intro h
    have := congrArg Int32.toInt h
    rw [oi_toInt hy] at this
    have e : (-1 : Int32).toInt = -1 := by decide
    omega), oi_toInt hx, oi_toInt hy, oi_toInt hr]
  exact Int.tdiv_eq_ediv_of_nonneg h0
theorem r_idiv (K : OK X Y cc own nL ret R nm) {x y : Int} (hd : decode cc pc = .ok (.idiv, 1)) (h0 : 0 ≤ x) (h1 : 0 < y) (k : RR X Y Q cells slots (pc + 1) ls (.inl (x / y) :: st) T L P I hn) : RR X Y Q cells slots pc ls (.inl y :: .inl x :: st) T L P I hn :=
  fun H locs la hH hS hL hV => by
    have hy := vh hV
    have hx := vh (vtail hV)
    have h2 : x / y ≤ x := Int.ediv_le_self _ h0
    have h3 : 0 ≤ x / y := Int.ediv_nonneg h0 (by omega)
    refine lv_idiv K.1 K.2.1 hd ?_ ?_
    · rw [← oi_0, oi_eq hy rg0]; omega
    · rw [oi_div hx hy h0 h1]
      exact k H locs la hH hS hL (vcons (show rg _ from ⟨by omega, by have := hx.2; omega⟩) (vtail (vtail hV)))
theorem r_irem (K : OK X Y cc own nL ret R nm) {x y : Int} (hd : decode cc pc = .ok (.irem, 1)) (h0 : 0 ≤ x) (h1 : 0 < y) (k : RR X Y Q cells slots (pc + 1) ls (.inl (x % y) :: st) T L P I hn) : RR X Y Q cells slots pc ls (.inl y :: .inl x :: st) T L P I hn :=
  fun H locs la hH hS hL hV => by
    have hy := vh hV
    have hx := vh (vtail hV)
    have h2 : x % y < y := Int.emod_lt_of_pos _ h1
    have h3 : 0 ≤ x % y := Int.emod_nonneg _ (by omega)
    refine lv_irem K.1 K.2.1 hd ?_ ?_
    · rw [← oi_0, oi_eq hy rg0]; omega
    · rw [oi_div hx hy h0 h1, oi_mul, oi_sub, show x - x / y * y = x % y by have := Int.emod_add_mul_ediv x y; rw [Int.mul_comm]; omega]
      exact k H locs la hH hS hL (vcons (show rg _ from ⟨by omega, by have := hy.2; omega⟩) (vtail (vtail hV)))
/-- the machine's own and, or, xor, shifts, as numbers -/
def zAnd (x y : Int) : Int := (Int32.ofInt x &&& Int32.ofInt y).toInt
def zOr (x y : Int) : Int := (Int32.ofInt x ||| Int32.ofInt y).toInt
def zXor (x y : Int) : Int := (Int32.ofInt x ^^^ Int32.ofInt y).toInt
def zShl (x y : Int) : Int := (Int32.ofInt x <<< (Int32.ofInt y &&& 31)).toInt
def zShr (x y : Int) : Int := (Int32.ofInt x >>> (Int32.ofInt y &&& 31)).toInt
def zUshr (x y : Int) : Int := ((Int32.ofInt x).toUInt32 >>> ((Int32.ofInt y).toUInt32 &&& Int32.toUInt32 31)).toInt32.toInt
def zByte (x : Int) : Int := (Int32.ofInt x).toInt8.toInt32.toInt
theorem r_iand (K : OK X Y cc own nL ret R nm) {x y : Int} (hd : decode cc pc = .ok (.iand, 1)) (k : RR X Y Q cells slots (pc + 1) ls (.inl (zAnd x y) :: st) T L P I hn) : RR X Y Q cells slots pc ls (.inl y :: .inl x :: st) T L P I hn :=
  fun H locs la hH hS hL hV => lv_iand K.1 K.2.1 hd (by rw [← oi_of (_ &&& _)]; exact k H locs la hH hS hL (vcons (rg_of _) (vtail (vtail hV))))
theorem r_ior (K : OK X Y cc own nL ret R nm) {x y : Int} (hd : decode cc pc = .ok (.ior, 1)) (k : RR X Y Q cells slots (pc + 1) ls (.inl (zOr x y) :: st) T L P I hn) : RR X Y Q cells slots pc ls (.inl y :: .inl x :: st) T L P I hn :=
  fun H locs la hH hS hL hV => lv_ior K.1 K.2.1 hd (by rw [← oi_of (_ ||| _)]; exact k H locs la hH hS hL (vcons (rg_of _) (vtail (vtail hV))))
theorem r_ixor (K : OK X Y cc own nL ret R nm) {x y : Int} (hd : decode cc pc = .ok (.ixor, 1)) (k : RR X Y Q cells slots (pc + 1) ls (.inl (zXor x y) :: st) T L P I hn) : RR X Y Q cells slots pc ls (.inl y :: .inl x :: st) T L P I hn :=
  fun H locs la hH hS hL hV => lv_ixor K.1 K.2.1 hd (by rw [← oi_of (_ ^^^ _)]; exact k H locs la hH hS hL (vcons (rg_of _) (vtail (vtail hV))))
theorem r_ishl (K : OK X Y cc own nL ret R nm) {x y : Int} (hd : decode cc pc = .ok (.ishl, 1)) (k : RR X Y Q cells slots (pc + 1) ls (.inl (zShl x y) :: st) T L P I hn) : RR X Y Q cells slots pc ls (.inl y :: .inl x :: st) T L P I hn :=
  fun H locs la hH hS hL hV => lv_ishl K.1 K.2.1 hd (by rw [← oi_of (_ <<< _)]; exact k H locs la hH hS hL (vcons (rg_of _) (vtail (vtail hV))))
theorem r_ishr (K : OK X Y cc own nL ret R nm) {x y : Int} (hd : decode cc pc = .ok (.ishr, 1)) (k : RR X Y Q cells slots (pc + 1) ls (.inl (zShr x y) :: st) T L P I hn) : RR X Y Q cells slots pc ls (.inl y :: .inl x :: st) T L P I hn :=
  fun H locs la hH hS hL hV => lv_ishr K.1 K.2.1 hd (by rw [← oi_of (_ >>> _)]; exact k H locs la hH hS hL (vcons (rg_of _) (vtail (vtail hV))))
theorem r_iushr (K : OK X Y cc own nL ret R nm) {x y : Int} (hd : decode cc pc = .ok (.iushr, 1)) (k : RR X Y Q cells slots (pc + 1) ls (.inl (zUshr x y) :: st) T L P I hn) : RR X Y Q cells slots pc ls (.inl y :: .inl x :: st) T L P I hn :=
  fun H locs la hH hS hL hV => lv_iushr K.1 K.2.1 hd (oi_of _).symm (k H locs la hH hS hL (vcons (rg_of _) (vtail (vtail hV))))
theorem r_i2b (K : OK X Y cc own nL ret R nm) {x : Int} (hd : decode cc pc = .ok (.i2b, 1)) (k : RR X Y Q cells slots (pc + 1) ls (.inl (zByte x) :: st) T L P I hn) : RR X Y Q cells slots pc ls (.inl x :: st) T L P I hn :=
  fun H locs la hH hS hL hV => lv_i2b K.1 K.2.1 hd (oi_of _).symm (k H locs la hH hS hL (vcons (rg_of _) (vtail hV)))
theorem r_dup (K : OK X Y cc own nL ret R nm) {v : PV} (hd : decode cc pc = .ok (.dup, 1)) (k : RR X Y Q cells slots (pc + 1) ls (v :: v :: st) T L P I hn) : RR X Y Q cells slots pc ls (v :: st) T L P I hn :=
  fun H locs la hH hS hL hV => lv_dup K.1 K.2.1 hd (eV_cat Y v) (k H locs la hH hS hL (vcons (vhead hV) hV))
theorem r_pop (K : OK X Y cc own nL ret R nm) {v : PV} (hd : decode cc pc = .ok (.pop, 1)) (k : RR X Y Q cells slots (pc + 1) ls st T L P I hn) : RR X Y Q cells slots pc ls (v :: st) T L P I hn :=
  fun H locs la hH hS hL hV => lv_pop K.1 K.2.1 hd (eV_cat Y v) (k H locs la hH hS hL (vtail hV))
theorem r_goto (K : OK X Y cc own nL ret R nm) {off : Int} (tgt : Nat) (hd : decode cc pc = .ok (.goto off, 3)) (ht : (pc : Int) + off = (tgt : Int)) (k : RR X Y Q cells slots tgt ls st T L P I hn) : RR X Y Q cells slots pc ls st T L P I hn :=
  fun H locs la hH hS hL hV => lv_goto K.1 K.2.1 hd ht (k H locs la hH hS hL hV)
theorem r_icmp_eq (K : OK X Y cc own nL ret R nm) {x y off : Int} (tgt : Nat) (hd : decode cc pc = .ok (.if_icmp .eq off, 3)) (ht : (pc : Int) + off = (tgt : Int)) (kt : x = y → RR X Y Q cells slots tgt ls st T L P I hn) (kf : x ≠ y → RR X Y Q cells slots (pc + 3) ls st T L P I hn) : RR X Y Q cells slots pc ls (.inl y :: .inl x :: st) T L P I hn :=
  fun H locs la hH hS hL hV => by
    have hy := vh hV
    have hx := vh (vtail hV)
    exact lv_icmp_eq K.1 K.2.1 hd ht (fun h => kt ((oi_eq hx hy).mp h) H locs la hH hS hL (vtail (vtail hV))) (fun h => kf (fun e => h ((oi_eq hx hy).mpr e)) H locs la hH hS hL (vtail (vtail hV)))
theorem r_if_eq (K : OK X Y cc own nL ret R nm) {x off : Int} (tgt : Nat) (hd : decode cc pc = .ok (.ifCond .eq off, 3)) (ht : (pc : Int) + off = (tgt : Int)) (kt : x = 0 → RR X Y Q cells slots tgt ls st T L P I hn) (kf : x ≠ 0 → RR X Y Q cells slots (pc + 3) ls st T L P I hn) : RR X Y Q cells slots pc ls (.inl x :: st) T L P I hn :=
  fun H locs la hH hS hL hV => by
    have hx := vh hV
    exact lv_if_eq K.1 K.2.1 hd ht (fun h => kt ((oi_eq hx rg0).mp h) H locs la hH hS hL (vtail hV)) (fun h => kf (fun e => h ((oi_eq hx rg0).mpr e)) H locs la hH hS hL (vtail hV))
theorem r_icmp_ne (K : OK X Y cc own nL ret R nm) {x y off : Int} (tgt : Nat) (hd : decode cc pc = .ok (.if_icmp .ne off, 3)) (ht : (pc : Int) + off = (tgt : Int)) (kt : x ≠ y → RR X Y Q cells slots tgt ls st T L P I hn) (kf : x = y → RR X Y Q cells slots (pc + 3) ls st T L P I hn) : RR X Y Q cells slots pc ls (.inl y :: .inl x :: st) T L P I hn :=
  fun H locs la hH hS hL hV => by
    have hy := vh hV
    have hx := vh (vtail hV)
    exact lv_icmp_ne K.1 K.2.1 hd ht (fun h => kt (fun e => h ((oi_eq hx hy).mpr e)) H locs la hH hS hL (vtail (vtail hV))) (fun h => kf ((oi_eq hx hy).mp h) H locs la hH hS hL (vtail (vtail hV)))
theorem r_if_ne (K : OK X Y cc own nL ret R nm) {x off : Int} (tgt : Nat) (hd : decode cc pc = .ok (.ifCond .ne off, 3)) (ht : (pc : Int) + off = (tgt : Int)) (kt : x ≠ 0 → RR X Y Q cells slots tgt ls st T L P I hn) (kf : x = 0 → RR X Y Q cells slots (pc + 3) ls st T L P I hn) : RR X Y Q cells slots pc ls (.inl x :: st) T L P I hn :=
  fun H locs la hH hS hL hV => by
    have hx := vh hV
    exact lv_if_ne K.1 K.2.1 hd ht (fun h => kt (fun e => h ((oi_eq hx rg0).mpr e)) H locs la hH hS hL (vtail hV)) (fun h => kf ((oi_eq hx rg0).mp h) H locs la hH hS hL (vtail hV))
theorem r_icmp_lt (K : OK X Y cc own nL ret R nm) {x y off : Int} (tgt : Nat) (hd : decode cc pc = .ok (.if_icmp .lt off, 3)) (ht : (pc : Int) + off = (tgt : Int)) (kt : x < y → RR X Y Q cells slots tgt ls st T L P I hn) (kf : y ≤ x → RR X Y Q cells slots (pc + 3) ls st T L P I hn) : RR X Y Q cells slots pc ls (.inl y :: .inl x :: st) T L P I hn :=
  fun H locs la hH hS hL hV => by
    have hy := vh hV
    have hx := vh (vtail hV)
    exact lv_icmp_lt K.1 K.2.1 hd ht (fun h => kt ((oi_lt hx hy).mp h) H locs la hH hS hL (vtail (vtail hV))) (fun h => kf (Int.not_lt.mp (fun e => h ((oi_lt hx hy).mpr e))) H locs la hH hS hL (vtail (vtail hV)))
theorem r_if_lt (K : OK X Y cc own nL ret R nm) {x off : Int} (tgt : Nat) (hd : decode cc pc = .ok (.ifCond .lt off, 3)) (ht : (pc : Int) + off = (tgt : Int)) (kt : x < 0 → RR X Y Q cells slots tgt ls st T L P I hn) (kf : 0 ≤ x → RR X Y Q cells slots (pc + 3) ls st T L P I hn) : RR X Y Q cells slots pc ls (.inl x :: st) T L P I hn :=
  fun H locs la hH hS hL hV => by
    have hx := vh hV
    exact lv_if_lt K.1 K.2.1 hd ht (fun h => kt ((oi_lt hx rg0).mp h) H locs la hH hS hL (vtail hV)) (fun h => kf (Int.not_lt.mp (fun e => h ((oi_lt hx rg0).mpr e))) H locs la hH hS hL (vtail hV))
theorem r_icmp_ge (K : OK X Y cc own nL ret R nm) {x y off : Int} (tgt : Nat) (hd : decode cc pc = .ok (.if_icmp .ge off, 3)) (ht : (pc : Int) + off = (tgt : Int)) (kt : y ≤ x → RR X Y Q cells slots tgt ls st T L P I hn) (kf : x < y → RR X Y Q cells slots (pc + 3) ls st T L P I hn) : RR X Y Q cells slots pc ls (.inl y :: .inl x :: st) T L P I hn :=
  fun H locs la hH hS hL hV => by
    have hy := vh hV
    have hx := vh (vtail hV)
    exact lv_icmp_ge K.1 K.2.1 hd ht (fun h => kt ((oi_le hy hx).mp h) H locs la hH hS hL (vtail (vtail hV))) (fun h => kf (Int.not_le.mp (fun e => h ((oi_le hy hx).mpr e))) H locs la hH hS hL (vtail (vtail hV)))
theorem r_if_ge (K : OK X Y cc own nL ret R nm) {x off : Int} (tgt : Nat) (hd : decode cc pc = .ok (.ifCond .ge off, 3)) (ht : (pc : Int) + off = (tgt : Int)) (kt : 0 ≤ x → RR X Y Q cells slots tgt ls st T L P I hn) (kf : x < 0 → RR X Y Q cells slots (pc + 3) ls st T L P I hn) : RR X Y Q cells slots pc ls (.inl x :: st) T L P I hn :=
  fun H locs la hH hS hL hV => by
    have hx := vh hV
    exact lv_if_ge K.1 K.2.1 hd ht (fun h => kt ((oi_le rg0 hx).mp h) H locs la hH hS hL (vtail hV)) (fun h => kf (Int.not_le.mp (fun e => h ((oi_le rg0 hx).mpr e))) H locs la hH hS hL (vtail hV))
theorem r_icmp_gt (K : OK X Y cc own nL ret R nm) {x y off : Int} (tgt : Nat) (hd : decode cc pc = .ok (.if_icmp .gt off, 3)) (ht : (pc : Int) + off = (tgt : Int)) (kt : y < x → RR X Y Q cells slots tgt ls st T L P I hn) (kf : x ≤ y → RR X Y Q cells slots (pc + 3) ls st T L P I hn) : RR X Y Q cells slots pc ls (.inl y :: .inl x :: st) T L P I hn :=
  fun H locs la hH hS hL hV => by
    have hy := vh hV
    have hx := vh (vtail hV)
    exact lv_icmp_gt K.1 K.2.1 hd ht (fun h => kt ((oi_lt hy hx).mp h) H locs la hH hS hL (vtail (vtail hV))) (fun h => kf (Int.not_lt.mp (fun e => h ((oi_lt hy hx).mpr e))) H locs la hH hS hL (vtail (vtail hV)))
theorem r_if_gt (K : OK X Y cc own nL ret R nm) {x off : Int} (tgt : Nat) (hd : decode cc pc = .ok (.ifCond .gt off, 3)) (ht : (pc : Int) + off = (tgt : Int)) (kt : 0 < x → RR X Y Q cells slots tgt ls st T L P I hn) (kf : x ≤ 0 → RR X Y Q cells slots (pc + 3) ls st T L P I hn) : RR X Y Q cells slots pc ls (.inl x :: st) T L P I hn :=
  fun H locs la hH hS hL hV => by
    have hx := vh hV
    exact lv_if_gt K.1 K.2.1 hd ht (fun h => kt ((oi_lt rg0 hx).mp h) H locs la hH hS hL (vtail hV)) (fun h => kf (Int.not_lt.mp (fun e => h ((oi_lt rg0 hx).mpr e))) H locs la hH hS hL (vtail hV))
theorem r_icmp_le (K : OK X Y cc own nL ret R nm) {x y off : Int} (tgt : Nat) (hd : decode cc pc = .ok (.if_icmp .le off, 3)) (ht : (pc : Int) + off = (tgt : Int)) (kt : x ≤ y → RR X Y Q cells slots tgt ls st T L P I hn) (kf : y < x → RR X Y Q cells slots (pc + 3) ls st T L P I hn) : RR X Y Q cells slots pc ls (.inl y :: .inl x :: st) T L P I hn :=
  fun H locs la hH hS hL hV => by
    have hy := vh hV
    have hx := vh (vtail hV)
    exact lv_icmp_le K.1 K.2.1 hd ht (fun h => kt ((oi_le hx hy).mp h) H locs la hH hS hL (vtail (vtail hV))) (fun h => kf (Int.not_le.mp (fun e => h ((oi_le hx hy).mpr e))) H locs la hH hS hL (vtail (vtail hV)))
theorem r_if_le (K : OK X Y cc own nL ret R nm) {x off : Int} (tgt : Nat) (hd : decode cc pc = .ok (.ifCond .le off, 3)) (ht : (pc : Int) + off = (tgt : Int)) (kt : x ≤ 0 → RR X Y Q cells slots tgt ls st T L P I hn) (kf : 0 < x → RR X Y Q cells slots (pc + 3) ls st T L P I hn) : RR X Y Q cells slots pc ls (.inl x :: st) T L P I hn :=
  fun H locs la hH hS hL hV => by
    have hx := vh hV
    exact lv_if_le K.1 K.2.1 hd ht (fun h => kt ((oi_le hx rg0).mp h) H locs la hH hS hL (vtail hV)) (fun h => kf (Int.not_le.mp (fun e => h ((oi_le hx rg0).mpr e))) H locs la hH hS hL (vtail hV))
end ROWS
