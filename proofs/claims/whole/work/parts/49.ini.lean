section INI
variable {T L : Nat → Nat} {P : Nat → Nat → Option Nat} {I : Nat → Nat → Int} {hn : Nat}
def tIni (a : Nat) (M : Mm) : Mm := na a 2 12 120 (na a 1 10 120 (na a 0 10 120 M))
def nIni (a : Nat) (M : Mm) : Mm := na a 6 10 120 (na a 5 10 120 (na a 4 10 120 (na a 3 10 120 (na a 2 10 121 (na a 1 10 120 (na a 0 10 120 M))))))
def fIni (a : Nat) (M : Mm) : Mm := na a 2 10 5 (na a 1 10 10 (na a 0 10 5 M))
set_option maxHeartbeats 4000000 in
set_option maxRecDepth 100000 in
theorem k_X6_init {a : Nat} (h1 : T a = 6) (h2 : a < 3 + hn) : gX6_init 3 360 [.inr (some a)] T L P I hn (isM (tIni a (T, L, P, I, hn))) := by
  refine CT.by (by decide) (Nat.le_of_ble_eq_true rfl) fun X Y Q hQ K hv => ?_
  refine r_aload_n K dX6_init_0 rfl ?_
  refine r_obj K dX6_init_1 o_X6_3 (Nat.le_of_ble_eq_true rfl) (Nat.le_of_ble_eq_true rfl) ?_
  refine r_aload_n K dX6_init_4 rfl ?_
  refine r_bipush K dX6_init_5 ?_
  refine r_newa K dX6_init_7 (Or.inl ⟨rfl, rfl⟩) aw_int (by omega) (by omega) (Nat.le_of_ble_eq_true rfl) (Nat.le_of_ble_eq_true rfl) ?_
  refine r_putR K dX6_init_9 f_X6_9 rfl p_X6_9 ⟨rfl, rfl⟩ (by simp only [va_up]; (repeat rw [if_neg (by omega)]); assumption) ?_
  refine r_aload_n K dX6_init_12 rfl ?_
  refine r_bipush K dX6_init_13 ?_
  refine r_newa K dX6_init_15 (Or.inl ⟨rfl, rfl⟩) aw_int (by omega) (by omega) (Nat.le_of_ble_eq_true rfl) (Nat.le_of_ble_eq_true rfl) ?_
  refine r_putR K dX6_init_17 f_X6_15 rfl p_X6_15 ⟨rfl, rfl⟩ (by simp only [va_up]; (repeat rw [if_neg (by omega)]); assumption) ?_
  refine r_aload_n K dX6_init_20 rfl ?_
  refine r_bipush K dX6_init_21 ?_
  refine r_newa K dX6_init_23 (Or.inr (Or.inr ⟨rfl, rfl⟩)) aw_boolean (by omega) (by omega) (Nat.le_of_ble_eq_true rfl) (Nat.le_of_ble_eq_true rfl) ?_
  refine r_putR K dX6_init_25 f_X6_18 rfl p_X6_18 ⟨rfl, rfl⟩ (by simp only [va_up]; (repeat rw [if_neg (by omega)]); assumption) ?_
  exact q_vret K hQ rfl dX6_init_28 (Nat.le_refl _) (Nat.le_refl _) (⟨rfl, rfl⟩)
set_option maxHeartbeats 4000000 in
set_option maxRecDepth 100000 in
theorem k_X4_init {a : Nat} (h1 : T a = 4) (h2 : a < 3 + hn) : gX4_init 7 841 [.inr (some a)] T L P I hn (isM (nIni a (T, L, P, I, hn))) := by
  refine CT.by (by decide) (Nat.le_of_ble_eq_true rfl) fun X Y Q hQ K hv => ?_
  refine r_aload_n K dX4_init_0 rfl ?_
  refine r_obj K dX4_init_1 o_X4_3 (Nat.le_of_ble_eq_true rfl) (Nat.le_of_ble_eq_true rfl) ?_
  refine r_aload_n K dX4_init_4 rfl ?_
  refine r_bipush K dX4_init_5 ?_
  refine r_newa K dX4_init_7 (Or.inl ⟨rfl, rfl⟩) aw_int (by omega) (by omega) (Nat.le_of_ble_eq_true rfl) (Nat.le_of_ble_eq_true rfl) ?_
  refine r_putR K dX4_init_9 f_X4_9 rfl p_X4_9 ⟨rfl, rfl⟩ (by simp only [va_up]; (repeat rw [if_neg (by omega)]); assumption) ?_
  refine r_aload_n K dX4_init_12 rfl ?_
  refine r_bipush K dX4_init_13 ?_
  refine r_newa K dX4_init_15 (Or.inl ⟨rfl, rfl⟩) aw_int (by omega) (by omega) (Nat.le_of_ble_eq_true rfl) (Nat.le_of_ble_eq_true rfl) ?_
  refine r_putR K dX4_init_17 f_X4_15 rfl p_X4_15 ⟨rfl, rfl⟩ (by simp only [va_up]; (repeat rw [if_neg (by omega)]); assumption) ?_
  refine r_aload_n K dX4_init_20 rfl ?_
  refine r_bipush K dX4_init_21 ?_
  refine r_newa K dX4_init_23 (Or.inl ⟨rfl, rfl⟩) aw_int (by omega) (by omega) (Nat.le_of_ble_eq_true rfl) (Nat.le_of_ble_eq_true rfl) ?_
  refine r_putR K dX4_init_25 f_X4_18 rfl p_X4_18 ⟨rfl, rfl⟩ (by simp only [va_up]; (repeat rw [if_neg (by omega)]); assumption) ?_
  refine r_aload_n K dX4_init_28 rfl ?_
  refine r_bipush K dX4_init_29 ?_
  refine r_newa K dX4_init_31 (Or.inl ⟨rfl, rfl⟩) aw_int (by omega) (by omega) (Nat.le_of_ble_eq_true rfl) (Nat.le_of_ble_eq_true rfl) ?_
  refine r_putR K dX4_init_33 f_X4_21 rfl p_X4_21 ⟨rfl, rfl⟩ (by simp only [va_up]; (repeat rw [if_neg (by omega)]); assumption) ?_
  refine r_aload_n K dX4_init_36 rfl ?_
  refine r_bipush K dX4_init_37 ?_
  refine r_newa K dX4_init_39 (Or.inl ⟨rfl, rfl⟩) aw_int (by omega) (by omega) (Nat.le_of_ble_eq_true rfl) (Nat.le_of_ble_eq_true rfl) ?_
  refine r_putR K dX4_init_41 f_X4_24 rfl p_X4_24 ⟨rfl, rfl⟩ (by simp only [va_up]; (repeat rw [if_neg (by omega)]); assumption) ?_
  refine r_aload_n K dX4_init_44 rfl ?_
  refine r_bipush K dX4_init_45 ?_
  refine r_newa K dX4_init_47 (Or.inl ⟨rfl, rfl⟩) aw_int (by omega) (by omega) (Nat.le_of_ble_eq_true rfl) (Nat.le_of_ble_eq_true rfl) ?_
  refine r_putR K dX4_init_49 f_X4_27 rfl p_X4_27 ⟨rfl, rfl⟩ (by simp only [va_up]; (repeat rw [if_neg (by omega)]); assumption) ?_
  refine r_aload_n K dX4_init_52 rfl ?_
  refine r_bipush K dX4_init_53 ?_
  refine r_newa K dX4_init_55 (Or.inl ⟨rfl, rfl⟩) aw_int (by omega) (by omega) (Nat.le_of_ble_eq_true rfl) (Nat.le_of_ble_eq_true rfl) ?_
  refine r_putR K dX4_init_57 f_X4_30 rfl p_X4_30 ⟨rfl, rfl⟩ (by simp only [va_up]; (repeat rw [if_neg (by omega)]); assumption) ?_
  exact q_vret K hQ rfl dX4_init_60 (Nat.le_refl _) (Nat.le_refl _) (⟨rfl, rfl⟩)
set_option maxHeartbeats 4000000 in
set_option maxRecDepth 100000 in
theorem k_X2_init {a : Nat} (h1 : T a = 2) (h2 : a < 3 + hn) : gX2_init 3 20 [.inr (some a)] T L P I hn (isM (fIni a (T, L, P, I, hn))) := by
  refine CT.by (by decide) (Nat.le_of_ble_eq_true rfl) fun X Y Q hQ K hv => ?_
  refine r_aload_n K dX2_init_0 rfl ?_
  refine r_obj K dX2_init_1 o_X2_3 (Nat.le_of_ble_eq_true rfl) (Nat.le_of_ble_eq_true rfl) ?_
  refine r_aload_n K dX2_init_4 rfl ?_
  refine r_iconst K dX2_init_5 ?_
  refine r_newa K dX2_init_6 (Or.inl ⟨rfl, rfl⟩) aw_int (by omega) (by omega) (Nat.le_of_ble_eq_true rfl) (Nat.le_of_ble_eq_true rfl) ?_
  refine r_putR K dX2_init_8 f_X2_9 rfl p_X2_9 ⟨rfl, rfl⟩ (by simp only [va_up]; (repeat rw [if_neg (by omega)]); assumption) ?_
  refine r_aload_n K dX2_init_11 rfl ?_
  refine r_bipush K dX2_init_12 ?_
  refine r_newa K dX2_init_14 (Or.inl ⟨rfl, rfl⟩) aw_int (by omega) (by omega) (Nat.le_of_ble_eq_true rfl) (Nat.le_of_ble_eq_true rfl) ?_
  refine r_putR K dX2_init_16 f_X2_15 rfl p_X2_15 ⟨rfl, rfl⟩ (by simp only [va_up]; (repeat rw [if_neg (by omega)]); assumption) ?_
  refine r_aload_n K dX2_init_19 rfl ?_
  refine r_iconst K dX2_init_20 ?_
  refine r_newa K dX2_init_21 (Or.inl ⟨rfl, rfl⟩) aw_int (by omega) (by omega) (Nat.le_of_ble_eq_true rfl) (Nat.le_of_ble_eq_true rfl) ?_
  refine r_putR K dX2_init_23 f_X2_18 rfl p_X2_18 ⟨rfl, rfl⟩ (by simp only [va_up]; (repeat rw [if_neg (by omega)]); assumption) ?_
  exact q_vret K hQ rfl dX2_init_26 (Nat.le_refl _) (Nat.le_refl _) (⟨rfl, rfl⟩)
def mIni (a : Nat) (M : Mm) : Mm := na a 40 10 5 (na a 39 10 10 (na a 38 12 10 (na a 37 10 5 (na a 36 10 120 (na a 35 10 120 (na a 34 10 120 (na a 33 10 120 (na a 32 10 120 (na a 23 11 120 (na a 22 11 120 (na a 21 12 120 (na a 19 10 120 (na a 18 10 120 (na a 17 10 120 (na a 16 10 120 (na a 15 10 120 (na a 14 10 120 (na a 13 10 120 (na a 12 10 120 (na a 9 10 120 (na a 8 10 120 (na a 7 10 120 (na a 6 10 120 (na a 5 10 121 (na a 4 10 14641 (na a 3 10 5 (na a 2 11 600 (na a 0 11 200 (M)))))))))))))))))))))))))))))
theorem na_T {M M' : Mm} {a fi t n ci : Nat} (e : M' = na a fi t n M) (h : M.1 a = ci) (ha : a < 3 + mH M) : M'.1 a = ci ∧ a < 3 + mH M' := by
  subst e
  refine ⟨?_, ?_⟩
  · show va_up M.1 (3 + mH M) t a = ci
    rw [va_up, if_neg (by omega)]; exact h
  · show a < 3 + (mH M + 1)
    omega
section RNA
variable {X : Cx} {Y : SY} {Q : State → Prop} {cells slots pc : Nat} {ls : List (Option PV)} {st : List PV} {cc : ByteArray} {own : String} {nL : Nat} {ret : Option FieldType} {R : Room} {nm : String}
/-- an array is made and put into a field -/
theorem r_na (K : OK X Y cc own nL ret R nm) {M : Mm} {a fi t ci idx N : Nat} {at_ : ArrayType} {n : Int} (hd : decode cc pc = .ok (.newarray at_, 2)) (ht : (at_ = .int ∧ t = 10) ∨ (at_ = .byte ∧ t = 11) ∨ (at_ = .boolean ∧ t = 12)) (hw : Cond.arrayClass (newarray.typeOf at_) ∈ lw_tbl) (h0 : 0 ≤ n) (h1 : n ≤ 100000) (hN : n.toNat = N) (hc : cells + 1 ≤ R.cells) (hs : slots + N ≤ R.slots)
    (hd2 : decode cc (pc + 2) = .ok (.putfield idx, 3)) (hl : fL own idx ci fi) (hf : fR ci fi = true) (hfin : (Tn ci fi).2.2.2 = true ∧ nm = "<init>" ∧ (Tn ci fi).1 = own ∧ Cond.fieldLink own idx (Tn ci fi).1 (Tn ci fi).2.1 (Tn ci fi).2.2.1 ∈ lw_tbl) (hty : ∀ q : Nat, narrow (yn ci fi) (.ref (ad Y q)) = .ref (ad Y q) ∧ fits (yn ci fi) (.ref (ad Y q)) = true) (hT : M.1 a = ci) (ha : a < 3 + mH M)
    (kk : RR X Y Q (cells + 1) (slots + N) (pc + 2 + 3) ls st (na a fi t N M).1 (na a fi t N M).2.1 (na a fi t N M).2.2.1 (na a fi t N M).2.2.2.1 (na a fi t N M).2.2.2.2) : RR X Y Q cells slots pc ls (.inl n :: .inr (some a) :: st) M.1 M.2.1 M.2.2.1 M.2.2.2.1 M.2.2.2.2 := by
  subst hN
  exact r_newa K hd ht hw h0 h1 hc hs (r_putR K hd2 hl hf hfin (hty _) (by rw [va_up, if_neg (Nat.ne_of_lt ha)]; exact hT) kk)
end RNA
set_option maxHeartbeats 4000000 in
set_option maxRecDepth 100000 in
theorem k_X8_init {M : Mm} {a : Nat} (hT : M.1 a = 8) (ha : a < 3 + mH M) : gX8_init 29 17997 [.inr (some a)] M.1 M.2.1 M.2.2.1 M.2.2.2.1 M.2.2.2.2 (isM (mIni a M)) := by
  refine CT.by (by decide) (Nat.le_of_ble_eq_true rfl) fun X Y Q hQ K hv => ?_
  refine r_aload_n K dX8_init_0 rfl ?_
  refine r_obj K dX8_init_1 o_X8_1 (Nat.le_of_ble_eq_true rfl) (Nat.le_of_ble_eq_true rfl) ?_

  refine r_aload_n K dX8_init_4 rfl ?_
  refine r_sipush K dX8_init_5 ?_
  refine r_na (M := M) (N := 200) K dX8_init_8 (Or.inr (Or.inl ⟨rfl, rfl⟩)) aw_byte (by decide) (by decide) rfl (Nat.le_of_ble_eq_true rfl) (Nat.le_of_ble_eq_true rfl) dX8_init_10 f_X8_7 rfl p_X8_7 (fun _ => ⟨rfl, rfl⟩) hT ha ?_
  obtain ⟨M1, e1⟩ : ∃ m, m = na a 0 11 200 M := ⟨_, rfl⟩
  rw [← e1]
  obtain ⟨hT, ha⟩ := na_T e1 hT ha
  refine r_aload_n K dX8_init_13 rfl ?_
  refine r_sipush K dX8_init_14 ?_
  refine r_na (M := M1) (N := 600) K dX8_init_17 (Or.inr (Or.inl ⟨rfl, rfl⟩)) aw_byte (by decide) (by decide) rfl (Nat.le_of_ble_eq_true rfl) (Nat.le_of_ble_eq_true rfl) dX8_init_19 f_X8_13 rfl p_X8_13 (fun _ => ⟨rfl, rfl⟩) hT ha ?_
  obtain ⟨M2, e2⟩ : ∃ m, m = na a 2 11 600 M1 := ⟨_, rfl⟩
  rw [← e2]
  obtain ⟨hT, ha⟩ := na_T e2 hT ha
  refine r_aload_n K dX8_init_22 rfl ?_
  refine r_iconst K dX8_init_23 ?_
  refine r_na (M := M2) (N := 5) K dX8_init_24 (Or.inl ⟨rfl, rfl⟩) aw_int (by decide) (by decide) rfl (Nat.le_of_ble_eq_true rfl) (Nat.le_of_ble_eq_true rfl) dX8_init_26 f_X8_16 rfl p_X8_16 (fun _ => ⟨rfl, rfl⟩) hT ha ?_
  obtain ⟨M3, e3⟩ : ∃ m, m = na a 3 10 5 M2 := ⟨_, rfl⟩
  rw [← e3]
  obtain ⟨hT, ha⟩ := na_T e3 hT ha
  refine r_aload_n K dX8_init_29 rfl ?_
  refine r_sipush K dX8_init_30 ?_
  refine r_na (M := M3) (N := 14641) K dX8_init_33 (Or.inl ⟨rfl, rfl⟩) aw_int (by decide) (by decide) rfl (Nat.le_of_ble_eq_true rfl) (Nat.le_of_ble_eq_true rfl) dX8_init_35 f_X8_20 rfl p_X8_20 (fun _ => ⟨rfl, rfl⟩) hT ha ?_
  obtain ⟨M4, e4⟩ : ∃ m, m = na a 4 10 14641 M3 := ⟨_, rfl⟩
  rw [← e4]
  obtain ⟨hT, ha⟩ := na_T e4 hT ha
  refine r_aload_n K dX8_init_38 rfl ?_
  refine r_bipush K dX8_init_39 ?_
  refine r_na (M := M4) (N := 121) K dX8_init_41 (Or.inl ⟨rfl, rfl⟩) aw_int (by decide) (by decide) rfl (Nat.le_of_ble_eq_true rfl) (Nat.le_of_ble_eq_true rfl) dX8_init_43 f_X8_23 rfl p_X8_23 (fun _ => ⟨rfl, rfl⟩) hT ha ?_
  obtain ⟨M5, e5⟩ : ∃ m, m = na a 5 10 121 M4 := ⟨_, rfl⟩
  rw [← e5]
  obtain ⟨hT, ha⟩ := na_T e5 hT ha
  refine r_aload_n K dX8_init_46 rfl ?_
  refine r_bipush K dX8_init_47 ?_
  refine r_na (M := M5) (N := 120) K dX8_init_49 (Or.inl ⟨rfl, rfl⟩) aw_int (by decide) (by decide) rfl (Nat.le_of_ble_eq_true rfl) (Nat.le_of_ble_eq_true rfl) dX8_init_51 f_X8_26 rfl p_X8_26 (fun _ => ⟨rfl, rfl⟩) hT ha ?_
  obtain ⟨M6, e6⟩ : ∃ m, m = na a 6 10 120 M5 := ⟨_, rfl⟩
  rw [← e6]
  obtain ⟨hT, ha⟩ := na_T e6 hT ha
  refine r_aload_n K dX8_init_54 rfl ?_
  refine r_bipush K dX8_init_55 ?_
  refine r_na (M := M6) (N := 120) K dX8_init_57 (Or.inl ⟨rfl, rfl⟩) aw_int (by decide) (by decide) rfl (Nat.le_of_ble_eq_true rfl) (Nat.le_of_ble_eq_true rfl) dX8_init_59 f_X8_29 rfl p_X8_29 (fun _ => ⟨rfl, rfl⟩) hT ha ?_
  obtain ⟨M7, e7⟩ : ∃ m, m = na a 7 10 120 M6 := ⟨_, rfl⟩
  rw [← e7]
  obtain ⟨hT, ha⟩ := na_T e7 hT ha
  refine r_aload_n K dX8_init_62 rfl ?_
  refine r_bipush K dX8_init_63 ?_
  refine r_na (M := M7) (N := 120) K dX8_init_65 (Or.inl ⟨rfl, rfl⟩) aw_int (by decide) (by decide) rfl (Nat.le_of_ble_eq_true rfl) (Nat.le_of_ble_eq_true rfl) dX8_init_67 f_X8_32 rfl p_X8_32 (fun _ => ⟨rfl, rfl⟩) hT ha ?_
  obtain ⟨M8, e8⟩ : ∃ m, m = na a 8 10 120 M7 := ⟨_, rfl⟩
  rw [← e8]
  obtain ⟨hT, ha⟩ := na_T e8 hT ha
  refine r_aload_n K dX8_init_70 rfl ?_
  refine r_bipush K dX8_init_71 ?_
  refine r_na (M := M8) (N := 120) K dX8_init_73 (Or.inl ⟨rfl, rfl⟩) aw_int (by decide) (by decide) rfl (Nat.le_of_ble_eq_true rfl) (Nat.le_of_ble_eq_true rfl) dX8_init_75 f_X8_35 rfl p_X8_35 (fun _ => ⟨rfl, rfl⟩) hT ha ?_
  obtain ⟨M9, e9⟩ : ∃ m, m = na a 9 10 120 M8 := ⟨_, rfl⟩
  rw [← e9]
  obtain ⟨hT, ha⟩ := na_T e9 hT ha
  refine r_aload_n K dX8_init_78 rfl ?_
  refine r_bipush K dX8_init_79 ?_
  refine r_na (M := M9) (N := 120) K dX8_init_81 (Or.inl ⟨rfl, rfl⟩) aw_int (by decide) (by decide) rfl (Nat.le_of_ble_eq_true rfl) (Nat.le_of_ble_eq_true rfl) dX8_init_83 f_X8_38 rfl p_X8_38 (fun _ => ⟨rfl, rfl⟩) hT ha ?_
  obtain ⟨M10, e10⟩ : ∃ m, m = na a 12 10 120 M9 := ⟨_, rfl⟩
  rw [← e10]
  obtain ⟨hT, ha⟩ := na_T e10 hT ha
  refine r_aload_n K dX8_init_86 rfl ?_
  refine r_bipush K dX8_init_87 ?_
  refine r_na (M := M10) (N := 120) K dX8_init_89 (Or.inl ⟨rfl, rfl⟩) aw_int (by decide) (by decide) rfl (Nat.le_of_ble_eq_true rfl) (Nat.le_of_ble_eq_true rfl) dX8_init_91 f_X8_41 rfl p_X8_41 (fun _ => ⟨rfl, rfl⟩) hT ha ?_
  obtain ⟨M11, e11⟩ : ∃ m, m = na a 13 10 120 M10 := ⟨_, rfl⟩
  rw [← e11]
  obtain ⟨hT, ha⟩ := na_T e11 hT ha
  refine r_aload_n K dX8_init_94 rfl ?_
  refine r_bipush K dX8_init_95 ?_
  refine r_na (M := M11) (N := 120) K dX8_init_97 (Or.inl ⟨rfl, rfl⟩) aw_int (by decide) (by decide) rfl (Nat.le_of_ble_eq_true rfl) (Nat.le_of_ble_eq_true rfl) dX8_init_99 f_X8_44 rfl p_X8_44 (fun _ => ⟨rfl, rfl⟩) hT ha ?_
  obtain ⟨M12, e12⟩ : ∃ m, m = na a 14 10 120 M11 := ⟨_, rfl⟩
  rw [← e12]
  obtain ⟨hT, ha⟩ := na_T e12 hT ha
  refine r_aload_n K dX8_init_102 rfl ?_
  refine r_bipush K dX8_init_103 ?_
  refine r_na (M := M12) (N := 120) K dX8_init_105 (Or.inl ⟨rfl, rfl⟩) aw_int (by decide) (by decide) rfl (Nat.le_of_ble_eq_true rfl) (Nat.le_of_ble_eq_true rfl) dX8_init_107 f_X8_47 rfl p_X8_47 (fun _ => ⟨rfl, rfl⟩) hT ha ?_
  obtain ⟨M13, e13⟩ : ∃ m, m = na a 15 10 120 M12 := ⟨_, rfl⟩
  rw [← e13]
  obtain ⟨hT, ha⟩ := na_T e13 hT ha
  refine r_aload_n K dX8_init_110 rfl ?_
  refine r_bipush K dX8_init_111 ?_
  refine r_na (M := M13) (N := 120) K dX8_init_113 (Or.inl ⟨rfl, rfl⟩) aw_int (by decide) (by decide) rfl (Nat.le_of_ble_eq_true rfl) (Nat.le_of_ble_eq_true rfl) dX8_init_115 f_X8_50 rfl p_X8_50 (fun _ => ⟨rfl, rfl⟩) hT ha ?_
  obtain ⟨M14, e14⟩ : ∃ m, m = na a 16 10 120 M13 := ⟨_, rfl⟩
  rw [← e14]
  obtain ⟨hT, ha⟩ := na_T e14 hT ha
  refine r_aload_n K dX8_init_118 rfl ?_
  refine r_bipush K dX8_init_119 ?_
  refine r_na (M := M14) (N := 120) K dX8_init_121 (Or.inl ⟨rfl, rfl⟩) aw_int (by decide) (by decide) rfl (Nat.le_of_ble_eq_true rfl) (Nat.le_of_ble_eq_true rfl) dX8_init_123 f_X8_53 rfl p_X8_53 (fun _ => ⟨rfl, rfl⟩) hT ha ?_
  obtain ⟨M15, e15⟩ : ∃ m, m = na a 17 10 120 M14 := ⟨_, rfl⟩
  rw [← e15]
  obtain ⟨hT, ha⟩ := na_T e15 hT ha
  refine r_aload_n K dX8_init_126 rfl ?_
  refine r_bipush K dX8_init_127 ?_
  refine r_na (M := M15) (N := 120) K dX8_init_129 (Or.inl ⟨rfl, rfl⟩) aw_int (by decide) (by decide) rfl (Nat.le_of_ble_eq_true rfl) (Nat.le_of_ble_eq_true rfl) dX8_init_131 f_X8_56 rfl p_X8_56 (fun _ => ⟨rfl, rfl⟩) hT ha ?_
  obtain ⟨M16, e16⟩ : ∃ m, m = na a 18 10 120 M15 := ⟨_, rfl⟩
  rw [← e16]
  obtain ⟨hT, ha⟩ := na_T e16 hT ha
  refine r_aload_n K dX8_init_134 rfl ?_
  refine r_bipush K dX8_init_135 ?_
  refine r_na (M := M16) (N := 120) K dX8_init_137 (Or.inl ⟨rfl, rfl⟩) aw_int (by decide) (by decide) rfl (Nat.le_of_ble_eq_true rfl) (Nat.le_of_ble_eq_true rfl) dX8_init_139 f_X8_59 rfl p_X8_59 (fun _ => ⟨rfl, rfl⟩) hT ha ?_
  obtain ⟨M17, e17⟩ : ∃ m, m = na a 19 10 120 M16 := ⟨_, rfl⟩
  rw [← e17]
  obtain ⟨hT, ha⟩ := na_T e17 hT ha
  refine r_aload_n K dX8_init_142 rfl ?_
  refine r_bipush K dX8_init_143 ?_
  refine r_na (M := M17) (N := 120) K dX8_init_145 (Or.inr (Or.inr ⟨rfl, rfl⟩)) aw_boolean (by decide) (by decide) rfl (Nat.le_of_ble_eq_true rfl) (Nat.le_of_ble_eq_true rfl) dX8_init_147 f_X8_62 rfl p_X8_62 (fun _ => ⟨rfl, rfl⟩) hT ha ?_
  obtain ⟨M18, e18⟩ : ∃ m, m = na a 21 12 120 M17 := ⟨_, rfl⟩
  rw [← e18]
  obtain ⟨hT, ha⟩ := na_T e18 hT ha
  refine r_aload_n K dX8_init_150 rfl ?_
  refine r_bipush K dX8_init_151 ?_
  refine r_na (M := M18) (N := 120) K dX8_init_153 (Or.inr (Or.inl ⟨rfl, rfl⟩)) aw_byte (by decide) (by decide) rfl (Nat.le_of_ble_eq_true rfl) (Nat.le_of_ble_eq_true rfl) dX8_init_155 f_X8_66 rfl p_X8_66 (fun _ => ⟨rfl, rfl⟩) hT ha ?_
  obtain ⟨M19, e19⟩ : ∃ m, m = na a 22 11 120 M18 := ⟨_, rfl⟩
  rw [← e19]
  obtain ⟨hT, ha⟩ := na_T e19 hT ha
  refine r_aload_n K dX8_init_158 rfl ?_
  refine r_bipush K dX8_init_159 ?_
  refine r_na (M := M19) (N := 120) K dX8_init_161 (Or.inr (Or.inl ⟨rfl, rfl⟩)) aw_byte (by decide) (by decide) rfl (Nat.le_of_ble_eq_true rfl) (Nat.le_of_ble_eq_true rfl) dX8_init_163 f_X8_69 rfl p_X8_69 (fun _ => ⟨rfl, rfl⟩) hT ha ?_
  obtain ⟨M20, e20⟩ : ∃ m, m = na a 23 11 120 M19 := ⟨_, rfl⟩
  rw [← e20]
  obtain ⟨hT, ha⟩ := na_T e20 hT ha
  refine r_aload_n K dX8_init_166 rfl ?_
  refine r_bipush K dX8_init_167 ?_
  refine r_na (M := M20) (N := 120) K dX8_init_169 (Or.inl ⟨rfl, rfl⟩) aw_int (by decide) (by decide) rfl (Nat.le_of_ble_eq_true rfl) (Nat.le_of_ble_eq_true rfl) dX8_init_171 f_X8_72 rfl p_X8_72 (fun _ => ⟨rfl, rfl⟩) hT ha ?_
  obtain ⟨M21, e21⟩ : ∃ m, m = na a 32 10 120 M20 := ⟨_, rfl⟩
  rw [← e21]
  obtain ⟨hT, ha⟩ := na_T e21 hT ha
  refine r_aload_n K dX8_init_174 rfl ?_
  refine r_bipush K dX8_init_175 ?_
  refine r_na (M := M21) (N := 120) K dX8_init_177 (Or.inl ⟨rfl, rfl⟩) aw_int (by decide) (by decide) rfl (Nat.le_of_ble_eq_true rfl) (Nat.le_of_ble_eq_true rfl) dX8_init_179 f_X8_75 rfl p_X8_75 (fun _ => ⟨rfl, rfl⟩) hT ha ?_
  obtain ⟨M22, e22⟩ : ∃ m, m = na a 33 10 120 M21 := ⟨_, rfl⟩
  rw [← e22]
  obtain ⟨hT, ha⟩ := na_T e22 hT ha
  refine r_aload_n K dX8_init_182 rfl ?_
  refine r_bipush K dX8_init_183 ?_
  refine r_na (M := M22) (N := 120) K dX8_init_185 (Or.inl ⟨rfl, rfl⟩) aw_int (by decide) (by decide) rfl (Nat.le_of_ble_eq_true rfl) (Nat.le_of_ble_eq_true rfl) dX8_init_187 f_X8_78 rfl p_X8_78 (fun _ => ⟨rfl, rfl⟩) hT ha ?_
  obtain ⟨M23, e23⟩ : ∃ m, m = na a 34 10 120 M22 := ⟨_, rfl⟩
  rw [← e23]
  obtain ⟨hT, ha⟩ := na_T e23 hT ha
  refine r_aload_n K dX8_init_190 rfl ?_
  refine r_bipush K dX8_init_191 ?_
  refine r_na (M := M23) (N := 120) K dX8_init_193 (Or.inl ⟨rfl, rfl⟩) aw_int (by decide) (by decide) rfl (Nat.le_of_ble_eq_true rfl) (Nat.le_of_ble_eq_true rfl) dX8_init_195 f_X8_81 rfl p_X8_81 (fun _ => ⟨rfl, rfl⟩) hT ha ?_
  obtain ⟨M24, e24⟩ : ∃ m, m = na a 35 10 120 M23 := ⟨_, rfl⟩
  rw [← e24]
  obtain ⟨hT, ha⟩ := na_T e24 hT ha
  refine r_aload_n K dX8_init_198 rfl ?_
  refine r_bipush K dX8_init_199 ?_
  refine r_na (M := M24) (N := 120) K dX8_init_201 (Or.inl ⟨rfl, rfl⟩) aw_int (by decide) (by decide) rfl (Nat.le_of_ble_eq_true rfl) (Nat.le_of_ble_eq_true rfl) dX8_init_203 f_X8_84 rfl p_X8_84 (fun _ => ⟨rfl, rfl⟩) hT ha ?_
  obtain ⟨M25, e25⟩ : ∃ m, m = na a 36 10 120 M24 := ⟨_, rfl⟩
  rw [← e25]
  obtain ⟨hT, ha⟩ := na_T e25 hT ha
  refine r_aload_n K dX8_init_206 rfl ?_
  refine r_iconst K dX8_init_207 ?_
  refine r_na (M := M25) (N := 5) K dX8_init_208 (Or.inl ⟨rfl, rfl⟩) aw_int (by decide) (by decide) rfl (Nat.le_of_ble_eq_true rfl) (Nat.le_of_ble_eq_true rfl) dX8_init_210 f_X8_87 rfl p_X8_87 (fun _ => ⟨rfl, rfl⟩) hT ha ?_
  obtain ⟨M26, e26⟩ : ∃ m, m = na a 37 10 5 M25 := ⟨_, rfl⟩
  rw [← e26]
  obtain ⟨hT, ha⟩ := na_T e26 hT ha
  refine r_aload_n K dX8_init_213 rfl ?_
  refine r_bipush K dX8_init_214 ?_
  refine r_na (M := M26) (N := 10) K dX8_init_216 (Or.inr (Or.inr ⟨rfl, rfl⟩)) aw_boolean (by decide) (by decide) rfl (Nat.le_of_ble_eq_true rfl) (Nat.le_of_ble_eq_true rfl) dX8_init_218 f_X8_90 rfl p_X8_90 (fun _ => ⟨rfl, rfl⟩) hT ha ?_
  obtain ⟨M27, e27⟩ : ∃ m, m = na a 38 12 10 M26 := ⟨_, rfl⟩
  rw [← e27]
  obtain ⟨hT, ha⟩ := na_T e27 hT ha
  refine r_aload_n K dX8_init_221 rfl ?_
  refine r_bipush K dX8_init_222 ?_
  refine r_na (M := M27) (N := 10) K dX8_init_224 (Or.inl ⟨rfl, rfl⟩) aw_int (by decide) (by decide) rfl (Nat.le_of_ble_eq_true rfl) (Nat.le_of_ble_eq_true rfl) dX8_init_226 f_X8_93 rfl p_X8_93 (fun _ => ⟨rfl, rfl⟩) hT ha ?_
  obtain ⟨M28, e28⟩ : ∃ m, m = na a 39 10 10 M27 := ⟨_, rfl⟩
  rw [← e28]
  obtain ⟨hT, ha⟩ := na_T e28 hT ha
  refine r_aload_n K dX8_init_229 rfl ?_
  refine r_iconst K dX8_init_230 ?_
  refine r_na (M := M28) (N := 5) K dX8_init_231 (Or.inl ⟨rfl, rfl⟩) aw_int (by decide) (by decide) rfl (Nat.le_of_ble_eq_true rfl) (Nat.le_of_ble_eq_true rfl) dX8_init_233 f_X8_96 rfl p_X8_96 (fun _ => ⟨rfl, rfl⟩) hT ha ?_
  obtain ⟨M29, e29⟩ : ∃ m, m = na a 40 10 5 M28 := ⟨_, rfl⟩
  rw [← e29]
  obtain ⟨hT, ha⟩ := na_T e29 hT ha
  exact q_vret K hQ rfl dX8_init_236 (Nat.le_refl _) (Nat.le_refl _) ⟨rfl, by show M29 = _; rw [e29, e28, e27, e26, e25, e24, e23, e22, e21, e20, e19, e18, e17, e16, e15, e14, e13, e12, e11, e10, e9, e8, e7, e6, e5, e4, e3, e2, e1]; rfl⟩
theorem mm_go {Q : (Nat → Nat) → (Nat → Nat) → (Nat → Nat → Option Nat) → (Nat → Nat → Int) → Nat → Prop} {M : Mm} (h : Q M.1 M.2.1 M.2.2.1 M.2.2.2.1 M.2.2.2.2) : ∀ T L P I hn, (T, L, P, I, hn) = M → Q T L P I hn := by
  rintro T L P I hn rfl
  exact h
end INI
