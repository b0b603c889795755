section INJ
/-- the memory ahead of all: the script and the two tables alone -/
def T0 : Nat → Nat := fun k => if k < 3 then 15 else 99
def P0 : Nat → Nat → Option Nat := fun _ _ => none
def w0 (L : Nat → Nat) (I : Nat → Nat → Int) : Mm := (T0, L, P0, I, 0)
def oB (a fi N : Nat) (M : Mm) : Mm := pr a fi (3 + mH M) (na (3 + mH M) 0 10 N (nw 0 0 M))
def oT (a fi : Nat) (M : Mm) : Mm := pr a fi (3 + mH M) (tIni (3 + mH M) (nw 6 0 M))
def dIni (M : Mm) : Mm := na 41 3 10 120 (na 41 2 10 120 (oT 41 1 (oB 41 0 120 M)))
def sI3 (M : Mm) : Mm := na 6 2 12 25 (na 6 1 14 25 (na 6 0 13 5 M))
def sI4 (M : Mm) : Mm := pr 6 3 (3 + mH M) (nIni (3 + mH M) (nw 4 0 M))
def sIni (M : Mm) : Mm := oB 7 4 120 (oB 7 3 120 (oB 7 2 120 (oB 7 1 120 (oB 7 0 120 (sI4 (sI3 M))))))
def w1 (L : Nat → Nat) (I : Nat → Nat → Int) : Mm := nw 7 0 (w0 L I)
def w2 (L : Nat → Nat) (I : Nat → Nat → Int) : Mm := oB 3 0 200 (w1 L I)
def w3 (L : Nat → Nat) (I : Nat → Nat → Int) : Mm := pr 3 1 6 (sIni (nw 5 0 (w2 L I)))
def w4 (L : Nat → Nat) (I : Nat → Nat → Int) : Mm := oT 3 2 (w3 L I)
def w5 (L : Nat → Nat) (I : Nat → Nat → Int) : Mm := oT 3 3 (w4 L I)
def w6 (L : Nat → Nat) (I : Nat → Nat → Int) : Mm := pr 3 4 (3 + mH (w5 L I)) (pIni (3 + mH (w5 L I)) (nw 3 0 (w5 L I)))
def w7 (L : Nat → Nat) (I : Nat → Nat → Int) : Mm := pr 3 5 41 (dIni (nw 1 0 (w6 L I)))
def w8 (L : Nat → Nat) (I : Nat → Nat → Int) : Mm := pr 3 6 (3 + mH (w7 L I)) (fIni (3 + mH (w7 L I)) (nw 2 0 (w7 L I)))
def w9 (L : Nat → Nat) (I : Nat → Nat → Int) : Mm := mIni 54 (nw 8 0 (w8 L I))
variable {L : Nat → Nat} {I : Nat → Nat → Int}
theorem h_w2 : mH (w2 L I) = 3 := rfl
theorem h_w6 : mH (w6 L I) = 38 := rfl
set_option maxHeartbeats 4000000 in
set_option maxRecDepth 100000 in
theorem k_X5_init : gX5_init 21 1517 [.inr (some 6)] (nw 5 0 (w2 L I)).1 (nw 5 0 (w2 L I)).2.1 (nw 5 0 (w2 L I)).2.2.1 (nw 5 0 (w2 L I)).2.2.2.1 (nw 5 0 (w2 L I)).2.2.2.2 (isM (sIni (nw 5 0 (w2 L I)))) := by
  refine CT.by (by decide) (Nat.le_of_ble_eq_true rfl) fun X Y Q hQ K hv => ?_
  refine r_aload_n K dX5_init_0 rfl ?_
  refine r_obj K dX5_init_1 o_X5_3 (Nat.le_of_ble_eq_true rfl) (Nat.le_of_ble_eq_true rfl) ?_
  refine r_aload_n K dX5_init_4 rfl ?_
  refine r_iconst K dX5_init_5 ?_
  refine r_newq K dX5_init_6 (Or.inl ⟨rfl, rfl⟩) q_X5_9 (by omega) (by omega) (Nat.le_of_ble_eq_true rfl) (Nat.le_of_ble_eq_true rfl) ?_
  refine r_putR K dX5_init_9 f_X5_11 rfl p_X5_11 ⟨rfl, rfl⟩ (by rfl) ?_
  refine r_aload_n K dX5_init_12 rfl ?_
  refine r_bipush K dX5_init_13 ?_
  refine r_newq K dX5_init_15 (Or.inr ⟨rfl, rfl⟩) q_X5_17 (by omega) (by omega) (Nat.le_of_ble_eq_true rfl) (Nat.le_of_ble_eq_true rfl) ?_
  refine r_putR K dX5_init_18 f_X5_19 rfl p_X5_19 ⟨rfl, rfl⟩ (by rfl) ?_
  refine r_aload_n K dX5_init_21 rfl ?_
  refine r_bipush K dX5_init_22 ?_
  refine r_newa K dX5_init_24 (Or.inr (Or.inr ⟨rfl, rfl⟩)) aw_boolean (by omega) (by omega) (Nat.le_of_ble_eq_true rfl) (Nat.le_of_ble_eq_true rfl) ?_
  refine r_putR K dX5_init_26 f_X5_23 rfl p_X5_23 ⟨rfl, rfl⟩ (by rfl) ?_
  refine r_aload_n K dX5_init_29 rfl ?_
  refine r_new K dX5_init_30 (by decide) n_X5_27 (Nat.le_of_ble_eq_true rfl) (Nat.le_of_ble_eq_true rfl) ?_
  refine r_dup K dX5_init_33 ?_
  refine rcI0g K dX5_init_34 c_X5_29 i_X4_init (k_X4_init (by rfl) (by decide)) (by decide) (Nat.le_of_ble_eq_true rfl) ?_
  rintro _ T1 L1 P1 I1 n1 ⟨rfl, hM⟩
  refine mm_go (Q := fun T L P I hn => RR X Y _ _ _ _ _ _ T L P I hn) ?_ T1 L1 P1 I1 n1 hM
  refine r_putR K dX5_init_37 f_X5_30 rfl p_X5_30 ⟨rfl, rfl⟩ (by rfl) ?_
  refine r_iconst K dX5_init_40 ?_
  refine r_istore_n K dX5_init_41 (by decide) ?_
  refine r_iload_n K dX5_init_42 rfl ?_
  refine r_iconst K dX5_init_43 ?_
  refine r_icmp_ge K 68 dX5_init_44 (by decide) (fun c44 => ?_) (fun c44 => ?_)
  · exact absurd c44 (by omega)
  · refine r_aload_n K dX5_init_47 rfl ?_
    refine r_getR K dX5_init_48 f_X5_11 rfl (by rfl) (by rfl) ?_
    refine r_iload_n K dX5_init_51 rfl ?_
    refine r_new K dX5_init_52 (by decide) n_X5_9 (Nat.le_of_ble_eq_true rfl) (Nat.le_of_ble_eq_true rfl) ?_
    refine r_dup K dX5_init_55 ?_
    refine r_bipush K dX5_init_56 ?_
    refine rcI1g K dX5_init_58 c_X5_34 i_X0_init (k_X0_init (N := 120) (by decide) (by decide) rfl (by rfl) (by decide)) (by decide) (Nat.le_of_ble_eq_true rfl) ?_
    rintro _ T1 L1 P1 I1 n1 ⟨rfl, hM⟩
    refine mm_go (Q := fun T L P I hn => RR X Y _ _ _ _ _ _ T L P I hn) ?_ T1 L1 P1 I1 n1 hM
    refine r_aast K dX5_init_61 (Or.inl ⟨by rfl, by rfl⟩) (by first | omega | exact Int.lt_of_lt_of_le (b := 5) (by omega) (Int.le_of_eq rfl)) (by first | omega | exact Int.lt_of_lt_of_le (b := 5) (by omega) (Int.le_of_eq rfl)) ?_
    refine r_iinc K dX5_init_62 (by decide) rfl ?_
    refine r_goto K 42 dX5_init_65 (by decide) ?_
    refine r_iload_n K dX5_init_42 rfl ?_
    refine r_iconst K dX5_init_43 ?_
    refine r_icmp_ge K 68 dX5_init_44 (by decide) (fun c44 => ?_) (fun c44 => ?_)
    · exact absurd c44 (by omega)
    · refine r_aload_n K dX5_init_47 rfl ?_
      refine r_getR K dX5_init_48 f_X5_11 rfl (by rfl) (by rfl) ?_
      refine r_iload_n K dX5_init_51 rfl ?_
      refine r_new K dX5_init_52 (by decide) n_X5_9 (Nat.le_of_ble_eq_true rfl) (Nat.le_of_ble_eq_true rfl) ?_
      refine r_dup K dX5_init_55 ?_
      refine r_bipush K dX5_init_56 ?_
      refine rcI1g K dX5_init_58 c_X5_34 i_X0_init (k_X0_init (N := 120) (by decide) (by decide) rfl (by rfl) (by decide)) (by decide) (Nat.le_of_ble_eq_true rfl) ?_
      rintro _ T1 L1 P1 I1 n1 ⟨rfl, hM⟩
      refine mm_go (Q := fun T L P I hn => RR X Y _ _ _ _ _ _ T L P I hn) ?_ T1 L1 P1 I1 n1 hM
      refine r_aast K dX5_init_61 (Or.inl ⟨by rfl, by rfl⟩) (by first | omega | exact Int.lt_of_lt_of_le (b := 5) (by omega) (Int.le_of_eq rfl)) (by first | omega | exact Int.lt_of_lt_of_le (b := 5) (by omega) (Int.le_of_eq rfl)) ?_
      refine r_iinc K dX5_init_62 (by decide) rfl ?_
      refine r_goto K 42 dX5_init_65 (by decide) ?_
      refine r_iload_n K dX5_init_42 rfl ?_
      refine r_iconst K dX5_init_43 ?_
      refine r_icmp_ge K 68 dX5_init_44 (by decide) (fun c44 => ?_) (fun c44 => ?_)
      · exact absurd c44 (by omega)
      · refine r_aload_n K dX5_init_47 rfl ?_
        refine r_getR K dX5_init_48 f_X5_11 rfl (by rfl) (by rfl) ?_
        refine r_iload_n K dX5_init_51 rfl ?_
        refine r_new K dX5_init_52 (by decide) n_X5_9 (Nat.le_of_ble_eq_true rfl) (Nat.le_of_ble_eq_true rfl) ?_
        refine r_dup K dX5_init_55 ?_
        refine r_bipush K dX5_init_56 ?_
        refine rcI1g K dX5_init_58 c_X5_34 i_X0_init (k_X0_init (N := 120) (by decide) (by decide) rfl (by rfl) (by decide)) (by decide) (Nat.le_of_ble_eq_true rfl) ?_
        rintro _ T1 L1 P1 I1 n1 ⟨rfl, hM⟩
        refine mm_go (Q := fun T L P I hn => RR X Y _ _ _ _ _ _ T L P I hn) ?_ T1 L1 P1 I1 n1 hM
        refine r_aast K dX5_init_61 (Or.inl ⟨by rfl, by rfl⟩) (by first | omega | exact Int.lt_of_lt_of_le (b := 5) (by omega) (Int.le_of_eq rfl)) (by first | omega | exact Int.lt_of_lt_of_le (b := 5) (by omega) (Int.le_of_eq rfl)) ?_
        refine r_iinc K dX5_init_62 (by decide) rfl ?_
        refine r_goto K 42 dX5_init_65 (by decide) ?_
        refine r_iload_n K dX5_init_42 rfl ?_
        refine r_iconst K dX5_init_43 ?_
        refine r_icmp_ge K 68 dX5_init_44 (by decide) (fun c44 => ?_) (fun c44 => ?_)
        · exact absurd c44 (by omega)
        · refine r_aload_n K dX5_init_47 rfl ?_
          refine r_getR K dX5_init_48 f_X5_11 rfl (by rfl) (by rfl) ?_
          refine r_iload_n K dX5_init_51 rfl ?_
          refine r_new K dX5_init_52 (by decide) n_X5_9 (Nat.le_of_ble_eq_true rfl) (Nat.le_of_ble_eq_true rfl) ?_
          refine r_dup K dX5_init_55 ?_
          refine r_bipush K dX5_init_56 ?_
          refine rcI1g K dX5_init_58 c_X5_34 i_X0_init (k_X0_init (N := 120) (by decide) (by decide) rfl (by rfl) (by decide)) (by decide) (Nat.le_of_ble_eq_true rfl) ?_
          rintro _ T1 L1 P1 I1 n1 ⟨rfl, hM⟩
          refine mm_go (Q := fun T L P I hn => RR X Y _ _ _ _ _ _ T L P I hn) ?_ T1 L1 P1 I1 n1 hM
          refine r_aast K dX5_init_61 (Or.inl ⟨by rfl, by rfl⟩) (by first | omega | exact Int.lt_of_lt_of_le (b := 5) (by omega) (Int.le_of_eq rfl)) (by first | omega | exact Int.lt_of_lt_of_le (b := 5) (by omega) (Int.le_of_eq rfl)) ?_
          refine r_iinc K dX5_init_62 (by decide) rfl ?_
          refine r_goto K 42 dX5_init_65 (by decide) ?_
          refine r_iload_n K dX5_init_42 rfl ?_
          refine r_iconst K dX5_init_43 ?_
          refine r_icmp_ge K 68 dX5_init_44 (by decide) (fun c44 => ?_) (fun c44 => ?_)
          · exact absurd c44 (by omega)
          · refine r_aload_n K dX5_init_47 rfl ?_
            refine r_getR K dX5_init_48 f_X5_11 rfl (by rfl) (by rfl) ?_
            refine r_iload_n K dX5_init_51 rfl ?_
            refine r_new K dX5_init_52 (by decide) n_X5_9 (Nat.le_of_ble_eq_true rfl) (Nat.le_of_ble_eq_true rfl) ?_
            refine r_dup K dX5_init_55 ?_
            refine r_bipush K dX5_init_56 ?_
            refine rcI1g K dX5_init_58 c_X5_34 i_X0_init (k_X0_init (N := 120) (by decide) (by decide) rfl (by rfl) (by decide)) (by decide) (Nat.le_of_ble_eq_true rfl) ?_
            rintro _ T1 L1 P1 I1 n1 ⟨rfl, hM⟩
            refine mm_go (Q := fun T L P I hn => RR X Y _ _ _ _ _ _ T L P I hn) ?_ T1 L1 P1 I1 n1 hM
            refine r_aast K dX5_init_61 (Or.inl ⟨by rfl, by rfl⟩) (by first | omega | exact Int.lt_of_lt_of_le (b := 5) (by omega) (Int.le_of_eq rfl)) (by first | omega | exact Int.lt_of_lt_of_le (b := 5) (by omega) (Int.le_of_eq rfl)) ?_
            refine r_iinc K dX5_init_62 (by decide) rfl ?_
            refine r_goto K 42 dX5_init_65 (by decide) ?_
            refine r_iload_n K dX5_init_42 rfl ?_
            refine r_iconst K dX5_init_43 ?_
            refine r_icmp_ge K 68 dX5_init_44 (by decide) (fun c44 => ?_) (fun c44 => ?_)
            · exact q_vret K hQ rfl dX5_init_68 (Nat.le_refl _) (Nat.le_refl _) (⟨rfl, rfl⟩)
            · exact absurd c44 (by omega)
set_option maxHeartbeats 4000000 in
set_option maxRecDepth 100000 in
theorem k_X1_init : gX1_init 8 726 [.inr (some 41)] (nw 1 0 (w6 L I)).1 (nw 1 0 (w6 L I)).2.1 (nw 1 0 (w6 L I)).2.2.1 (nw 1 0 (w6 L I)).2.2.2.1 (nw 1 0 (w6 L I)).2.2.2.2 (isM (dIni (nw 1 0 (w6 L I)))) := by
  refine CT.by (by decide) (Nat.le_of_ble_eq_true rfl) fun X Y Q hQ K hv => ?_
  refine r_aload_n K dX1_init_0 rfl ?_
  refine r_obj K dX1_init_1 o_X1_3 (Nat.le_of_ble_eq_true rfl) (Nat.le_of_ble_eq_true rfl) ?_
  refine r_aload_n K dX1_init_4 rfl ?_
  refine r_new K dX1_init_5 (by decide) n_X1_9 (Nat.le_of_ble_eq_true rfl) (Nat.le_of_ble_eq_true rfl) ?_
  refine r_dup K dX1_init_8 ?_
  refine r_bipush K dX1_init_9 ?_
  refine rcI1g K dX1_init_11 c_X1_11 i_X0_init (k_X0_init (N := 120) (by decide) (by decide) rfl (by rfl) (by decide)) (by decide) (Nat.le_of_ble_eq_true rfl) ?_
  rintro _ T1 L1 P1 I1 n1 ⟨rfl, hM⟩
  refine mm_go (Q := fun T L P I hn => RR X Y _ _ _ _ _ _ T L P I hn) ?_ T1 L1 P1 I1 n1 hM
  refine r_putR K dX1_init_14 f_X1_14 rfl p_X1_14 ⟨rfl, rfl⟩ (by rfl) ?_
  refine r_aload_n K dX1_init_17 rfl ?_
  refine r_new K dX1_init_18 (by decide) n_X1_20 (Nat.le_of_ble_eq_true rfl) (Nat.le_of_ble_eq_true rfl) ?_
  refine r_dup K dX1_init_21 ?_
  refine rcI0g K dX1_init_22 c_X1_22 i_X6_init (k_X6_init (by rfl) (by decide)) (by decide) (Nat.le_of_ble_eq_true rfl) ?_
  rintro _ T1 L1 P1 I1 n1 ⟨rfl, hM⟩
  refine mm_go (Q := fun T L P I hn => RR X Y _ _ _ _ _ _ T L P I hn) ?_ T1 L1 P1 I1 n1 hM
  refine r_putR K dX1_init_25 f_X1_23 rfl p_X1_23 ⟨rfl, rfl⟩ (by rfl) ?_
  refine r_aload_n K dX1_init_28 rfl ?_
  refine r_bipush K dX1_init_29 ?_
  refine r_newa K dX1_init_31 (Or.inl ⟨rfl, rfl⟩) aw_int (by omega) (by omega) (Nat.le_of_ble_eq_true rfl) (Nat.le_of_ble_eq_true rfl) ?_
  refine r_putR K dX1_init_33 f_X1_27 rfl p_X1_27 ⟨rfl, rfl⟩ (by rfl) ?_
  refine r_aload_n K dX1_init_36 rfl ?_
  refine r_bipush K dX1_init_37 ?_
  refine r_newa K dX1_init_39 (Or.inl ⟨rfl, rfl⟩) aw_int (by omega) (by omega) (Nat.le_of_ble_eq_true rfl) (Nat.le_of_ble_eq_true rfl) ?_
  refine r_putR K dX1_init_41 f_X1_31 rfl p_X1_31 ⟨rfl, rfl⟩ (by rfl) ?_
  exact q_vret K hQ rfl dX1_init_44 (Nat.le_refl _) (Nat.le_refl _) (⟨rfl, rfl⟩)
set_option maxHeartbeats 4000000 in
set_option maxRecDepth 100000 in
theorem k_X7_init : gX7_init 50 3702 [.inr (some 3)] (w1 L I).1 (w1 L I).2.1 (w1 L I).2.2.1 (w1 L I).2.2.2.1 (w1 L I).2.2.2.2 (isM (w8 L I)) := by
  refine CT.by (by decide) (Nat.le_of_ble_eq_true rfl) fun X Y Q hQ K hv => ?_
  refine r_aload_n K dX7_init_0 rfl ?_
  refine r_obj K dX7_init_1 o_X7_3 (Nat.le_of_ble_eq_true rfl) (Nat.le_of_ble_eq_true rfl) ?_
  refine r_aload_n K dX7_init_4 rfl ?_
  refine r_new K dX7_init_5 (by decide) n_X7_9 (Nat.le_of_ble_eq_true rfl) (Nat.le_of_ble_eq_true rfl) ?_
  refine r_dup K dX7_init_8 ?_
  refine r_sipush K dX7_init_9 ?_
  refine rcI1g K dX7_init_12 c_X7_11 i_X0_init (k_X0_init (N := 200) (by decide) (by decide) rfl (by rfl) (by decide)) (by decide) (Nat.le_of_ble_eq_true rfl) ?_
  rintro _ T1 L1 P1 I1 n1 ⟨rfl, hM⟩
  refine mm_go (Q := fun T L P I hn => RR X Y _ _ _ _ _ _ T L P I hn) ?_ T1 L1 P1 I1 n1 hM
  refine r_putR K dX7_init_15 f_X7_14 rfl p_X7_14 ⟨rfl, rfl⟩ (by rfl) ?_
  refine r_aload_n K dX7_init_18 rfl ?_
  refine r_new K dX7_init_19 (by decide) n_X7_18 (Nat.le_of_ble_eq_true rfl) (Nat.le_of_ble_eq_true rfl) ?_
  refine r_dup K dX7_init_22 ?_
  refine rcI0g K dX7_init_23 c_X7_20 i_X5_init k_X5_init (by decide) (Nat.le_of_ble_eq_true rfl) ?_
  rintro _ T1 L1 P1 I1 n1 ⟨rfl, hM⟩
  refine mm_go (Q := fun T L P I hn => RR X Y _ _ _ _ _ _ T L P I hn) ?_ T1 L1 P1 I1 n1 hM
  refine r_putR K dX7_init_26 f_X7_21 rfl p_X7_21 ⟨rfl, rfl⟩ (by rfl) ?_
  refine r_aload_n K dX7_init_29 rfl ?_
  refine r_new K dX7_init_30 (by decide) n_X7_25 (Nat.le_of_ble_eq_true rfl) (Nat.le_of_ble_eq_true rfl) ?_
  refine r_dup K dX7_init_33 ?_
  refine rcI0g K dX7_init_34 c_X7_27 i_X6_init (k_X6_init (by rfl) (by decide)) (by decide) (Nat.le_of_ble_eq_true rfl) ?_
  rintro _ T1 L1 P1 I1 n1 ⟨rfl, hM⟩
  refine mm_go (Q := fun T L P I hn => RR X Y _ _ _ _ _ _ T L P I hn) ?_ T1 L1 P1 I1 n1 hM
  refine r_putR K dX7_init_37 f_X7_28 rfl p_X7_28 ⟨rfl, rfl⟩ (by rfl) ?_
  refine r_aload_n K dX7_init_40 rfl ?_
  refine r_new K dX7_init_41 (by decide) n_X7_25 (Nat.le_of_ble_eq_true rfl) (Nat.le_of_ble_eq_true rfl) ?_
  refine r_dup K dX7_init_44 ?_
  refine rcI0g K dX7_init_45 c_X7_27 i_X6_init (k_X6_init (by rfl) (by decide)) (by decide) (Nat.le_of_ble_eq_true rfl) ?_
  rintro _ T1 L1 P1 I1 n1 ⟨rfl, hM⟩
  refine mm_go (Q := fun T L P I hn => RR X Y _ _ _ _ _ _ T L P I hn) ?_ T1 L1 P1 I1 n1 hM
  refine r_putR K dX7_init_48 f_X7_32 rfl p_X7_32 ⟨rfl, rfl⟩ (by rfl) ?_
  refine r_aload_n K dX7_init_51 rfl ?_
  refine r_new K dX7_init_52 (by decide) n_X7_35 (Nat.le_of_ble_eq_true rfl) (Nat.le_of_ble_eq_true rfl) ?_
  refine r_dup K dX7_init_55 ?_
  refine rcI0g K dX7_init_56 c_X7_37 i_X3_init (k_X3_init (by rfl) (by decide)) (by decide) (Nat.le_of_ble_eq_true rfl) ?_
  rintro _ T1 L1 P1 I1 n1 ⟨rfl, hM⟩
  refine mm_go (Q := fun T L P I hn => RR X Y _ _ _ _ _ _ T L P I hn) ?_ T1 L1 P1 I1 n1 hM
  refine r_putR K dX7_init_59 f_X7_38 rfl p_X7_38 ⟨rfl, rfl⟩ (by rfl) ?_
  refine r_aload_n K dX7_init_62 rfl ?_
  refine r_new K dX7_init_63 (by decide) n_X7_42 (Nat.le_of_ble_eq_true rfl) (Nat.le_of_ble_eq_true rfl) ?_
  refine r_dup K dX7_init_66 ?_
  refine rcI0g K dX7_init_67 c_X7_44 i_X1_init k_X1_init (by decide) (Nat.le_of_ble_eq_true rfl) ?_
  rintro _ T1 L1 P1 I1 n1 ⟨rfl, hM⟩
  refine mm_go (Q := fun T L P I hn => RR X Y _ _ _ _ _ _ T L P I hn) ?_ T1 L1 P1 I1 n1 hM
  refine r_putR K dX7_init_70 f_X7_45 rfl p_X7_45 ⟨rfl, rfl⟩ (by rfl) ?_
  refine r_aload_n K dX7_init_73 rfl ?_
  refine r_new K dX7_init_74 (by decide) n_X7_49 (Nat.le_of_ble_eq_true rfl) (Nat.le_of_ble_eq_true rfl) ?_
  refine r_dup K dX7_init_77 ?_
  refine rcI0g K dX7_init_78 c_X7_51 i_X2_init (k_X2_init (by rfl) (by decide)) (by decide) (Nat.le_of_ble_eq_true rfl) ?_
  rintro _ T1 L1 P1 I1 n1 ⟨rfl, hM⟩
  refine mm_go (Q := fun T L P I hn => RR X Y _ _ _ _ _ _ T L P I hn) ?_ T1 L1 P1 I1 n1 hM
  refine r_putR K dX7_init_81 f_X7_52 rfl p_X7_52 ⟨rfl, rfl⟩ (by rfl) ?_
  exact q_vret K hQ rfl dX7_init_84 (Nat.le_refl _) (Nat.le_refl _) (⟨rfl, rfl⟩)
end INJ
