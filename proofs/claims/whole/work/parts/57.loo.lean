section LOO
variable {X : Cx} {Y : SY} {Q : State → Prop} {nm : String} {T L : Nat → Nat} {P : Nat → Nat → Option Nat} {I : Nat → Nat → Int} {hn cells slots pc n i : Nat} {ls : List (Option PV)} {st : List PV}
theorem rr_len (h : (∀ k, k < 3 → L k = yL Y k) → RR X Y Q cells slots pc ls st T L P I hn) : RR X Y Q cells slots pc ls st T L P I hn := fun H locs la hH hS hL hV => h (fun k hk => (hH.2.2.2.2.2 k hk).2.1) H locs la hH hS hL hV
/-- the start: nothing but zeros -/
theorem ini_RI (h : ∀ k, 3 ≤ k → I k = fun _ => 0) : RI 0 I := by
  have z : ∀ k j, 3 ≤ k → I k j = 0 := fun k j hk => by rw [h k hk]
  refine ⟨⟨⟨0, z 4 1 (by decide), z 54 1 (by decide), by decide⟩, fun j hj => by rw [z 55 j (by decide), z 5 j (by decide)]; rfl, fun j => by rw [z 55 j (by decide)]; decide⟩, ⟨⟨fun v hv => by rw [z 57 v (by decide)]; decide, fun j => by rw [z 56 j (by decide)]; decide⟩, fun v hv => ⟨by rw [z 57 v (by decide), z (18 + 2 * v) 1 (by omega)], fun j hj => by rw [z 57 v (by decide)] at hj; omega⟩⟩, ⟨by rw [z 54 20 (by decide), z 36 4 (by decide)], by rw [z 36 4 (by decide)]; decide, by rw [z 36 4 (by decide)]; decide, fun k hk => by rw [z 36 4 (by decide)] at hk; omega⟩, ⟨⟨⟨by rw [z 54 24 (by decide), z 42 1 (by decide)], by rw [z 42 1 (by decide)]; decide, by rw [z 42 1 (by decide)]; decide⟩, fun j hj => by rw [z 73 j (by decide), z 74 j (by decide), z 43 j (by decide), z 49 j (by decide)]; decide, ⟨by rw [z 54 29 (by decide), z 41 9 (by decide)], Or.inl (z 41 9 (by decide))⟩, ⟨by rw [z 54 30 (by decide), z 41 10 (by decide)], Or.inl (z 41 10 (by decide))⟩, fun _ => z 41 10 (by decide), fun w => absurd (z 41 9 (by decide)) w, by rw [z 41 4 (by decide)]; decide, by rw [z 41 7 (by decide)]; decide, by rw [z 44 3 (by decide)]; decide⟩, by rw [z 54 25 (by decide), z 41 8 (by decide)], by rw [z 41 8 (by decide)]; decide, by rw [z 41 8 (by decide)]; decide⟩, fun v hv => by rw [z 80 v (by decide), z 51 v (by decide), z 57 v (by decide)]; exact ⟨rfl, by decide, fun _ => rfl⟩, ⟨0, by decide, z 50 3 (by decide), fun k hk => by rw [z 81 k (by decide), Nat.zero_testBit]; rfl⟩⟩
theorem ini_CI {L0 : Nat → Nat} {I0 : Nat → Nat → Int} (hl : ∀ k, 3 ≤ k → L0 k = 0) (hi : ∀ k, 3 ≤ k → I0 k = fun _ => 0) (h1 : (wAll L0 I0).2.1 1 = 10) (h2 : (wAll L0 I0).2.1 2 = 10) : CI (wAll L0 I0).1 (wAll L0 I0).2.1 (wAll L0 I0).2.2.1 (wAll L0 I0).2.2.2.1 (wAll L0 I0).2.2.2.2 ∧ RI 0 (wAll L0 I0).2.2.2.1 := by
  have hz : ∀ k, 3 ≤ k → (wAll L0 I0).2.2.2.1 k = fun _ => 0 := fun k hk => (zI_w (L := L0) hi k).2 hk
  have z : ∀ k j, 3 ≤ k → (wAll L0 I0).2.2.2.1 k j = 0 := fun k j hk => by rw [hz k hk]
  have s := w_sim hl I0
  have hP : ∀ t, t < 25 → (wAll L0 I0).2.2.1 8 t = none := fun t ht => by rw [s.2.1]; exact wC_8 ⟨t, ht⟩
  have hh : (wAll L0 I0).2.2.2.2 = 81 := s.2.2.1.trans wC_h
  refine ⟨⟨w_Wd hl h1 h2, by rw [hh]; decide, fun v hv => ⟨by rw [z _ _ (by omega)]; decide, by rw [z _ _ (by omega)]; decide, fun j hj => by rw [z _ _ (by omega)]; decide⟩, ⟨fun t q ht e => (by rw [hP t ht] at e; cases e), fun t t' q q' ht ht' _ e _ => (by rw [hP t ht] at e; cases e), fun t ht => Or.inl (z 9 t (by decide)), fun a b ha hb e => by rw [z 9 _ (by decide)] at e; exact absurd e (by decide)⟩⟩, ini_RI hz⟩
set_option maxHeartbeats 4000000 in
set_option maxRecDepth 100000 in
theorem law_loop (K : KW X Y nm) (hL : yL Y 0 ≤ 3072) (hT : ∀ k, k < 10 → yI Y 1 k = (pF k : Nat) ∧ yI Y 2 k = (pT k : Nat)) (hend : ∀ (T L : Nat → Nat) (P : Nat → Nat → Option Nat) (I : Nat → Nat → Int) (hn cells slots : Nat) (ls : List (Option PV)), cells ≤ 600000 → slots ≤ 7302250 → RR X Y Q cells slots 753 ls [] T L P I hn) : ∀ (d n : Nat) (T L : Nat → Nat) (P : Nat → Nat → Option Nat) (I : Nat → Nat → Int) (hn cells slots : Nat) (z : Int), n + d = 513 → z = ((6 * n : Nat) : Int) → CI T L P I hn → RI n I → cells ≤ 100 + 50 * n → slots ≤ 30000 + 4860 * n → RR X Y Q cells slots 18 [some (.inr (some 0)), some (.inr (some 3)), some (.inr (some 54)), some (.inl z)] [] T L P I hn := by
  intro d
  induction d with
  | zero =>
    intro n T L P I hn cells slots z hd hz hC hR hc hs
    subst hz
    refine rr_low (fun e => ?_)
    have e0 := e.1
    refine r_iload_n K dL_law_18 rfl ?_
    refine r_aload_n K dL_law_19 rfl ?_
    refine r_olen K dL_law_20 (by decide) ?_
    refine r_bipush K dL_law_21 ?_
    refine r_isub K dL_law_23 ?_
    refine r_icmp_gt K 753 dL_law_24 (by decide) (fun c24 => ?_) (fun c24 => ?_)
    · exact hend _ _ _ _ _ _ _ _ (by omega) (by omega)
    · exact absurd c24 (by omega)
  | succ d ih =>
    intro n T L P I hn cells slots z hd hz hC hR hc hs
    subst hz
    refine rr_low (fun e => ?_)
    have e0 := e.1
    have nx : nxt X Y Q n (6 * n) cells slots := by
      intro T L P I hn cells' slots' hC hR h1 h2
      refine r_iinc K dL_law_747 (by decide) rfl ?_
      refine r_goto K 18 dL_law_750 (by decide) ?_
      exact ih (n + 1) T L P I hn cells' slots' _ (by omega) (by omega) hC hR (by omega) (by omega)
    refine r_iload_n K dL_law_18 rfl ?_
    refine r_aload_n K dL_law_19 rfl ?_
    refine r_olen K dL_law_20 (by decide) ?_
    refine r_bipush K dL_law_21 ?_
    refine r_isub K dL_law_23 ?_
    refine r_icmp_gt K 753 dL_law_24 (by decide) (fun c24 => ?_) (fun c24 => ?_)
    · exact hend _ _ _ _ _ _ _ _ (by omega) (by omega)
    · have hk : CK Y n (6 * n) cells slots := ⟨by omega, hL, by omega, by omega, by omega, hT⟩
      refine r_aload_n K dL_law_27 rfl ?_
      refine r_iload_n K dL_law_28 rfl ?_
      refine r_oald K dL_law_29 (by decide) (by omega) (by omega) ?_
      refine r_bipush K dL_law_30 ?_
      refine r_iand K dL_law_32 ?_
      generalize zAnd (I 0 ((6 * n : Nat) : Int).toNat) 31 = x
      rcases (by omega : x = 0 ∨ x = 1 ∨ x = 2 ∨ x = 3 ∨ x = 4 ∨ x = 5 ∨ x = 6 ∨ x = 7 ∨ x = 8 ∨ x = 9 ∨ x = 10 ∨ x = 11 ∨ x = 12 ∨ x = 13 ∨ x = 14 ∨ x = 15 ∨ x = 16 ∨ x = 17 ∨ x = 18 ∨ (x < 0 ∨ 18 < x)) with hw | hw | hw | hw | hw | hw | hw | hw | hw | hw | hw | hw | hw | hw | hw | hw | hw | hw | hw | hw
      · refine r_tableIn K 124 dL_law_33 (by omega) (by omega) (by rw [hw]; rfl) (by decide) ?_
        exact lc_0 K hC hR hk nx
      · refine r_tableIn K 187 dL_law_33 (by omega) (by omega) (by rw [hw]; rfl) (by decide) ?_
        exact lc_1 K hC hR hk nx
      · refine r_tableIn K 220 dL_law_33 (by omega) (by omega) (by rw [hw]; rfl) (by decide) ?_
        exact lc_2 K hC hR hk nx
      · refine r_tableIn K 253 dL_law_33 (by omega) (by omega) (by rw [hw]; rfl) (by decide) ?_
        exact lc_3 K hC hR hk nx
      · refine r_tableIn K 276 dL_law_33 (by omega) (by omega) (by rw [hw]; rfl) (by decide) ?_
        exact lc_4 K hC hR hk nx
      · refine r_tableIn K 309 dL_law_33 (by omega) (by omega) (by rw [hw]; rfl) (by decide) ?_
        exact lc_5 K hC hR hk nx
      · refine r_tableIn K 362 dL_law_33 (by omega) (by omega) (by rw [hw]; rfl) (by decide) ?_
        exact lc_6 K hC hR hk nx
      · refine r_tableIn K 405 dL_law_33 (by omega) (by omega) (by rw [hw]; rfl) (by decide) ?_
        exact lc_7 K hC hR hk nx
      · refine r_tableIn K 438 dL_law_33 (by omega) (by omega) (by rw [hw]; rfl) (by decide) ?_
        exact lc_8 K hC hR hk nx
      · refine r_tableIn K 481 dL_law_33 (by omega) (by omega) (by rw [hw]; rfl) (by decide) ?_
        exact lc_9 K hC hR hk nx
      · refine r_tableIn K 504 dL_law_33 (by omega) (by omega) (by rw [hw]; rfl) (by decide) ?_
        exact lc_10 K hC hR hk nx
      · refine r_tableIn K 537 dL_law_33 (by omega) (by omega) (by rw [hw]; rfl) (by decide) ?_
        exact lc_11 K hC hR hk nx
      · refine r_tableIn K 560 dL_law_33 (by omega) (by omega) (by rw [hw]; rfl) (by decide) ?_
        exact lc_12 K hC hR hk nx
      · refine r_tableIn K 573 dL_law_33 (by omega) (by omega) (by rw [hw]; rfl) (by decide) ?_
        exact lc_13 K hC hR hk nx
      · refine r_tableIn K 586 dL_law_33 (by omega) (by omega) (by rw [hw]; rfl) (by decide) ?_
        exact lc_14 K hC hR hk nx
      · refine r_tableIn K 609 dL_law_33 (by omega) (by omega) (by rw [hw]; rfl) (by decide) ?_
        exact lc_15 K hC hR hk nx
      · refine r_tableIn K 642 dL_law_33 (by omega) (by omega) (by rw [hw]; rfl) (by decide) ?_
        exact lc_16 K hC hR hk nx
      · refine r_tableIn K 701 dL_law_33 (by omega) (by omega) (by rw [hw]; rfl) (by decide) ?_
        exact lc_17 K hC hR hk nx
      · refine r_tableIn K 714 dL_law_33 (by omega) (by omega) (by rw [hw]; rfl) (by decide) ?_
        exact lc_18 K hC hR hk nx
      · refine r_tableOut K 747 dL_law_33 hw (by decide) ?_
        exact nx _ _ _ _ _ _ _ hC hR.up (by omega) (by omega)
set_option maxHeartbeats 4000000 in
set_option maxRecDepth 100000 in
theorem law_go {L0 : Nat → Nat} {I0 : Nat → Nat → Int} (K : KW X Y nm) (hL : yL Y 0 ≤ 3072) (hL1 : yL Y 1 = 10 ∧ yL Y 2 = 10) (hT : ∀ k, k < 10 → yI Y 1 k = (pF k : Nat) ∧ yI Y 2 k = (pT k : Nat)) (hl : ∀ k, 3 ≤ k → L0 k = 0) (hi : ∀ k, 3 ≤ k → I0 k = fun _ => 0) (hend : ∀ (T L : Nat → Nat) (P : Nat → Nat → Option Nat) (I : Nat → Nat → Int) (hn cells slots : Nat) (ls : List (Option PV)), cells ≤ 600000 → slots ≤ 7302250 → RR X Y Q cells slots 753 ls [] T L P I hn) : RR X Y Q 0 0 0 [some (.inr (some 0)), none, none, none] [] (w0 L0 I0).1 (w0 L0 I0).2.1 (w0 L0 I0).2.2.1 (w0 L0 I0).2.2.2.1 (w0 L0 I0).2.2.2.2 := by
  refine r_nwM (M := w0 L0 I0) K dL_law_0 (by decide) n_L_7 (Nat.le_of_ble_eq_true rfl) (Nat.le_of_ble_eq_true rfl) (fun M1 e1 => ?_)
  have hq : M1.1 (3 + mH (w0 L0 I0)) = 7 ∧ 3 + mH (w0 L0 I0) < 3 + mH M1 := ⟨(nw_T e1).1, by rw [(fr_nw (x := 0) e1).1]; omega⟩
  refine r_dup K dL_law_3 ?_
  refine rcI0g K dL_law_4 c_L_9 i_X7_init (kM_X7 (M := M1) hq.1 hq.2) (by decide) (Nat.le_of_ble_eq_true rfl) ?_
  rintro _ T1 L1 P1 I1 n1 ⟨rfl, hM⟩
  refine mm_rr hM (fun M2 e2 => ?_)
  have h51 : mH M2 = 51 := by rw [e2, e1]; rfl
  refine r_astore_n K dL_law_7 (by decide) ?_
  refine r_nwM (M := M2) K dL_law_8 (by decide) n_L_10 (Nat.le_of_ble_eq_true rfl) (Nat.le_of_ble_eq_true rfl) (fun M3 e3 => ?_)
  have hq2 : M3.1 (3 + mH M2) = 8 ∧ 3 + mH M2 < 3 + mH M3 := ⟨(nw_T e3).1, by rw [(fr_nw (x := 0) e3).1]; omega⟩
  refine r_dup K dL_law_11 ?_
  refine rcI0g K dL_law_12 c_L_12 i_X8_init (k_X8_init (M := M3) hq2.1 hq2.2) (by decide) (Nat.le_of_ble_eq_true rfl) ?_
  rintro _ T2 L2 P2 I2 n2 ⟨rfl, hM2⟩
  refine mm_rr hM2 (fun M4 e4 => ?_)
  rw [h51] at e4
  have eW : M4 = wAll L0 I0 := by rw [e4, e3, e2, e1]; rfl
  rw [h51, eW]
  refine r_astore_n K dL_law_15 (by decide) ?_
  refine r_iconst K dL_law_16 ?_
  refine r_istore_n K dL_law_17 (by decide) ?_
  refine rr_len (fun hlen => ?_)
  have hini := ini_CI hl hi ((hlen 1 (by decide)).trans hL1.1) ((hlen 2 (by decide)).trans hL1.2)
  exact law_loop K hL hT hend 513 0 _ _ _ _ _ _ _ _ rfl rfl hini.1 hini.2 (by decide) (by decide)
end LOO
