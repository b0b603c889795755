section WOR
/-- alike but for the script and the tables -/
def sim (M M' : Mm) : Prop := M.1 = M'.1 ∧ M.2.2.1 = M'.2.2.1 ∧ mH M = mH M' ∧ (∀ k, 3 ≤ k → M.2.1 k = M'.2.1 k)
theorem sim_nw {t n : Nat} {M M' : Mm} (h : sim M M') : sim (nw t n M) (nw t n M') := by
  obtain ⟨h1, h2, h3, h4⟩ := h
  refine ⟨?_, ?_, ?_, fun k hk => ?_⟩
  · show va_up M.1 (3 + mH M) t = va_up M'.1 (3 + mH M') t; rw [h1, h3]
  · show va_up M.2.2.1 (3 + mH M) (fun _ => none) = va_up M'.2.2.1 (3 + mH M') (fun _ => none); rw [h2, h3]
  · show mH M + 1 = mH M' + 1; rw [h3]
  · show va_up M.2.1 (3 + mH M) n k = va_up M'.2.1 (3 + mH M') n k
    rw [h3, va_up, va_up, h4 k hk]
theorem sim_pr {k fi q k' q' : Nat} {M M' : Mm} (hk : k = k') (hq : q = q') (h : sim M M') : sim (pr k fi q M) (pr k' fi q' M') := by
  subst hk hq
  obtain ⟨h1, h2, h3, h4⟩ := h
  refine ⟨h1, ?_, h3, h4⟩
  show mP M.2.2.1 k fi (some q) = mP M'.2.2.1 k fi (some q); rw [h2]
theorem sim_na {k fi t n k' : Nat} {M M' : Mm} (hk : k = k') (h : sim M M') : sim (na k fi t n M) (na k' fi t n M') := sim_pr hk (by rw [h.2.2.1]) (sim_nw h)
theorem sim_t {a a' : Nat} {M M' : Mm} (ha : a = a') (h : sim M M') : sim (tIni a M) (tIni a' M') := sim_na ha (sim_na ha (sim_na ha h))
theorem sim_p {a a' : Nat} {M M' : Mm} (ha : a = a') (h : sim M M') : sim (pIni a M) (pIni a' M') := sim_na ha (sim_na ha (sim_na ha (sim_na ha h)))
theorem sim_f {a a' : Nat} {M M' : Mm} (ha : a = a') (h : sim M M') : sim (fIni a M) (fIni a' M') := sim_na ha (sim_na ha (sim_na ha h))
theorem sim_n {a a' : Nat} {M M' : Mm} (ha : a = a') (h : sim M M') : sim (nIni a M) (nIni a' M') := sim_na ha (sim_na ha (sim_na ha (sim_na ha (sim_na ha (sim_na ha (sim_na ha h))))))
theorem hq_ {M M' : Mm} (h : sim M M') : 3 + mH M = 3 + mH M' := by rw [h.2.2.1]
theorem sim_B {a a' fi N : Nat} {M M' : Mm} (ha : a = a') (h : sim M M') : sim (oB a fi N M) (oB a' fi N M') := sim_pr ha (hq_ h) (sim_na (hq_ h) (sim_nw h))
theorem sim_T {a a' fi : Nat} {M M' : Mm} (ha : a = a') (h : sim M M') : sim (oT a fi M) (oT a' fi M') := sim_pr ha (hq_ h) (sim_t (hq_ h) (sim_nw h))
theorem sim_P {a a' fi : Nat} {M M' : Mm} (ha : a = a') (h : sim M M') : sim (oP a fi M) (oP a' fi M') := sim_pr ha (hq_ h) (sim_p (hq_ h) (sim_nw h))
theorem sim_F {a a' fi : Nat} {M M' : Mm} (ha : a = a') (h : sim M M') : sim (oF a fi M) (oF a' fi M') := sim_pr ha (hq_ h) (sim_f (hq_ h) (sim_nw h))
theorem sim_N {a a' fi : Nat} {M M' : Mm} (ha : a = a') (h : sim M M') : sim (oN a fi M) (oN a' fi M') := sim_pr ha (hq_ h) (sim_n (hq_ h) (sim_nw h))
theorem sim_d {a a' : Nat} {M M' : Mm} (ha : a = a') (h : sim M M') : sim (dIni a M) (dIni a' M') := sim_na ha (sim_na ha (sim_T ha (sim_B ha h)))
theorem sim_s {a a' : Nat} {M M' : Mm} (ha : a = a') (h : sim M M') : sim (sIni a M) (sIni a' M') := sim_B (hq_ h) (sim_B (hq_ h) (sim_B (hq_ h) (sim_B (hq_ h) (sim_B (hq_ h) (sim_N ha (sim_na ha (sim_na ha (sim_na ha h))))))))
theorem sim_D {a a' fi : Nat} {M M' : Mm} (ha : a = a') (h : sim M M') : sim (oD a fi M) (oD a' fi M') := sim_pr ha (hq_ h) (sim_d (hq_ h) (sim_nw h))
theorem sim_S {a a' fi : Nat} {M M' : Mm} (ha : a = a') (h : sim M M') : sim (oS a fi M) (oS a' fi M') := sim_pr ha (hq_ h) (sim_s (hq_ h) (sim_nw h))
theorem sim_b {a a' : Nat} {M M' : Mm} (ha : a = a') (h : sim M M') : sim (bIni a M) (bIni a' M') := sim_F ha (sim_D ha (sim_P ha (sim_T ha (sim_T ha (sim_S ha (sim_B ha h))))))
theorem sim_m {a a' : Nat} {M M' : Mm} (ha : a = a') (h : sim M M') : sim (mIni a M) (mIni a' M') := sim_na ha (sim_na ha (sim_na ha (sim_na ha (sim_na ha (sim_na ha (sim_na ha (sim_na ha (sim_na ha (sim_na ha (sim_na ha (sim_na ha (sim_na ha (sim_na ha (sim_na ha (sim_na ha (sim_na ha (sim_na ha (sim_na ha (sim_na ha (sim_na ha (sim_na ha (sim_na ha (sim_na ha (sim_na ha (sim_na ha (sim_na ha (sim_na ha (sim_na ha (h)))))))))))))))))))))))))))))
/-- both constructors are through -/
def wAll (L : Nat → Nat) (I : Nat → Nat → Int) : Mm := mIni 54 (nw 8 0 (bIni 3 (nw 7 0 (w0 L I))))
def wC : Mm := wAll (fun _ => 0) (fun _ _ => 0)
theorem wC_T : ∀ k : Fin 84, wC.1 k.val = wT.getD k.val 0 := by decide +kernel
theorem wC_L : ∀ k : Fin 84, wC.2.1 k.val = if k.val < 3 then 0 else wL.getD k.val 0 := by decide +kernel
theorem wC_P : ∀ k : Fin 84, ∀ i : Fin 41, (∀ q, (wP k.val)[i.val]? = some (some q) → wC.2.2.1 k.val i.val = some q) := by
  have h : ∀ k : Fin 84, ∀ i : Fin 41, (match (wP k.val)[i.val]? with | some (some q) => decide (wC.2.2.1 k.val i.val = some q) | _ => true) = true := by decide +kernel
  intro k i q hq
  have := h k i
  rw [hq] at this
  exact of_decide_eq_true this
theorem wC_l : (∀ k : Fin 84, (wP k.val).length ≤ 41) ∧ wT.length = 84 ∧ wL.length = 84 := by decide +kernel
theorem wC_h : mH wC = 81 := by decide +kernel
theorem sim_w (L : Nat → Nat) (I : Nat → Nat → Int) : sim (wAll L I) (wAll (fun k => if k < 3 then 0 else L k) (fun _ _ => 0)) := sim_m rfl (sim_nw (sim_b rfl (sim_nw ⟨rfl, rfl, rfl, fun k hk => by show L k = if k < 3 then 0 else L k; rw [if_neg (by omega)]⟩)))
/-- numbers of new cells are 0 -/
def zI (I : Nat → Nat → Int) (M : Mm) : Prop := ∀ k, (k < 3 → M.2.2.2.1 k = I k) ∧ (3 ≤ k → M.2.2.2.1 k = fun _ => 0)
theorem zI_nw {I : Nat → Nat → Int} {t n : Nat} {M : Mm} (h : zI I M) : zI I (nw t n M) := fun k => by
  refine ⟨fun hk => ?_, fun hk => ?_⟩
  · show va_up M.2.2.2.1 (3 + mH M) (fun _ => 0) k = _; rw [va_up, if_neg (by omega)]; exact (h k).1 hk
  · show va_up M.2.2.2.1 (3 + mH M) (fun _ => 0) k = _; rw [va_up]; split; rfl; exact (h k).2 hk
theorem zI_pr {I : Nat → Nat → Int} {k fi q : Nat} {M : Mm} (h : zI I M) : zI I (pr k fi q M) := h
theorem zI_na {I : Nat → Nat → Int} {k fi t n : Nat} {M : Mm} (h : zI I M) : zI I (na k fi t n M) := zI_pr (zI_nw h)
theorem zI_t {I : Nat → Nat → Int} {a : Nat} {M : Mm} (h : zI I M) : zI I (tIni a M) := zI_na (zI_na (zI_na h))
theorem zI_p {I : Nat → Nat → Int} {a : Nat} {M : Mm} (h : zI I M) : zI I (pIni a M) := zI_na (zI_na (zI_na (zI_na h)))
theorem zI_n {I : Nat → Nat → Int} {a : Nat} {M : Mm} (h : zI I M) : zI I (nIni a M) := zI_na (zI_na (zI_na (zI_na (zI_na (zI_na (zI_na h))))))
theorem zI_B {I : Nat → Nat → Int} {a fi N : Nat} {M : Mm} (h : zI I M) : zI I (oB a fi N M) := zI_pr (zI_na (zI_nw h))
theorem zI_T {I : Nat → Nat → Int} {a fi : Nat} {M : Mm} (h : zI I M) : zI I (oT a fi M) := zI_pr (zI_t (zI_nw h))
theorem zI_b {I : Nat → Nat → Int} {a : Nat} {M : Mm} (h : zI I M) : zI I (bIni a M) := by
  have h1 : zI I (oB a 0 200 M) := zI_B h
  have h2 : zI I (oS a 1 (oB a 0 200 M)) := zI_pr (zI_B (zI_B (zI_B (zI_B (zI_B (zI_pr (zI_n (zI_nw (zI_na (zI_na (zI_na (zI_nw h1))))))))))))
  have h3 : zI I (oT a 3 (oT a 2 (oS a 1 (oB a 0 200 M)))) := zI_T (zI_T h2)
  have h4 : zI I (oP a 4 (oT a 3 (oT a 2 (oS a 1 (oB a 0 200 M))))) := zI_pr (zI_p (zI_nw h3))
  have h5 : zI I (oD a 5 (oP a 4 (oT a 3 (oT a 2 (oS a 1 (oB a 0 200 M)))))) := zI_pr (zI_na (zI_na (zI_T (zI_B (zI_nw h4)))))
  exact zI_pr (zI_na (zI_na (zI_na (zI_nw h5))))
theorem zI_w {L : Nat → Nat} {I : Nat → Nat → Int} (h : ∀ k, 3 ≤ k → I k = fun _ => 0) : zI I (wAll L I) := by
  have h1 : zI I (nw 8 0 (bIni 3 (nw 7 0 (w0 L I)))) := zI_nw (zI_b (zI_nw (fun k => ⟨fun _ => rfl, h k⟩)))
  exact zI_na (zI_na (zI_na (zI_na (zI_na (zI_na (zI_na (zI_na (zI_na (zI_na (zI_na (zI_na (zI_na (zI_na (zI_na (zI_na (zI_na (zI_na (zI_na (zI_na (zI_na (zI_na (zI_na (zI_na (zI_na (zI_na (zI_na (zI_na (zI_na (h1)))))))))))))))))))))))))))))
theorem w_sim {L : Nat → Nat} (h : ∀ k, 3 ≤ k → L k = 0) (I : Nat → Nat → Int) : sim (wAll L I) wC := by
  have e : (fun k => if k < 3 then 0 else L k) = fun _ => 0 := by
    funext k
    by_cases hk : k < 3
    · rw [if_pos hk]
    · rw [if_neg hk]; exact h k (by omega)
  have := sim_w L I
  rw [e] at this
  exact this
theorem w_Wd {L : Nat → Nat} {I : Nat → Nat → Int} (h : ∀ k, 3 ≤ k → L k = 0) (h1 : (wAll L I).2.1 1 = 10) (h2 : (wAll L I).2.1 2 = 10) : Wd (wAll L I).1 (wAll L I).2.1 (wAll L I).2.2.1 := by
  obtain ⟨s1, s2, s3, s4⟩ := w_sim h I
  refine ⟨fun k t hk => ?_, fun k n hk h3 => ?_, fun k i q hq => ?_, h1, h2⟩
  · have hl : k < 84 := by have := (List.getElem?_eq_some_iff.mp hk).1; rw [wC_l.2.1] at this; exact this
    rw [s1, wC_T ⟨k, hl⟩]
    show wT.getD k 0 = t
    rw [List.getD_eq_getElem?_getD, hk]; rfl
  · have hl : k < 84 := by have := (List.getElem?_eq_some_iff.mp hk).1; rw [wC_l.2.2] at this; exact this
    rw [s4 k h3, wC_L ⟨k, hl⟩]
    show (if k < 3 then 0 else wL.getD k 0) = n
    rw [if_neg (by omega), List.getD_eq_getElem?_getD, hk]; rfl
  · by_cases hk : k < 84
    · have hi : i < 41 := by
        have := (List.getElem?_eq_some_iff.mp hq).1
        have := wC_l.1 ⟨k, hk⟩
        simp only at this
        omega
      rw [s2]
      exact wC_P ⟨k, hk⟩ ⟨i, hi⟩ q hq
    · exfalso
      have e : wP k = [] := by
        unfold wP
        split <;> first | rfl | omega
      rw [e] at hq
      cases hq
theorem wC_8 : ∀ j : Fin 25, wC.2.2.1 8 j.val = none := by decide +kernel
end WOR
