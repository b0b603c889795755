section LAW
variable {X : Cx} {Y : SY} {Q : State → Prop} {nm : String} {T L : Nat → Nat} {P : Nat → Nat → Option Nat} {I : Nat → Nat → Int} {hn cells slots pc n i : Nat} {ls : List (Option PV)} {st : List PV}
/-- the script and the tables are as they were -/
def lowE (Y : SY) (L : Nat → Nat) (I : Nat → Nat → Int) : Prop := L 0 = yL Y 0 ∧ (∀ j, I 0 j = yI Y 0 j) ∧ (∀ j, I 1 j = yI Y 1 j) ∧ ∀ j, I 2 j = yI Y 2 j
theorem rr_low (h : lowE Y L I → RR X Y Q cells slots pc ls st T L P I hn) : RR X Y Q cells slots pc ls st T L P I hn := fun H locs la hH hS hL hV => h ⟨(hH.2.2.2.2.2 0 (by decide)).2.1, (hH.2.2.2.2.2 0 (by decide)).2.2, (hH.2.2.2.2.2 1 (by decide)).2.2, (hH.2.2.2.2.2 2 (by decide)).2.2⟩ H locs la hH hS hL hV
abbrev KW (X : Cx) (Y : SY) (nm : String) : Prop := OK X Y cL_law RL 4 (some .boolean) (rm_ 10 376 600000 7302250) nm
abbrev LX (i : Nat) : List (Option PV) := [some (.inr (some 0)), some (.inr (some 3)), some (.inr (some 54)), some (.inl (i : Int))]
/-- the script has another call behind this one -/
def nxt (X : Cx) (Y : SY) (Q : State → Prop) (n i cells slots : Nat) : Prop := ∀ (T L : Nat → Nat) (P : Nat → Nat → Option Nat) (I : Nat → Nat → Int) (hn cells' slots' : Nat), CI T L P I hn → RI (n + 1) I → cells' ≤ cells + 50 → slots' ≤ slots + 4860 → RR X Y Q cells' slots' 747 [some (.inr (some 0)), some (.inr (some 3)), some (.inr (some 54)), some (.inl (i : Int))] [] T L P I hn
/-- what holds at each call -/
def CK (Y : SY) (n i cells slots : Nat) : Prop := i + 6 ≤ yL Y 0 ∧ yL Y 0 ≤ 3072 ∧ n ≤ 512 ∧ cells + 60 ≤ 600000 ∧ slots + 5000 ≤ 7302250 ∧ ∀ k, k < 10 → yI Y 1 k = (pF k : Nat) ∧ yI Y 2 k = (pT k : Nat)
theorem lowE.tb (h : lowE Y L I) (h2 : CK Y n i cells slots) : Tb I := fun k hk => by rw [h.2.2.1, h.2.2.2]; exact h2.2.2.2.2.2 k hk
theorem RI.db (h : RI n I) : I 41 9 ≠ 0 → DB I := fun w => (h.2.2.2.1.1.2.2.2.2.2.1 w).1
theorem RI.dvm (h : RI n I) : dvM I := fun v hv => by have q := h.2.2.2.2.1 v hv; exact ⟨by rw [q.1]; exact q.2.1, q.2.2⟩
set_option maxHeartbeats 4000000 in
set_option maxRecDepth 100000 in
theorem lc_0 (K : KW X Y nm) (hC : CI T L P I hn) (hR : RI n I) (hk : CK Y n i cells slots) (next : nxt X Y Q n i cells slots) : RR X Y Q cells slots 124 [some (.inr (some 0)), some (.inr (some 3)), some (.inr (some 54)), some (.inl (i : Int))] [] T L P I hn := by
  refine rr_low (fun e => ?_)
  obtain ⟨k1, k2, k3, k4, k5, k6⟩ := id hk
  have hW := hC.1
  have eL := e.1
  obtain ⟨c, t1, t2, t3⟩ := hR.1.1
  refine r_aload_n K dL_law_124 rfl ?_
  refine r_aload_n K dL_law_125 rfl ?_
  refine r_iload_n K dL_law_126 rfl ?_
  refine r_iconst K dL_law_127 ?_
  refine r_iadd K dL_law_128 ?_
  refine r_oald K dL_law_129 (by decide) (by omega) (by omega) ?_
  rw [e.2.1]
  refine r_aload_n K dL_law_130 rfl ?_
  refine r_iload_n K dL_law_131 rfl ?_
  refine r_iconst K dL_law_132 ?_
  refine r_iadd K dL_law_133 ?_
  refine r_oald K dL_law_134 (by decide) (by omega) (by omega) ?_
  rw [e.2.1]
  refine r_aload_n K dL_law_135 rfl ?_
  refine r_iload_n K dL_law_136 rfl ?_
  refine r_iconst K dL_law_137 ?_
  refine r_iadd K dL_law_138 ?_
  refine r_oald K dL_law_139 (by decide) (by omega) (by omega) ?_
  rw [e.2.1]
  refine r_aload_n K dL_law_140 rfl ?_
  refine r_iload_n K dL_law_141 rfl ?_
  refine r_iconst K dL_law_142 ?_
  refine r_iadd K dL_law_143 ?_
  refine r_oald K dL_law_144 (by decide) (by omega) (by omega) ?_
  rw [e.2.1]
  refine r_aload_n K dL_law_145 rfl ?_
  refine r_iload_n K dL_law_146 rfl ?_
  refine r_iconst K dL_law_147 ?_
  refine r_iadd K dL_law_148 ?_
  refine r_oald K dL_law_149 (by decide) (by omega) (by omega) ?_
  rw [e.2.1]
  refine rcV5i K dL_law_150 c_L_13 v_X7_feed (by first | assumption | exact hW.1 _ _ rfl | exact hW.2.2.1 _ _ _ rfl) (k_X7_feed (c := c) hW t1 t3) ⟨Nat.le_of_ble_eq_true rfl, Nat.le_of_ble_eq_true rfl, (by show _ ≤ 600000; omega), (by show _ ≤ 7302250; omega)⟩ (Nat.le_of_ble_eq_true rfl) ?_
  rintro r1 J1 h1
  obtain ⟨z1, rfl⟩ : ∃ z, r1 = some (.inl z) := by
    rcases h1 with ⟨-, h, -⟩ | ⟨-, h, -⟩ <;> exact ⟨_, h⟩
  have hfr : ∀ k, k ≠ 4 → k ≠ 5 → J1 k = I k := fun k k1 k2 => by
    rcases h1 with ⟨-, -, h⟩ | ⟨-, -, h⟩
    · rw [h]
    · exact h.1 k k1 k2
  refine rr_low (fun f => ?_)
  have fL := f.1
  refine r_aload_n K dL_law_153 rfl ?_
  refine r_aload_n K dL_law_154 rfl ?_
  refine r_iload_n K dL_law_155 rfl ?_
  refine r_iconst K dL_law_156 ?_
  refine r_iadd K dL_law_157 ?_
  refine r_oald K dL_law_158 (by decide) (by omega) (by omega) ?_
  rw [f.2.1]
  refine r_aload_n K dL_law_159 rfl ?_
  refine r_iload_n K dL_law_160 rfl ?_
  refine r_iconst K dL_law_161 ?_
  refine r_iadd K dL_law_162 ?_
  refine r_oald K dL_law_163 (by decide) (by omega) (by omega) ?_
  rw [f.2.1]
  refine r_aload_n K dL_law_164 rfl ?_
  refine r_iload_n K dL_law_165 rfl ?_
  refine r_iconst K dL_law_166 ?_
  refine r_iadd K dL_law_167 ?_
  refine r_oald K dL_law_168 (by decide) (by omega) (by omega) ?_
  rw [f.2.1]
  refine r_aload_n K dL_law_169 rfl ?_
  refine r_iload_n K dL_law_170 rfl ?_
  refine r_iconst K dL_law_171 ?_
  refine r_iadd K dL_law_172 ?_
  refine r_oald K dL_law_173 (by decide) (by omega) (by omega) ?_
  rw [f.2.1]
  refine r_aload_n K dL_law_174 rfl ?_
  refine r_iload_n K dL_law_175 rfl ?_
  refine r_iconst K dL_law_176 ?_
  refine r_iadd K dL_law_177 ?_
  refine r_oald K dL_law_178 (by decide) (by omega) (by omega) ?_
  rw [f.2.1]
  refine rcV5i K dL_law_179 c_L_17 v_X8_feed (by first | assumption | exact hW.1 _ _ rfl | exact hW.2.2.1 _ _ _ rfl) (k_X8_feed (I := J1) (c := c) hW (by rw [hfr 54 (by decide) (by decide)]; exact t2) t3) ⟨Nat.le_of_ble_eq_true rfl, Nat.le_of_ble_eq_true rfl, (by show _ ≤ 600000; omega), (by show _ ≤ 7302250; omega)⟩ (Nat.le_of_ble_eq_true rfl) ?_
  rintro r2 J2 h2
  obtain ⟨z2, rfl⟩ : ∃ z, r2 = some (.inl z) := by
    rcases h2 with ⟨-, h, -⟩ | ⟨-, h, -⟩ <;> exact ⟨_, h⟩
  have hz := sm_feed hR t1 h1 h2
  refine r_icmp_eq K 747 dL_law_182 (by decide) (fun c182 => ?_) (fun c182 => ?_)
  · exact next _ _ _ _ _ _ _ (hC.cong hz.2.2) (hz.2.1) (by omega) (by omega)
  · exact absurd hz.1 c182
set_option maxHeartbeats 4000000 in
set_option maxRecDepth 100000 in
theorem lc_1 (K : KW X Y nm) (hC : CI T L P I hn) (hR : RI n I) (hk : CK Y n i cells slots) (next : nxt X Y Q n i cells slots) : RR X Y Q cells slots 187 [some (.inr (some 0)), some (.inr (some 3)), some (.inr (some 54)), some (.inl (i : Int))] [] T L P I hn := by
  refine rr_low (fun e => ?_)
  obtain ⟨k1, k2, k3, k4, k5, k6⟩ := id hk
  have hW := hC.1
  have eL := e.1
  obtain ⟨c, t1, t2, t3⟩ := hR.1.1
  have t5 : ∀ j, j < 200 → 0 ≤ I 5 j ∧ I 5 j < 256 := fun j hj => by rw [← hR.1.2.1 j hj]; exact ⟨Int.emod_nonneg _ (by decide), Int.emod_lt_of_pos _ (by decide)⟩
  refine r_aload_n K dL_law_187 rfl ?_
  refine r_aload_n K dL_law_188 rfl ?_
  refine r_iload_n K dL_law_189 rfl ?_
  refine r_iconst K dL_law_190 ?_
  refine r_iadd K dL_law_191 ?_
  refine r_oald K dL_law_192 (by decide) (by omega) (by omega) ?_
  rw [e.2.1]
  refine r_aload_n K dL_law_193 rfl ?_
  refine r_iload_n K dL_law_194 rfl ?_
  refine r_iconst K dL_law_195 ?_
  refine r_iadd K dL_law_196 ?_
  refine r_oald K dL_law_197 (by decide) (by omega) (by omega) ?_
  rw [e.2.1]
  refine rcV2i K dL_law_198 c_L_18 v_X7_version (by first | assumption | exact hW.1 _ _ rfl | exact hW.2.2.1 _ _ _ rfl) (k_X7_version hC (by omega) t5) ⟨Nat.le_of_ble_eq_true rfl, Nat.le_of_ble_eq_true rfl, (by show _ ≤ 600000; omega), (by show _ ≤ 7302250; omega)⟩ (Nat.le_of_ble_eq_true rfl) ?_
  rintro r1 J1 h1
  obtain ⟨z1, rfl⟩ : ∃ z, r1 = some (.inl z) := by
    rcases h1 with ⟨-, h, -⟩ | ⟨-, h, -⟩ <;> exact ⟨_, h⟩
  have hfr : J1 54 = I 54 ∧ J1 55 = I 55 := by
    rcases h1 with ⟨-, -, h⟩ | ⟨g, -, h⟩
    · rw [h]; exact ⟨rfl, rfl⟩
    · exact ⟨h.2.1 54 (by decide) (by decide) (by omega) (by omega), h.2.1 55 (by decide) (by decide) (by omega) (by omega)⟩
  refine rr_low (fun f => ?_)
  have fL := f.1
  refine r_aload_n K dL_law_201 rfl ?_
  refine r_aload_n K dL_law_202 rfl ?_
  refine r_iload_n K dL_law_203 rfl ?_
  refine r_iconst K dL_law_204 ?_
  refine r_iadd K dL_law_205 ?_
  refine r_oald K dL_law_206 (by decide) (by omega) (by omega) ?_
  rw [f.2.1]
  refine r_aload_n K dL_law_207 rfl ?_
  refine r_iload_n K dL_law_208 rfl ?_
  refine r_iconst K dL_law_209 ?_
  refine r_iadd K dL_law_210 ?_
  refine r_oald K dL_law_211 (by decide) (by omega) (by omega) ?_
  rw [f.2.1]
  refine rcV2i K dL_law_212 c_L_22 v_X8_version (by first | assumption | exact hW.1 _ _ rfl | exact hW.2.2.1 _ _ _ rfl) (k_X8_version (I := J1) hW (by rw [hfr.1]; omega) (by rw [hfr.2]; exact hR.1.2.2)) ⟨Nat.le_of_ble_eq_true rfl, Nat.le_of_ble_eq_true rfl, (by show _ ≤ 600000; omega), (by show _ ≤ 7302250; omega)⟩ (Nat.le_of_ble_eq_true rfl) ?_
  rintro r2 J2 h2
  obtain ⟨z2, rfl⟩ : ∃ z, r2 = some (.inl z) := by
    rcases h2 with ⟨-, h, -⟩ | ⟨-, h, -⟩ <;> exact ⟨_, h⟩
  have hz := sm_version hR hC h1 h2
  refine r_icmp_eq K 747 dL_law_215 (by decide) (fun c215 => ?_) (fun c215 => ?_)
  · exact next _ _ _ _ _ _ _ (hz.2.2) (hz.2.1) (by omega) (by omega)
  · exact absurd hz.1 c215
set_option maxHeartbeats 4000000 in
set_option maxRecDepth 100000 in
theorem lc_2 (K : KW X Y nm) (hC : CI T L P I hn) (hR : RI n I) (hk : CK Y n i cells slots) (next : nxt X Y Q n i cells slots) : RR X Y Q cells slots 220 [some (.inr (some 0)), some (.inr (some 3)), some (.inr (some 54)), some (.inl (i : Int))] [] T L P I hn := by
  refine rr_low (fun e => ?_)
  obtain ⟨k1, k2, k3, k4, k5, k6⟩ := id hk
  have hW := hC.1
  have eL := e.1
  refine r_aload_n K dL_law_220 rfl ?_
  refine r_aload_n K dL_law_221 rfl ?_
  refine r_iload_n K dL_law_222 rfl ?_
  refine r_iconst K dL_law_223 ?_
  refine r_iadd K dL_law_224 ?_
  refine r_oald K dL_law_225 (by decide) (by omega) (by omega) ?_
  rw [e.2.1]
  refine r_aload_n K dL_law_226 rfl ?_
  refine r_iload_n K dL_law_227 rfl ?_
  refine r_iconst K dL_law_228 ?_
  refine r_iadd K dL_law_229 ?_
  refine r_oald K dL_law_230 (by decide) (by omega) (by omega) ?_
  rw [e.2.1]
  refine rcV2p K dL_law_231 c_L_23 v_X7_told (by first | assumption | exact hW.1 _ _ rfl | exact hW.2.2.1 _ _ _ rfl) (k_X7_told hW) ⟨Nat.le_of_ble_eq_true rfl, Nat.le_of_ble_eq_true rfl, (by show _ ≤ 600000; omega), (by show _ ≤ 7302250; omega)⟩ (Nat.le_of_ble_eq_true rfl) ?_
  refine r_aload_n K dL_law_234 rfl ?_
  refine r_aload_n K dL_law_235 rfl ?_
  refine r_iload_n K dL_law_236 rfl ?_
  refine r_iconst K dL_law_237 ?_
  refine r_iadd K dL_law_238 ?_
  refine r_oald K dL_law_239 (by decide) (by omega) (by omega) ?_
  rw [e.2.1]
  refine r_aload_n K dL_law_240 rfl ?_
  refine r_iload_n K dL_law_241 rfl ?_
  refine r_iconst K dL_law_242 ?_
  refine r_iadd K dL_law_243 ?_
  refine r_oald K dL_law_244 (by decide) (by omega) (by omega) ?_
  rw [e.2.1]
  refine rcV2p K dL_law_245 c_L_26 v_X8_told (by first | assumption | exact hW.1 _ _ rfl | exact hW.2.2.1 _ _ _ rfl) (k_X8_told hW hR.2.1.1) ⟨Nat.le_of_ble_eq_true rfl, Nat.le_of_ble_eq_true rfl, (by show _ ≤ 600000; omega), (by show _ ≤ 7302250; omega)⟩ (Nat.le_of_ble_eq_true rfl) ?_
  refine r_icmp_eq K 747 dL_law_248 (by decide) (fun c248 => ?_) (fun c248 => ?_)
  · exact next _ _ _ _ _ _ _ (hC) (hR.up) (by omega) (by omega)
  · exact absurd (eq_told hR _ _) c248
set_option maxHeartbeats 4000000 in
set_option maxRecDepth 100000 in
theorem lc_3 (K : KW X Y nm) (hC : CI T L P I hn) (hR : RI n I) (hk : CK Y n i cells slots) (next : nxt X Y Q n i cells slots) : RR X Y Q cells slots 253 [some (.inr (some 0)), some (.inr (some 3)), some (.inr (some 54)), some (.inl (i : Int))] [] T L P I hn := by
  refine rr_low (fun e => ?_)
  obtain ⟨k1, k2, k3, k4, k5, k6⟩ := id hk
  have hW := hC.1
  have eL := e.1
  refine r_aload_n K dL_law_253 rfl ?_
  refine r_aload_n K dL_law_254 rfl ?_
  refine r_iload_n K dL_law_255 rfl ?_
  refine r_iconst K dL_law_256 ?_
  refine r_iadd K dL_law_257 ?_
  refine r_oald K dL_law_258 (by decide) (by omega) (by omega) ?_
  rw [e.2.1]
  refine rcV1p K dL_law_259 c_L_27 v_X7_check (by first | assumption | exact hW.1 _ _ rfl | exact hW.2.2.1 _ _ _ rfl) (k_X7_check hW hC.2.2.1) ⟨Nat.le_of_ble_eq_true rfl, Nat.le_of_ble_eq_true rfl, (by show _ ≤ 600000; omega), (by show _ ≤ 7302250; omega)⟩ (Nat.le_of_ble_eq_true rfl) ?_
  refine r_aload_n K dL_law_262 rfl ?_
  refine r_aload_n K dL_law_263 rfl ?_
  refine r_iload_n K dL_law_264 rfl ?_
  refine r_iconst K dL_law_265 ?_
  refine r_iadd K dL_law_266 ?_
  refine r_oald K dL_law_267 (by decide) (by omega) (by omega) ?_
  rw [e.2.1]
  refine rcV1p K dL_law_268 c_L_31 v_X8_check (by first | assumption | exact hW.1 _ _ rfl | exact hW.2.2.1 _ _ _ rfl) (k_X8_check hW hR.2.1.1) ⟨Nat.le_of_ble_eq_true rfl, Nat.le_of_ble_eq_true rfl, (by show _ ≤ 600000; omega), (by show _ ≤ 7302250; omega)⟩ (Nat.le_of_ble_eq_true rfl) ?_
  refine r_icmp_eq K 747 dL_law_271 (by decide) (fun c271 => ?_) (fun c271 => ?_)
  · exact next _ _ _ _ _ _ _ (hC) (hR.up) (by omega) (by omega)
  · exact absurd (eq_check hR _) c271
set_option maxHeartbeats 4000000 in
set_option maxRecDepth 100000 in
theorem lc_4 (K : KW X Y nm) (hC : CI T L P I hn) (hR : RI n I) (hk : CK Y n i cells slots) (next : nxt X Y Q n i cells slots) : RR X Y Q cells slots 276 [some (.inr (some 0)), some (.inr (some 3)), some (.inr (some 54)), some (.inl (i : Int))] [] T L P I hn := by
  refine rr_low (fun e => ?_)
  obtain ⟨k1, k2, k3, k4, k5, k6⟩ := id hk
  have hW := hC.1
  have eL := e.1
  refine r_aload_n K dL_law_276 rfl ?_
  refine r_aload_n K dL_law_277 rfl ?_
  refine r_iload_n K dL_law_278 rfl ?_
  refine r_iconst K dL_law_279 ?_
  refine r_iadd K dL_law_280 ?_
  refine r_oald K dL_law_281 (by decide) (by omega) (by omega) ?_
  rw [e.2.1]
  refine r_aload_n K dL_law_282 rfl ?_
  refine r_iload_n K dL_law_283 rfl ?_
  refine r_iconst K dL_law_284 ?_
  refine r_iadd K dL_law_285 ?_
  refine r_oald K dL_law_286 (by decide) (by omega) (by omega) ?_
  rw [e.2.1]
  refine rcV2g K dL_law_287 c_L_32 v_X7_cost (by first | assumption | exact hW.1 _ _ rfl | exact hW.2.2.1 _ _ _ rfl) (k_X7_cost hC) ⟨Nat.le_of_ble_eq_true rfl, Nat.le_of_ble_eq_true rfl, (by show _ ≤ 600000; omega), (by show _ ≤ 7302250; omega)⟩ (Nat.le_of_ble_eq_true rfl) ?_
  rintro _ T1 L1 P1 J1 n1 ⟨hC1, hfr, rfl⟩
  have hW := hC1.1
  have hR1 : RI n J1 := hR.cong (Nat.le_refl n) (same_a hfr)
  refine rr_low (fun f => ?_)
  have fL := f.1
  refine r_aload_n K dL_law_290 rfl ?_
  refine r_aload_n K dL_law_291 rfl ?_
  refine r_iload_n K dL_law_292 rfl ?_
  refine r_iconst K dL_law_293 ?_
  refine r_iadd K dL_law_294 ?_
  refine r_oald K dL_law_295 (by decide) (by omega) (by omega) ?_
  rw [f.2.1]
  refine r_aload_n K dL_law_296 rfl ?_
  refine r_iload_n K dL_law_297 rfl ?_
  refine r_iconst K dL_law_298 ?_
  refine r_iadd K dL_law_299 ?_
  refine r_oald K dL_law_300 (by decide) (by omega) (by omega) ?_
  rw [f.2.1]
  refine rcV2i K dL_law_301 c_L_35 v_X8_cost (by first | assumption | exact hW.1 _ _ rfl | exact hW.2.2.1 _ _ _ rfl) (k_X8_cost (I := J1) hW hR1.2.1.1) ⟨Nat.le_of_ble_eq_true rfl, Nat.le_of_ble_eq_true rfl, (by show _ ≤ 600000; omega), (by show _ ≤ 7302250; omega)⟩ (Nat.le_of_ble_eq_true rfl) ?_
  rintro _ J2 ⟨rfl, h2⟩
  have hz := fun a b => sm_cost (a := a) (b := b) hR hfr h2
  refine r_icmp_eq K 747 dL_law_304 (by decide) (fun c304 => ?_) (fun c304 => ?_)
  · exact next _ _ _ _ _ _ _ (hC1.cong (hz 0 0).2.2) ((hz 0 0).2.1) (by omega) (by omega)
  · exact absurd (hz _ _).1 c304
set_option maxHeartbeats 4000000 in
set_option maxRecDepth 100000 in
theorem lc_5 (K : KW X Y nm) (hC : CI T L P I hn) (hR : RI n I) (hk : CK Y n i cells slots) (next : nxt X Y Q n i cells slots) : RR X Y Q cells slots 309 [some (.inr (some 0)), some (.inr (some 3)), some (.inr (some 54)), some (.inl (i : Int))] [] T L P I hn := by
  refine rr_low (fun e => ?_)
  obtain ⟨k1, k2, k3, k4, k5, k6⟩ := id hk
  have hW := hC.1
  have eL := e.1
  refine r_aload_n K dL_law_309 rfl ?_
  refine r_aload_n K dL_law_310 rfl ?_
  refine r_iload_n K dL_law_311 rfl ?_
  refine r_iconst K dL_law_312 ?_
  refine r_iadd K dL_law_313 ?_
  refine r_oald K dL_law_314 (by decide) (by omega) (by omega) ?_
  rw [e.2.1]
  refine r_aload_n K dL_law_315 rfl ?_
  refine r_iload_n K dL_law_316 rfl ?_
  refine r_iconst K dL_law_317 ?_
  refine r_iadd K dL_law_318 ?_
  refine r_oald K dL_law_319 (by decide) (by omega) (by omega) ?_
  rw [e.2.1]
  refine r_aload_n K dL_law_320 rfl ?_
  refine r_iload_n K dL_law_321 rfl ?_
  refine r_iconst K dL_law_322 ?_
  refine r_iadd K dL_law_323 ?_
  refine r_oald K dL_law_324 (by decide) (by omega) (by omega) ?_
  rw [e.2.1]
  refine r_aload_n K dL_law_325 rfl ?_
  refine r_iload_n K dL_law_326 rfl ?_
  refine r_iconst K dL_law_327 ?_
  refine r_iadd K dL_law_328 ?_
  refine r_oald K dL_law_329 (by decide) (by omega) (by omega) ?_
  rw [e.2.1]
  refine rcV4g K dL_law_330 c_L_36 v_X7_step (by first | assumption | exact hW.1 _ _ rfl | exact hW.2.2.1 _ _ _ rfl) (k_X7_step hC) ⟨Nat.le_of_ble_eq_true rfl, Nat.le_of_ble_eq_true rfl, (by show _ ≤ 600000; omega), (by show _ ≤ 7302250; omega)⟩ (Nat.le_of_ble_eq_true rfl) ?_
  rintro r1 T1 L1 P1 J1 n1 ⟨hC1, hfr, z1, rfl, hz1⟩
  have hW := hC1.1
  have hR1 : RI n J1 := hR.cong (Nat.le_refl n) (same_a hfr)
  refine rr_low (fun f => ?_)
  have fL := f.1
  refine r_aload_n K dL_law_333 rfl ?_
  refine r_aload_n K dL_law_334 rfl ?_
  refine r_iload_n K dL_law_335 rfl ?_
  refine r_iconst K dL_law_336 ?_
  refine r_iadd K dL_law_337 ?_
  refine r_oald K dL_law_338 (by decide) (by omega) (by omega) ?_
  rw [f.2.1]
  refine r_aload_n K dL_law_339 rfl ?_
  refine r_iload_n K dL_law_340 rfl ?_
  refine r_iconst K dL_law_341 ?_
  refine r_iadd K dL_law_342 ?_
  refine r_oald K dL_law_343 (by decide) (by omega) (by omega) ?_
  rw [f.2.1]
  refine r_aload_n K dL_law_344 rfl ?_
  refine r_iload_n K dL_law_345 rfl ?_
  refine r_iconst K dL_law_346 ?_
  refine r_iadd K dL_law_347 ?_
  refine r_oald K dL_law_348 (by decide) (by omega) (by omega) ?_
  rw [f.2.1]
  refine r_aload_n K dL_law_349 rfl ?_
  refine r_iload_n K dL_law_350 rfl ?_
  refine r_iconst K dL_law_351 ?_
  refine r_iadd K dL_law_352 ?_
  refine r_oald K dL_law_353 (by decide) (by omega) (by omega) ?_
  rw [f.2.1]
  refine rcV4i K dL_law_354 c_L_40 v_X8_step (by first | assumption | exact hW.1 _ _ rfl | exact hW.2.2.1 _ _ _ rfl) (k_X8_step (I := J1) hW hR1.2.1.1) ⟨Nat.le_of_ble_eq_true rfl, Nat.le_of_ble_eq_true rfl, (by show _ ≤ 600000; omega), (by show _ ≤ 7302250; omega)⟩ (Nat.le_of_ble_eq_true rfl) ?_
  rintro r2 J2 ⟨h2, z2, rfl, hz2⟩
  have hz := sm_step hR hfr hz1 h2 hz2
  refine r_icmp_eq K 747 dL_law_357 (by decide) (fun c357 => ?_) (fun c357 => ?_)
  · exact next _ _ _ _ _ _ _ (hC1.cong hz.2.2) (hz.2.1) (by omega) (by omega)
  · exact absurd hz.1 c357
set_option maxHeartbeats 4000000 in
set_option maxRecDepth 100000 in
theorem lc_6 (K : KW X Y nm) (hC : CI T L P I hn) (hR : RI n I) (hk : CK Y n i cells slots) (next : nxt X Y Q n i cells slots) : RR X Y Q cells slots 362 [some (.inr (some 0)), some (.inr (some 3)), some (.inr (some 54)), some (.inl (i : Int))] [] T L P I hn := by
  refine rr_low (fun e => ?_)
  obtain ⟨k1, k2, k3, k4, k5, k6⟩ := id hk
  have hW := hC.1
  have eL := e.1
  refine r_aload_n K dL_law_362 rfl ?_
  refine r_aload_n K dL_law_363 rfl ?_
  refine r_iload_n K dL_law_364 rfl ?_
  refine r_iconst K dL_law_365 ?_
  refine r_iadd K dL_law_366 ?_
  refine r_oald K dL_law_367 (by decide) (by omega) (by omega) ?_
  rw [e.2.1]
  refine r_aload_n K dL_law_368 rfl ?_
  refine r_iload_n K dL_law_369 rfl ?_
  refine r_iconst K dL_law_370 ?_
  refine r_iadd K dL_law_371 ?_
  refine r_oald K dL_law_372 (by decide) (by omega) (by omega) ?_
  rw [e.2.1]
  refine r_aload_n K dL_law_373 rfl ?_
  refine r_iload_n K dL_law_374 rfl ?_
  refine r_iconst K dL_law_375 ?_
  refine r_iadd K dL_law_376 ?_
  refine r_oald K dL_law_377 (by decide) (by omega) (by omega) ?_
  rw [e.2.1]
  refine rcV3g K dL_law_378 c_L_41 v_X7_melt (by first | assumption | exact hW.1 _ _ rfl | exact hW.2.2.1 _ _ _ rfl) (k_X7_melt hC) ⟨Nat.le_of_ble_eq_true rfl, Nat.le_of_ble_eq_true rfl, (by show _ ≤ 600000; omega), (by show _ ≤ 7302250; omega)⟩ (Nat.le_of_ble_eq_true rfl) ?_
  rintro r1 T1 L1 P1 J1 n1 ⟨hC1, h1⟩
  obtain ⟨z1, rfl⟩ : ∃ z, r1 = some (.inl z) := by
    rcases h1 with ⟨-, h, -⟩ | ⟨-, h, -⟩ <;> exact ⟨_, h⟩
  have hW := hC1.1
  have hV1 : MV J1 := by
    rcases h1 with ⟨-, -, h⟩ | ⟨-, -, h, -⟩
    · rw [h]; exact hR.2.1.1
    · exact hR.2.1.1.cong (h 56 (by decide) (by decide)) (h 57 (by decide) (by decide))
  refine rr_low (fun f => ?_)
  have fL := f.1
  refine r_aload_n K dL_law_381 rfl ?_
  refine r_aload_n K dL_law_382 rfl ?_
  refine r_iload_n K dL_law_383 rfl ?_
  refine r_iconst K dL_law_384 ?_
  refine r_iadd K dL_law_385 ?_
  refine r_oald K dL_law_386 (by decide) (by omega) (by omega) ?_
  rw [f.2.1]
  refine r_aload_n K dL_law_387 rfl ?_
  refine r_iload_n K dL_law_388 rfl ?_
  refine r_iconst K dL_law_389 ?_
  refine r_iadd K dL_law_390 ?_
  refine r_oald K dL_law_391 (by decide) (by omega) (by omega) ?_
  rw [f.2.1]
  refine r_aload_n K dL_law_392 rfl ?_
  refine r_iload_n K dL_law_393 rfl ?_
  refine r_iconst K dL_law_394 ?_
  refine r_iadd K dL_law_395 ?_
  refine r_oald K dL_law_396 (by decide) (by omega) (by omega) ?_
  rw [f.2.1]
  refine rcV3i K dL_law_397 c_L_45 v_X8_melt (by first | assumption | exact hW.1 _ _ rfl | exact hW.2.2.1 _ _ _ rfl) (k_X8_melt (I := J1) hW hV1) ⟨Nat.le_of_ble_eq_true rfl, Nat.le_of_ble_eq_true rfl, (by show _ ≤ 600000; omega), (by show _ ≤ 7302250; omega)⟩ (Nat.le_of_ble_eq_true rfl) ?_
  rintro r2 J2 h2
  obtain ⟨z2, rfl⟩ : ∃ z, r2 = some (.inl z) := by
    rcases h2 with ⟨-, h, -⟩ | ⟨-, z, h, -⟩ <;> exact ⟨_, h⟩
  have hz := sm_melt hR h1 h2
  refine r_icmp_eq K 747 dL_law_400 (by decide) (fun c400 => ?_) (fun c400 => ?_)
  · exact next _ _ _ _ _ _ _ (hC1.cong hz.2.2) (hz.2.1) (by omega) (by omega)
  · exact absurd hz.1 c400
set_option maxHeartbeats 4000000 in
set_option maxRecDepth 100000 in
theorem lc_7 (K : KW X Y nm) (hC : CI T L P I hn) (hR : RI n I) (hk : CK Y n i cells slots) (next : nxt X Y Q n i cells slots) : RR X Y Q cells slots 405 [some (.inr (some 0)), some (.inr (some 3)), some (.inr (some 54)), some (.inl (i : Int))] [] T L P I hn := by
  refine rr_low (fun e => ?_)
  obtain ⟨k1, k2, k3, k4, k5, k6⟩ := id hk
  have hW := hC.1
  have eL := e.1
  refine r_aload_n K dL_law_405 rfl ?_
  refine r_aload_n K dL_law_406 rfl ?_
  refine r_iload_n K dL_law_407 rfl ?_
  refine r_iconst K dL_law_408 ?_
  refine r_iadd K dL_law_409 ?_
  refine r_oald K dL_law_410 (by decide) (by omega) (by omega) ?_
  rw [e.2.1]
  refine r_aload_n K dL_law_411 rfl ?_
  refine r_iload_n K dL_law_412 rfl ?_
  refine r_iconst K dL_law_413 ?_
  refine r_iadd K dL_law_414 ?_
  refine r_oald K dL_law_415 (by decide) (by omega) (by omega) ?_
  rw [e.2.1]
  refine rcV2p K dL_law_416 c_L_46 v_X7_melted (by first | assumption | exact hW.1 _ _ rfl | exact hW.2.2.1 _ _ _ rfl) (k_X7_melted hW hR.2.2.1.2.2.1) ⟨Nat.le_of_ble_eq_true rfl, Nat.le_of_ble_eq_true rfl, (by show _ ≤ 600000; omega), (by show _ ≤ 7302250; omega)⟩ (Nat.le_of_ble_eq_true rfl) ?_
  refine r_aload_n K dL_law_419 rfl ?_
  refine r_aload_n K dL_law_420 rfl ?_
  refine r_iload_n K dL_law_421 rfl ?_
  refine r_iconst K dL_law_422 ?_
  refine r_iadd K dL_law_423 ?_
  refine r_oald K dL_law_424 (by decide) (by omega) (by omega) ?_
  rw [e.2.1]
  refine r_aload_n K dL_law_425 rfl ?_
  refine r_iload_n K dL_law_426 rfl ?_
  refine r_iconst K dL_law_427 ?_
  refine r_iadd K dL_law_428 ?_
  refine r_oald K dL_law_429 (by decide) (by omega) (by omega) ?_
  rw [e.2.1]
  refine rcV2p K dL_law_430 c_L_49 v_X8_melted (by first | assumption | exact hW.1 _ _ rfl | exact hW.2.2.1 _ _ _ rfl) (k_X8_melted hW (by rw [hR.2.2.1.1]; exact hR.2.2.1.2.1 |> fun h => ⟨h, hR.2.2.1.2.2.1⟩)) ⟨Nat.le_of_ble_eq_true rfl, Nat.le_of_ble_eq_true rfl, (by show _ ≤ 600000; omega), (by show _ ≤ 7302250; omega)⟩ (Nat.le_of_ble_eq_true rfl) ?_
  refine r_icmp_eq K 747 dL_law_433 (by decide) (fun c433 => ?_) (fun c433 => ?_)
  · exact next _ _ _ _ _ _ _ (hC) (hR.up) (by omega) (by omega)
  · exact absurd (eq_melted hR _ _) c433
set_option maxHeartbeats 4000000 in
set_option maxRecDepth 100000 in
theorem lc_8 (K : KW X Y nm) (hC : CI T L P I hn) (hR : RI n I) (hk : CK Y n i cells slots) (next : nxt X Y Q n i cells slots) : RR X Y Q cells slots 438 [some (.inr (some 0)), some (.inr (some 3)), some (.inr (some 54)), some (.inl (i : Int))] [] T L P I hn := by
  refine rr_low (fun e => ?_)
  obtain ⟨k1, k2, k3, k4, k5, k6⟩ := id hk
  have hW := hC.1
  have eL := e.1
  refine r_aload_n K dL_law_438 rfl ?_
  refine r_aload_n K dL_law_439 rfl ?_
  refine r_iload_n K dL_law_440 rfl ?_
  refine r_iconst K dL_law_441 ?_
  refine r_iadd K dL_law_442 ?_
  refine r_oald K dL_law_443 (by decide) (by omega) (by omega) ?_
  rw [e.2.1]
  refine r_aload_n K dL_law_444 rfl ?_
  refine r_iload_n K dL_law_445 rfl ?_
  refine r_iconst K dL_law_446 ?_
  refine r_iadd K dL_law_447 ?_
  refine r_oald K dL_law_448 (by decide) (by omega) (by omega) ?_
  rw [e.2.1]
  refine r_aload_n K dL_law_449 rfl ?_
  refine r_iload_n K dL_law_450 rfl ?_
  refine r_iconst K dL_law_451 ?_
  refine r_iadd K dL_law_452 ?_
  refine r_oald K dL_law_453 (by decide) (by omega) (by omega) ?_
  rw [e.2.1]
  refine rcV3g K dL_law_454 c_L_50 v_X7_room (by first | assumption | exact hW.1 _ _ rfl | exact hW.2.2.1 _ _ _ rfl) (k_X7_room hC) ⟨Nat.le_of_ble_eq_true rfl, Nat.le_of_ble_eq_true rfl, (by show _ ≤ 600000; omega), (by show _ ≤ 7302250; omega)⟩ (Nat.le_of_ble_eq_true rfl) ?_
  rintro _ T1 L1 P1 J1 n1 ⟨hC1, hfr, rfl⟩
  have hW := hC1.1
  have hR1 : RI n J1 := hR.cong (Nat.le_refl n) (same_r hfr)
  refine rr_low (fun f => ?_)
  have fL := f.1
  refine r_aload_n K dL_law_457 rfl ?_
  refine r_aload_n K dL_law_458 rfl ?_
  refine r_iload_n K dL_law_459 rfl ?_
  refine r_iconst K dL_law_460 ?_
  refine r_iadd K dL_law_461 ?_
  refine r_oald K dL_law_462 (by decide) (by omega) (by omega) ?_
  rw [f.2.1]
  refine r_aload_n K dL_law_463 rfl ?_
  refine r_iload_n K dL_law_464 rfl ?_
  refine r_iconst K dL_law_465 ?_
  refine r_iadd K dL_law_466 ?_
  refine r_oald K dL_law_467 (by decide) (by omega) (by omega) ?_
  rw [f.2.1]
  refine r_aload_n K dL_law_468 rfl ?_
  refine r_iload_n K dL_law_469 rfl ?_
  refine r_iconst K dL_law_470 ?_
  refine r_iadd K dL_law_471 ?_
  refine r_oald K dL_law_472 (by decide) (by omega) (by omega) ?_
  rw [f.2.1]
  refine rcV3i K dL_law_473 c_L_53 v_X8_room (by first | assumption | exact hW.1 _ _ rfl | exact hW.2.2.1 _ _ _ rfl) (k_X8_room (I := J1) hW hR1.2.1.1) ⟨Nat.le_of_ble_eq_true rfl, Nat.le_of_ble_eq_true rfl, (by show _ ≤ 600000; omega), (by show _ ≤ 7302250; omega)⟩ (Nat.le_of_ble_eq_true rfl) ?_
  rintro _ J2 ⟨h2, rfl⟩
  have hz := fun a b w => sm_room (a := a) (b := b) (what := w) hR hfr h2
  refine r_icmp_eq K 747 dL_law_476 (by decide) (fun c476 => ?_) (fun c476 => ?_)
  · exact next _ _ _ _ _ _ _ (hC1.cong (hz 0 0 0).2.2) ((hz 0 0 0).2.1) (by omega) (by omega)
  · exact absurd (hz _ _ _).1 c476
set_option maxHeartbeats 4000000 in
set_option maxRecDepth 100000 in
theorem lc_9 (K : KW X Y nm) (hC : CI T L P I hn) (hR : RI n I) (hk : CK Y n i cells slots) (next : nxt X Y Q n i cells slots) : RR X Y Q cells slots 481 [some (.inr (some 0)), some (.inr (some 3)), some (.inr (some 54)), some (.inl (i : Int))] [] T L P I hn := by
  refine rr_low (fun e => ?_)
  obtain ⟨k1, k2, k3, k4, k5, k6⟩ := id hk
  have hW := hC.1
  have eL := e.1
  refine r_aload_n K dL_law_481 rfl ?_
  refine r_aload_n K dL_law_482 rfl ?_
  refine r_iload_n K dL_law_483 rfl ?_
  refine r_iconst K dL_law_484 ?_
  refine r_iadd K dL_law_485 ?_
  refine r_oald K dL_law_486 (by decide) (by omega) (by omega) ?_
  rw [e.2.1]
  refine rcV1i K dL_law_487 c_L_54 v_X7_install (by first | assumption | exact hW.1 _ _ rfl | exact hW.2.2.1 _ _ _ rfl) (k_X7_install hW hC.2.2.1) ⟨Nat.le_of_ble_eq_true rfl, Nat.le_of_ble_eq_true rfl, (by show _ ≤ 600000; omega), (by show _ ≤ 7302250; omega)⟩ (Nat.le_of_ble_eq_true rfl) ?_
  rintro _ J1 ⟨rfl, hJ1⟩
  have hV1 : MV J1 := by
    rw [hJ1]
    split
    · exact hR.2.1.1.cong (by rw [mI_ne (by decide), mI_ne (by decide), mI_ne (by decide), mR_ne (by decide)]) (by rw [mI_ne (by decide), mI_ne (by decide), mI_ne (by decide), mR_ne (by decide)])
    · exact hR.2.1.1
  refine rr_low (fun f => ?_)
  have fL := f.1
  refine r_aload_n K dL_law_490 rfl ?_
  refine r_aload_n K dL_law_491 rfl ?_
  refine r_iload_n K dL_law_492 rfl ?_
  refine r_iconst K dL_law_493 ?_
  refine r_iadd K dL_law_494 ?_
  refine r_oald K dL_law_495 (by decide) (by omega) (by omega) ?_
  rw [f.2.1]
  refine rcV1i K dL_law_496 c_L_58 v_X8_install (by first | assumption | exact hW.1 _ _ rfl | exact hW.2.2.1 _ _ _ rfl) (k_X8_install (I := J1) hW hV1) ⟨Nat.le_of_ble_eq_true rfl, Nat.le_of_ble_eq_true rfl, (by show _ ≤ 600000; omega), (by show _ ≤ 7302250; omega)⟩ (Nat.le_of_ble_eq_true rfl) ?_
  rintro r2 J2 h2
  obtain ⟨z2, rfl⟩ : ∃ z, r2 = some (.inl z) := by
    rcases h2 with ⟨-, h, -⟩ | ⟨-, h, -⟩ <;> exact ⟨_, h⟩
  have hz := sm_install hR hJ1 h2
  refine r_icmp_eq K 747 dL_law_499 (by decide) (fun c499 => ?_) (fun c499 => ?_)
  · exact next _ _ _ _ _ _ _ (hC.cong hz.2.2) (hz.2.1) (by omega) (by omega)
  · exact absurd hz.1 c499
set_option maxHeartbeats 4000000 in
set_option maxRecDepth 100000 in
theorem lc_10 (K : KW X Y nm) (hC : CI T L P I hn) (hR : RI n I) (hk : CK Y n i cells slots) (next : nxt X Y Q n i cells slots) : RR X Y Q cells slots 504 [some (.inr (some 0)), some (.inr (some 3)), some (.inr (some 54)), some (.inl (i : Int))] [] T L P I hn := by
  refine rr_low (fun e => ?_)
  obtain ⟨k1, k2, k3, k4, k5, k6⟩ := id hk
  have hW := hC.1
  have eL := e.1
  obtain ⟨d1, d2, d3, d4, d5, d6, d7, d8, d9⟩ := id hR.2.2.2.1.1
  have d43 : ∀ j, j < 120 → 0 ≤ I 43 j ∧ I 43 j < 256 := fun j hj => by rw [← (d2 j hj).1.1]; exact ⟨Int.emod_nonneg _ (by decide), Int.emod_lt_of_pos _ (by decide)⟩
  refine r_aload_n K dL_law_504 rfl ?_
  refine r_aload_n K dL_law_505 rfl ?_
  refine r_iload_n K dL_law_506 rfl ?_
  refine r_iconst K dL_law_507 ?_
  refine r_iadd K dL_law_508 ?_
  refine r_oald K dL_law_509 (by decide) (by omega) (by omega) ?_
  rw [e.2.1]
  refine r_aload_n K dL_law_510 rfl ?_
  refine r_iload_n K dL_law_511 rfl ?_
  refine r_iconst K dL_law_512 ?_
  refine r_iadd K dL_law_513 ?_
  refine r_oald K dL_law_514 (by decide) (by omega) (by omega) ?_
  rw [e.2.1]
  refine rcV2g K dL_law_515 c_L_59 v_X7_update (by first | assumption | exact hW.1 _ _ rfl | exact hW.2.2.1 _ _ _ rfl) (k_X7_update hC d1.2 d43) ⟨Nat.le_of_ble_eq_true rfl, Nat.le_of_ble_eq_true rfl, (by show _ ≤ 600000; omega), (by show _ ≤ 7302250; omega)⟩ (Nat.le_of_ble_eq_true rfl) ?_
  rintro r1 T1 L1 P1 J1 n1 ⟨hC1, h1⟩
  obtain ⟨z1, rfl⟩ : ∃ z, r1 = some (.inl z) := by
    rcases h1 with ⟨-, h, -⟩ | ⟨-, -, h, -⟩ | ⟨-, -, -, h, -⟩ | ⟨-, -, -, h, -⟩ <;> exact ⟨_, h⟩
  have hW := hC1.1
  have hfr : ∀ k, k = 54 ∨ k = 56 ∨ k = 57 ∨ k = 73 → J1 k = I k := fun k hk => by
    rcases h1 with ⟨-, -, h⟩ | ⟨-, -, -, h⟩ | ⟨-, -, -, -, h⟩ | ⟨-, -, -, -, h⟩
    · rw [h]
    · rw [h]
    · rw [h]
    · exact h.1 k (by omega) (by omega)
  refine rr_low (fun f => ?_)
  have fL := f.1
  refine r_aload_n K dL_law_518 rfl ?_
  refine r_aload_n K dL_law_519 rfl ?_
  refine r_iload_n K dL_law_520 rfl ?_
  refine r_iconst K dL_law_521 ?_
  refine r_iadd K dL_law_522 ?_
  refine r_oald K dL_law_523 (by decide) (by omega) (by omega) ?_
  rw [f.2.1]
  refine r_aload_n K dL_law_524 rfl ?_
  refine r_iload_n K dL_law_525 rfl ?_
  refine r_iconst K dL_law_526 ?_
  refine r_iadd K dL_law_527 ?_
  refine r_oald K dL_law_528 (by decide) (by omega) (by omega) ?_
  rw [f.2.1]
  refine rcV2i K dL_law_529 c_L_62 v_X8_update (by first | assumption | exact hW.1 _ _ rfl | exact hW.2.2.1 _ _ _ rfl) (k_X8_update (I := J1) hW (hR.2.1.1.cong (hfr 56 (by decide)) (hfr 57 (by decide))) (by rw [hfr 54 (by decide), d1.1]; exact d1.2) (by rw [hfr 73 (by decide)]; exact fun j hj => (d2 j hj).1.2) (by rw [hfr 54 (by decide), d3.1]; exact d3.2)) ⟨Nat.le_of_ble_eq_true rfl, Nat.le_of_ble_eq_true rfl, (by show _ ≤ 600000; omega), (by show _ ≤ 7302250; omega)⟩ (Nat.le_of_ble_eq_true rfl) ?_
  rintro r2 J2 h2
  obtain ⟨z2, rfl⟩ : ∃ z, r2 = some (.inl z) := by
    rcases h2 with ⟨-, h, -⟩ | ⟨-, -, h, -⟩ | ⟨-, -, -, h, -⟩ | ⟨-, -, -, h, -⟩ <;> exact ⟨_, h⟩
  have hz := sm_update hR h1 h2
  refine r_icmp_eq K 747 dL_law_532 (by decide) (fun c532 => ?_) (fun c532 => ?_)
  · exact next _ _ _ _ _ _ _ (hC1.cong hz.2.2) (hz.2.1) (by omega) (by omega)
  · exact absurd hz.1 c532
set_option maxHeartbeats 4000000 in
set_option maxRecDepth 100000 in
theorem lc_11 (K : KW X Y nm) (hC : CI T L P I hn) (hR : RI n I) (hk : CK Y n i cells slots) (next : nxt X Y Q n i cells slots) : RR X Y Q cells slots 537 [some (.inr (some 0)), some (.inr (some 3)), some (.inr (some 54)), some (.inl (i : Int))] [] T L P I hn := by
  refine rr_low (fun e => ?_)
  obtain ⟨k1, k2, k3, k4, k5, k6⟩ := id hk
  have hW := hC.1
  have eL := e.1
  obtain ⟨-, w1, w2, w3⟩ := id hR.2.2.2.1
  refine r_aload_n K dL_law_537 rfl ?_
  refine r_aload_n K dL_law_538 rfl ?_
  refine r_iload_n K dL_law_539 rfl ?_
  refine r_iconst K dL_law_540 ?_
  refine r_iadd K dL_law_541 ?_
  refine r_oald K dL_law_542 (by decide) (by omega) (by omega) ?_
  rw [e.2.1]
  refine rcV1i K dL_law_543 c_L_63 v_X7_write (by first | assumption | exact hW.1 _ _ rfl | exact hW.2.2.1 _ _ _ rfl) (k_X7_write hW hR.db (by omega)) ⟨Nat.le_of_ble_eq_true rfl, Nat.le_of_ble_eq_true rfl, (by show _ ≤ 600000; omega), (by show _ ≤ 7302250; omega)⟩ (Nat.le_of_ble_eq_true rfl) ?_
  rintro r1 J1 h1
  obtain ⟨z1, rfl⟩ : ∃ z, r1 = some (.inl z) := by
    rcases h1 with ⟨-, h, -⟩ | ⟨-, -, h, -⟩ | ⟨-, -, -, h, -⟩ <;> exact ⟨_, h⟩
  have hfr : ∀ c, c ≠ 41 → c ≠ 42 → c ≠ 43 → c ≠ 49 → J1 c = I c := fun c c1 c2 c3 c4 => by
    rcases h1 with ⟨-, -, h⟩ | ⟨-, -, -, h⟩ | ⟨-, -, -, -, h⟩
    · rw [h]
    · rw [h]
    · rw [h, mI_ne c1]; exact dIt_fr _ I c c1 c2 c3 c4
  have hD1 : DV I J1 := hR.2.2.2.1.1.cong (fun _ _ _ => rfl) (fun k k1 k2 => hfr k (by omega) (by omega) (by omega) (by omega)) (fun j _ _ _ => by rw [hfr 54 (by decide) (by decide) (by decide) (by decide)])
  refine rr_low (fun f => ?_)
  have fL := f.1
  refine r_aload_n K dL_law_546 rfl ?_
  refine r_aload_n K dL_law_547 rfl ?_
  refine r_iload_n K dL_law_548 rfl ?_
  refine r_iconst K dL_law_549 ?_
  refine r_iadd K dL_law_550 ?_
  refine r_oald K dL_law_551 (by decide) (by omega) (by omega) ?_
  rw [f.2.1]
  refine rcV1i K dL_law_552 c_L_66 v_X8_write (by first | assumption | exact hW.1 _ _ rfl | exact hW.2.2.1 _ _ _ rfl) (k_X8_write (I := J1) (C := I) hW hD1 (by rw [hfr 54 (by decide) (by decide) (by decide) (by decide)]; omega)) ⟨Nat.le_of_ble_eq_true rfl, Nat.le_of_ble_eq_true rfl, (by show _ ≤ 600000; omega), (by show _ ≤ 7302250; omega)⟩ (Nat.le_of_ble_eq_true rfl) ?_
  rintro r2 J2 h2
  obtain ⟨z2, rfl⟩ : ∃ z, r2 = some (.inl z) := by
    rcases h2 with ⟨-, h, -⟩ | ⟨-, -, h, -⟩ | ⟨-, -, -, h, -⟩ <;> exact ⟨_, h⟩
  have hz := sm_write hR h1 h2
  refine r_icmp_eq K 747 dL_law_555 (by decide) (fun c555 => ?_) (fun c555 => ?_)
  · exact next _ _ _ _ _ _ _ (hC.cong hz.2.2) (hz.2.1) (by omega) (by omega)
  · exact absurd hz.1 c555
set_option maxHeartbeats 4000000 in
set_option maxRecDepth 100000 in
theorem lc_12 (K : KW X Y nm) (hC : CI T L P I hn) (hR : RI n I) (hk : CK Y n i cells slots) (next : nxt X Y Q n i cells slots) : RR X Y Q cells slots 560 [some (.inr (some 0)), some (.inr (some 3)), some (.inr (some 54)), some (.inl (i : Int))] [] T L P I hn := by
  refine rr_low (fun e => ?_)
  obtain ⟨k1, k2, k3, k4, k5, k6⟩ := id hk
  have hW := hC.1
  have eL := e.1
  refine r_aload_n K dL_law_560 rfl ?_
  refine rcV0i K dL_law_561 c_L_67 v_X7_cut (by first | assumption | exact hW.1 _ _ rfl | exact hW.2.2.1 _ _ _ rfl) (k_X7_cut hW) ⟨Nat.le_of_ble_eq_true rfl, Nat.le_of_ble_eq_true rfl, (by show _ ≤ 600000; omega), (by show _ ≤ 7302250; omega)⟩ (Nat.le_of_ble_eq_true rfl) ?_
  rintro _ J1 ⟨rfl, hJ1⟩
  refine rr_low (fun f => ?_)
  have fL := f.1
  refine r_aload_n K dL_law_564 rfl ?_
  refine rcV0i K dL_law_565 c_L_71 v_X8_cut (by first | assumption | exact hW.1 _ _ rfl | exact hW.2.2.1 _ _ _ rfl) (k_X8_cut (I := J1) hW) ⟨Nat.le_of_ble_eq_true rfl, Nat.le_of_ble_eq_true rfl, (by show _ ≤ 600000; omega), (by show _ ≤ 7302250; omega)⟩ (Nat.le_of_ble_eq_true rfl) ?_
  rintro _ J2 ⟨rfl, hJ2⟩
  have hz := sm_cut hR hJ1 hJ2
  refine r_icmp_eq K 747 dL_law_568 (by decide) (fun c568 => ?_) (fun c568 => ?_)
  · exact next _ _ _ _ _ _ _ (hC.cong hz.2.2) (hz.2.1) (by omega) (by omega)
  · exact absurd hz.1 c568
set_option maxHeartbeats 4000000 in
set_option maxRecDepth 100000 in
theorem lc_13 (K : KW X Y nm) (hC : CI T L P I hn) (hR : RI n I) (hk : CK Y n i cells slots) (next : nxt X Y Q n i cells slots) : RR X Y Q cells slots 573 [some (.inr (some 0)), some (.inr (some 3)), some (.inr (some 54)), some (.inl (i : Int))] [] T L P I hn := by
  refine rr_low (fun e => ?_)
  obtain ⟨k1, k2, k3, k4, k5, k6⟩ := id hk
  have hW := hC.1
  have eL := e.1
  obtain ⟨d1, d2, d3, d4, d5, d6, d7, d8, d9⟩ := id hR.2.2.2.1.1
  have d43 : ∀ j, j < 120 → 0 ≤ I 43 j ∧ I 43 j < 256 := fun j hj => by rw [← (d2 j hj).1.1]; exact ⟨Int.emod_nonneg _ (by decide), Int.emod_lt_of_pos _ (by decide)⟩
  refine r_aload_n K dL_law_573 rfl ?_
  refine rcV0i K dL_law_574 c_L_72 v_X7_on (by first | assumption | exact hW.1 _ _ rfl | exact hW.2.2.1 _ _ _ rfl) (k_X7_on hW (by omega) (by omega) (by omega)) ⟨Nat.le_of_ble_eq_true rfl, Nat.le_of_ble_eq_true rfl, (by show _ ≤ 600000; omega), (by show _ ≤ 7302250; omega)⟩ (Nat.le_of_ble_eq_true rfl) ?_
  rintro r1 J1 h1
  obtain ⟨z1, rfl⟩ : ∃ z, r1 = some (.inl z) := by
    rcases h1 with ⟨-, h, -⟩ | ⟨-, h, -⟩ <;> exact ⟨_, h⟩
  have hfr : ∀ c, c ≠ 41 → J1 c = I c := fun c c1 => by
    rcases h1 with ⟨-, -, h⟩ | ⟨-, -, h⟩
    · rw [h]
    · rw [h, mI_ne c1, mI_ne c1]
  have hD1 : DV I J1 := hR.2.2.2.1.1.cong (fun _ _ _ => rfl) (fun k k1 k2 => hfr k (by omega)) (fun j _ _ _ => by rw [hfr 54 (by decide)])
  refine rr_low (fun f => ?_)
  have fL := f.1
  refine r_aload_n K dL_law_577 rfl ?_
  refine rcV0i K dL_law_578 c_L_76 v_X8_on (by first | assumption | exact hW.1 _ _ rfl | exact hW.2.2.1 _ _ _ rfl) (k_X8_on (I := J1) (C := I) hW hD1) ⟨Nat.le_of_ble_eq_true rfl, Nat.le_of_ble_eq_true rfl, (by show _ ≤ 600000; omega), (by show _ ≤ 7302250; omega)⟩ (Nat.le_of_ble_eq_true rfl) ?_
  rintro r2 J2 h2
  obtain ⟨z2, rfl⟩ : ∃ z, r2 = some (.inl z) := by
    rcases h2 with ⟨-, h, -⟩ | ⟨-, h, -⟩ <;> exact ⟨_, h⟩
  have hz := sm_on hR h1 h2
  refine r_icmp_eq K 747 dL_law_581 (by decide) (fun c581 => ?_) (fun c581 => ?_)
  · exact next _ _ _ _ _ _ _ (hC.cong hz.2.2) (hz.2.1) (by omega) (by omega)
  · exact absurd hz.1 c581
set_option maxHeartbeats 4000000 in
set_option maxRecDepth 100000 in
theorem lc_14 (K : KW X Y nm) (hC : CI T L P I hn) (hR : RI n I) (hk : CK Y n i cells slots) (next : nxt X Y Q n i cells slots) : RR X Y Q cells slots 586 [some (.inr (some 0)), some (.inr (some 3)), some (.inr (some 54)), some (.inl (i : Int))] [] T L P I hn := by
  refine rr_low (fun e => ?_)
  obtain ⟨k1, k2, k3, k4, k5, k6⟩ := id hk
  have hW := hC.1
  have eL := e.1
  obtain ⟨d1, d2, d3, d4, d5, d6, d7, d8, d9⟩ := id hR.2.2.2.1.1
  have d43 : ∀ j, j < 120 → 0 ≤ I 43 j ∧ I 43 j < 256 := fun j hj => by rw [← (d2 j hj).1.1]; exact ⟨Int.emod_nonneg _ (by decide), Int.emod_lt_of_pos _ (by decide)⟩
  refine r_aload_n K dL_law_586 rfl ?_
  refine r_aload_n K dL_law_587 rfl ?_
  refine r_iload_n K dL_law_588 rfl ?_
  refine r_iconst K dL_law_589 ?_
  refine r_iadd K dL_law_590 ?_
  refine r_oald K dL_law_591 (by decide) (by omega) (by omega) ?_
  rw [e.2.1]
  refine rcV1p K dL_law_592 c_L_77 v_X7_device (by first | assumption | exact hW.1 _ _ rfl | exact hW.2.2.1 _ _ _ rfl) (k_X7_device hW d1.2 d43) ⟨Nat.le_of_ble_eq_true rfl, Nat.le_of_ble_eq_true rfl, (by show _ ≤ 600000; omega), (by show _ ≤ 7302250; omega)⟩ (Nat.le_of_ble_eq_true rfl) ?_
  refine r_aload_n K dL_law_595 rfl ?_
  refine r_aload_n K dL_law_596 rfl ?_
  refine r_iload_n K dL_law_597 rfl ?_
  refine r_iconst K dL_law_598 ?_
  refine r_iadd K dL_law_599 ?_
  refine r_oald K dL_law_600 (by decide) (by omega) (by omega) ?_
  rw [e.2.1]
  refine rcV1p K dL_law_601 c_L_80 v_X8_device (by first | assumption | exact hW.1 _ _ rfl | exact hW.2.2.1 _ _ _ rfl) (k_X8_device (C := I) hW hR.2.2.2.1.1) ⟨Nat.le_of_ble_eq_true rfl, Nat.le_of_ble_eq_true rfl, (by show _ ≤ 600000; omega), (by show _ ≤ 7302250; omega)⟩ (Nat.le_of_ble_eq_true rfl) ?_
  refine r_icmp_eq K 747 dL_law_604 (by decide) (fun c604 => ?_) (fun c604 => ?_)
  · exact next _ _ _ _ _ _ _ (hC) (hR.up) (by omega) (by omega)
  · exact absurd (eq_device hR _) c604
set_option maxHeartbeats 4000000 in
set_option maxRecDepth 100000 in
theorem lc_15 (K : KW X Y nm) (hC : CI T L P I hn) (hR : RI n I) (hk : CK Y n i cells slots) (next : nxt X Y Q n i cells slots) : RR X Y Q cells slots 609 [some (.inr (some 0)), some (.inr (some 3)), some (.inr (some 54)), some (.inl (i : Int))] [] T L P I hn := by
  refine rr_low (fun e => ?_)
  obtain ⟨k1, k2, k3, k4, k5, k6⟩ := id hk
  have hW := hC.1
  have eL := e.1
  refine r_aload_n K dL_law_609 rfl ?_
  refine r_aload_n K dL_law_610 rfl ?_
  refine r_iload_n K dL_law_611 rfl ?_
  refine r_iconst K dL_law_612 ?_
  refine r_iadd K dL_law_613 ?_
  refine r_oald K dL_law_614 (by decide) (by omega) (by omega) ?_
  rw [e.2.1]
  refine r_aload_n K dL_law_615 rfl ?_
  refine r_iload_n K dL_law_616 rfl ?_
  refine r_iconst K dL_law_617 ?_
  refine r_iadd K dL_law_618 ?_
  refine r_oald K dL_law_619 (by decide) (by omega) (by omega) ?_
  rw [e.2.1]
  refine rcV2i K dL_law_620 c_L_81 v_X7_fleet (by first | assumption | exact hW.1 _ _ rfl | exact hW.2.2.1 _ _ _ rfl) (k_X7_fleet hW) ⟨Nat.le_of_ble_eq_true rfl, Nat.le_of_ble_eq_true rfl, (by show _ ≤ 600000; omega), (by show _ ≤ 7302250; omega)⟩ (Nat.le_of_ble_eq_true rfl) ?_
  rintro _ J1 ⟨rfl, hJ1⟩
  refine rr_low (fun f => ?_)
  have fL := f.1
  refine r_aload_n K dL_law_623 rfl ?_
  refine r_aload_n K dL_law_624 rfl ?_
  refine r_iload_n K dL_law_625 rfl ?_
  refine r_iconst K dL_law_626 ?_
  refine r_iadd K dL_law_627 ?_
  refine r_oald K dL_law_628 (by decide) (by omega) (by omega) ?_
  rw [f.2.1]
  refine r_aload_n K dL_law_629 rfl ?_
  refine r_iload_n K dL_law_630 rfl ?_
  refine r_iconst K dL_law_631 ?_
  refine r_iadd K dL_law_632 ?_
  refine r_oald K dL_law_633 (by decide) (by omega) (by omega) ?_
  rw [f.2.1]
  refine rcV2i K dL_law_634 c_L_85 v_X8_fleet (by first | assumption | exact hW.1 _ _ rfl | exact hW.2.2.1 _ _ _ rfl) (k_X8_fleet (I := J1) hW) ⟨Nat.le_of_ble_eq_true rfl, Nat.le_of_ble_eq_true rfl, (by show _ ≤ 600000; omega), (by show _ ≤ 7302250; omega)⟩ (Nat.le_of_ble_eq_true rfl) ?_
  rintro _ J2 ⟨rfl, hJ2⟩
  have hz := sm_fleet hR hJ1 hJ2
  refine r_icmp_eq K 747 dL_law_637 (by decide) (fun c637 => ?_) (fun c637 => ?_)
  · exact next _ _ _ _ _ _ _ (hC.cong hz.2.2) (hz.2.1) (by omega) (by omega)
  · exact absurd hz.1 c637
set_option maxHeartbeats 4000000 in
set_option maxRecDepth 100000 in
theorem lc_16 (K : KW X Y nm) (hC : CI T L P I hn) (hR : RI n I) (hk : CK Y n i cells slots) (next : nxt X Y Q n i cells slots) : RR X Y Q cells slots 642 [some (.inr (some 0)), some (.inr (some 3)), some (.inr (some 54)), some (.inl (i : Int))] [] T L P I hn := by
  refine rr_low (fun e => ?_)
  obtain ⟨k1, k2, k3, k4, k5, k6⟩ := id hk
  have hW := hC.1
  have eL := e.1
  obtain ⟨S, s1, s2, s3⟩ := hR.2.2.2.2.2
  by_cases q : yI Y 0 ((i : Int) + 3).toNat = 0
  · skip
    refine r_aload_n K dL_law_642 rfl ?_
    refine r_aload_n K dL_law_643 rfl ?_
    refine r_iload_n K dL_law_644 rfl ?_
    refine r_iconst K dL_law_645 ?_
    refine r_iadd K dL_law_646 ?_
    refine r_oald K dL_law_647 (by decide) (by omega) (by omega) ?_
    rw [e.2.1]
    refine r_aload_n K dL_law_648 rfl ?_
    refine r_iload_n K dL_law_649 rfl ?_
    refine r_iconst K dL_law_650 ?_
    refine r_iadd K dL_law_651 ?_
    refine r_oald K dL_law_652 (by decide) (by omega) (by omega) ?_
    rw [e.2.1]
    refine r_aload_n K dL_law_653 rfl ?_
    refine r_iload_n K dL_law_654 rfl ?_
    refine r_iconst K dL_law_655 ?_
    refine r_iadd K dL_law_656 ?_
    refine r_oald K dL_law_657 (by decide) (by omega) (by omega) ?_
    rw [e.2.1]
    refine r_if_eq K 665 dL_law_658 (by decide) (fun c658 => ?_) (fun c658 => ?_)
    · refine r_iconst K dL_law_665 ?_
      refine rcV3i K dL_law_666 c_L_86 v_X7_hold (by first | assumption | exact hW.1 _ _ rfl | exact hW.2.2.1 _ _ _ rfl) (k_X7_hold (S := S) hW (e.tb hk) s2 s1 (by decide)) ⟨Nat.le_of_ble_eq_true rfl, Nat.le_of_ble_eq_true rfl, (by show _ ≤ 600000; omega), (by show _ ≤ 7302250; omega)⟩ (Nat.le_of_ble_eq_true rfl) ?_
      rintro r1 J1 h1
      obtain ⟨z1, rfl⟩ : ∃ z, r1 = some (.inl z) := by
        rcases h1 with ⟨-, h, -⟩ | ⟨-, h, -⟩ <;> exact ⟨_, h⟩
      refine rr_low (fun f => ?_)
      have fL := f.1
      refine r_aload_n K dL_law_669 rfl ?_
      refine r_aload_n K dL_law_670 rfl ?_
      refine r_iload_n K dL_law_671 rfl ?_
      refine r_iconst K dL_law_672 ?_
      refine r_iadd K dL_law_673 ?_
      refine r_oald K dL_law_674 (by decide) (by omega) (by omega) ?_
      rw [f.2.1]
      refine r_aload_n K dL_law_675 rfl ?_
      refine r_iload_n K dL_law_676 rfl ?_
      refine r_iconst K dL_law_677 ?_
      refine r_iadd K dL_law_678 ?_
      refine r_oald K dL_law_679 (by decide) (by omega) (by omega) ?_
      rw [f.2.1]
      refine r_aload_n K dL_law_680 rfl ?_
      refine r_iload_n K dL_law_681 rfl ?_
      refine r_iconst K dL_law_682 ?_
      refine r_iadd K dL_law_683 ?_
      refine r_oald K dL_law_684 (by decide) (by omega) (by omega) ?_
      rw [f.2.1]
      refine r_if_eq K 692 dL_law_685 (by decide) (fun c685 => ?_) (fun c685 => ?_)
      · refine r_iconst K dL_law_692 ?_
        refine rcV3i K dL_law_693 c_L_90 v_X8_hold (by first | assumption | exact hW.1 _ _ rfl | exact hW.2.2.1 _ _ _ rfl) (k_X8_hold (I := J1) hW (by decide)) ⟨Nat.le_of_ble_eq_true rfl, Nat.le_of_ble_eq_true rfl, (by show _ ≤ 600000; omega), (by show _ ≤ 7302250; omega)⟩ (Nat.le_of_ble_eq_true rfl) ?_
        rintro r2 J2 h2
        obtain ⟨z2, rfl⟩ : ∃ z, r2 = some (.inl z) := by
          rcases h2 with ⟨-, h, -⟩ | ⟨-, h, -⟩ <;> exact ⟨_, h⟩
        have hz := sm_hold hR (by decide) s1 s2 s3 h1 h2
        refine r_icmp_eq K 747 dL_law_696 (by decide) (fun c696 => ?_) (fun c696 => ?_)
        · exact next _ _ _ _ _ _ _ (hC.cong hz.2.2) (hz.2.1) (by omega) (by omega)
        · exact absurd hz.1 c696
      · exact absurd q c685
    · exact absurd q c658
  · skip
    refine r_aload_n K dL_law_642 rfl ?_
    refine r_aload_n K dL_law_643 rfl ?_
    refine r_iload_n K dL_law_644 rfl ?_
    refine r_iconst K dL_law_645 ?_
    refine r_iadd K dL_law_646 ?_
    refine r_oald K dL_law_647 (by decide) (by omega) (by omega) ?_
    rw [e.2.1]
    refine r_aload_n K dL_law_648 rfl ?_
    refine r_iload_n K dL_law_649 rfl ?_
    refine r_iconst K dL_law_650 ?_
    refine r_iadd K dL_law_651 ?_
    refine r_oald K dL_law_652 (by decide) (by omega) (by omega) ?_
    rw [e.2.1]
    refine r_aload_n K dL_law_653 rfl ?_
    refine r_iload_n K dL_law_654 rfl ?_
    refine r_iconst K dL_law_655 ?_
    refine r_iadd K dL_law_656 ?_
    refine r_oald K dL_law_657 (by decide) (by omega) (by omega) ?_
    rw [e.2.1]
    refine r_if_eq K 665 dL_law_658 (by decide) (fun c658 => ?_) (fun c658 => ?_)
    · exact absurd c658 q
    · refine r_iconst K dL_law_661 ?_
      refine r_goto K 666 dL_law_662 (by decide) ?_
      refine rcV3i K dL_law_666 c_L_86 v_X7_hold (by first | assumption | exact hW.1 _ _ rfl | exact hW.2.2.1 _ _ _ rfl) (k_X7_hold (S := S) hW (e.tb hk) s2 s1 (by decide)) ⟨Nat.le_of_ble_eq_true rfl, Nat.le_of_ble_eq_true rfl, (by show _ ≤ 600000; omega), (by show _ ≤ 7302250; omega)⟩ (Nat.le_of_ble_eq_true rfl) ?_
      rintro r1 J1 h1
      obtain ⟨z1, rfl⟩ : ∃ z, r1 = some (.inl z) := by
        rcases h1 with ⟨-, h, -⟩ | ⟨-, h, -⟩ <;> exact ⟨_, h⟩
      refine rr_low (fun f => ?_)
      have fL := f.1
      refine r_aload_n K dL_law_669 rfl ?_
      refine r_aload_n K dL_law_670 rfl ?_
      refine r_iload_n K dL_law_671 rfl ?_
      refine r_iconst K dL_law_672 ?_
      refine r_iadd K dL_law_673 ?_
      refine r_oald K dL_law_674 (by decide) (by omega) (by omega) ?_
      rw [f.2.1]
      refine r_aload_n K dL_law_675 rfl ?_
      refine r_iload_n K dL_law_676 rfl ?_
      refine r_iconst K dL_law_677 ?_
      refine r_iadd K dL_law_678 ?_
      refine r_oald K dL_law_679 (by decide) (by omega) (by omega) ?_
      rw [f.2.1]
      refine r_aload_n K dL_law_680 rfl ?_
      refine r_iload_n K dL_law_681 rfl ?_
      refine r_iconst K dL_law_682 ?_
      refine r_iadd K dL_law_683 ?_
      refine r_oald K dL_law_684 (by decide) (by omega) (by omega) ?_
      rw [f.2.1]
      refine r_if_eq K 692 dL_law_685 (by decide) (fun c685 => ?_) (fun c685 => ?_)
      · exact absurd c685 q
      · refine r_iconst K dL_law_688 ?_
        refine r_goto K 693 dL_law_689 (by decide) ?_
        refine rcV3i K dL_law_693 c_L_90 v_X8_hold (by first | assumption | exact hW.1 _ _ rfl | exact hW.2.2.1 _ _ _ rfl) (k_X8_hold (I := J1) hW (by decide)) ⟨Nat.le_of_ble_eq_true rfl, Nat.le_of_ble_eq_true rfl, (by show _ ≤ 600000; omega), (by show _ ≤ 7302250; omega)⟩ (Nat.le_of_ble_eq_true rfl) ?_
        rintro r2 J2 h2
        obtain ⟨z2, rfl⟩ : ∃ z, r2 = some (.inl z) := by
          rcases h2 with ⟨-, h, -⟩ | ⟨-, h, -⟩ <;> exact ⟨_, h⟩
        have hz := sm_hold hR (by decide) s1 s2 s3 h1 h2
        refine r_icmp_eq K 747 dL_law_696 (by decide) (fun c696 => ?_) (fun c696 => ?_)
        · exact next _ _ _ _ _ _ _ (hC.cong hz.2.2) (hz.2.1) (by omega) (by omega)
        · exact absurd hz.1 c696
set_option maxHeartbeats 4000000 in
set_option maxRecDepth 100000 in
theorem lc_17 (K : KW X Y nm) (hC : CI T L P I hn) (hR : RI n I) (hk : CK Y n i cells slots) (next : nxt X Y Q n i cells slots) : RR X Y Q cells slots 701 [some (.inr (some 0)), some (.inr (some 3)), some (.inr (some 54)), some (.inl (i : Int))] [] T L P I hn := by
  refine rr_low (fun e => ?_)
  obtain ⟨k1, k2, k3, k4, k5, k6⟩ := id hk
  have hW := hC.1
  have eL := e.1
  obtain ⟨S, s1, s2, s3⟩ := hR.2.2.2.2.2
  refine r_aload_n K dL_law_701 rfl ?_
  refine rcV0g K dL_law_702 c_L_91 v_X7_sent (by first | assumption | exact hW.1 _ _ rfl | exact hW.2.2.1 _ _ _ rfl) (k_X7_sent (S := S) hC (e.tb hk) s2 s1 (fun v hv => (hR.2.2.2.2.1 v hv).2.1)) ⟨Nat.le_of_ble_eq_true rfl, Nat.le_of_ble_eq_true rfl, (by show _ ≤ 600000; omega), (by show _ ≤ 7302250; omega)⟩ (Nat.le_of_ble_eq_true rfl) ?_
  rintro _ T1 L1 P1 J1 n1 ⟨hC1, hfr, z1, rfl, hz1⟩
  have hW := hC1.1
  have hR1 : RI n J1 := hR.cong (Nat.le_refl n) (same_s hfr)
  refine rr_low (fun f => ?_)
  have fL := f.1
  refine r_aload_n K dL_law_705 rfl ?_
  refine rcV0i K dL_law_706 c_L_94 v_X8_sent (by first | assumption | exact hW.1 _ _ rfl | exact hW.2.2.1 _ _ _ rfl) (k_X8_sent (I := J1) (S := S) hW hR1.2.1.1 hR1.dvm s1 (by rw [(same_s hfr).1 81 (by omega)]; exact s3)) ⟨Nat.le_of_ble_eq_true rfl, Nat.le_of_ble_eq_true rfl, (by show _ ≤ 600000; omega), (by show _ ≤ 7302250; omega)⟩ (Nat.le_of_ble_eq_true rfl) ?_
  rintro _ J2 ⟨h2, rfl⟩
  have hz := sm_sent (S := S) hR hfr h2
  refine r_icmp_eq K 747 dL_law_709 (by decide) (fun c709 => ?_) (fun c709 => ?_)
  · exact next _ _ _ _ _ _ _ (hC1.cong hz.2.2) (hz.2.1) (by omega) (by omega)
  · exact absurd (hz1.trans hz.1) c709
set_option maxHeartbeats 4000000 in
set_option maxRecDepth 100000 in
theorem lc_18 (K : KW X Y nm) (hC : CI T L P I hn) (hR : RI n I) (hk : CK Y n i cells slots) (next : nxt X Y Q n i cells slots) : RR X Y Q cells slots 714 [some (.inr (some 0)), some (.inr (some 3)), some (.inr (some 54)), some (.inl (i : Int))] [] T L P I hn := by
  refine rr_low (fun e => ?_)
  obtain ⟨k1, k2, k3, k4, k5, k6⟩ := id hk
  have hW := hC.1
  have eL := e.1
  refine r_aload_n K dL_law_714 rfl ?_
  refine r_aload_n K dL_law_715 rfl ?_
  refine r_iload_n K dL_law_716 rfl ?_
  refine r_iconst K dL_law_717 ?_
  refine r_iadd K dL_law_718 ?_
  refine r_oald K dL_law_719 (by decide) (by omega) (by omega) ?_
  rw [e.2.1]
  refine r_aload_n K dL_law_720 rfl ?_
  refine r_iload_n K dL_law_721 rfl ?_
  refine r_iconst K dL_law_722 ?_
  refine r_iadd K dL_law_723 ?_
  refine r_oald K dL_law_724 (by decide) (by omega) (by omega) ?_
  rw [e.2.1]
  refine rcV2g K dL_law_725 c_L_95 v_X7_best (by first | assumption | exact hW.1 _ _ rfl | exact hW.2.2.1 _ _ _ rfl) (k_X7_best hC (e.tb hk) (fun v hv => (hR.2.2.2.2.1 v hv).2.1)) ⟨Nat.le_of_ble_eq_true rfl, Nat.le_of_ble_eq_true rfl, (by show _ ≤ 600000; omega), (by show _ ≤ 7302250; omega)⟩ (Nat.le_of_ble_eq_true rfl) ?_
  rintro _ T1 L1 P1 J1 n1 ⟨hC1, hfr, z1, rfl, hz1⟩
  have hW := hC1.1
  have hR1 : RI n J1 := hR.cong (Nat.le_refl n) (same_s hfr)
  refine rr_low (fun f => ?_)
  have fL := f.1
  refine r_aload_n K dL_law_728 rfl ?_
  refine r_aload_n K dL_law_729 rfl ?_
  refine r_iload_n K dL_law_730 rfl ?_
  refine r_iconst K dL_law_731 ?_
  refine r_iadd K dL_law_732 ?_
  refine r_oald K dL_law_733 (by decide) (by omega) (by omega) ?_
  rw [f.2.1]
  refine r_aload_n K dL_law_734 rfl ?_
  refine r_iload_n K dL_law_735 rfl ?_
  refine r_iconst K dL_law_736 ?_
  refine r_iadd K dL_law_737 ?_
  refine r_oald K dL_law_738 (by decide) (by omega) (by omega) ?_
  rw [f.2.1]
  refine rcV2i K dL_law_739 c_L_98 v_X8_best (by first | assumption | exact hW.1 _ _ rfl | exact hW.2.2.1 _ _ _ rfl) (k_X8_best (I := J1) hW hR1.2.1.1 hR1.dvm) ⟨Nat.le_of_ble_eq_true rfl, Nat.le_of_ble_eq_true rfl, (by show _ ≤ 600000; omega), (by show _ ≤ 7302250; omega)⟩ (Nat.le_of_ble_eq_true rfl) ?_
  rintro _ J2 ⟨h2, z2, rfl, hz2⟩
  have hz := sm_best hR hfr hz1 h2 hz2
  refine r_icmp_eq K 747 dL_law_742 (by decide) (fun c742 => ?_) (fun c742 => ?_)
  · exact next _ _ _ _ _ _ _ (hC1.cong hz.2.2) (hz.2.1) (by omega) (by omega)
  · exact absurd hz.1 c742
end LAW
