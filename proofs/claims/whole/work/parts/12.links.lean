theorem o_X7_3 : Cond.methodLink RX7 3 objectInit ∈ lw_tbl := by decide +kernel
theorem n_X7_9 : Cond.classLink RX7 9 (Rn 0) ∈ lw_tbl ∧ Cond.instantiable (Rn 0) (cN 0) ∈ lw_tbl ∧ Cond.initialized (Rn 0) ∈ lw_tbl := ⟨by decide +kernel, by decide +kernel, by decide +kernel⟩
theorem c_X7_11 : cL RX7 11 yX0_init cX0_init 2 none 1 := ⟨Or.inl (by decide +kernel), by decide +kernel, by decide +kernel, by decide +kernel, by decide +kernel, by decide +kernel⟩
theorem i_X0_init : Cond.instanceMethod yX0_init ∈ lw_tbl ∧ yX0_init.name = "<init>" := ⟨by decide +kernel, rfl⟩
theorem f_X7_14 : fL RX7 14 7 0 := ⟨by decide, by decide, Or.inl (by decide +kernel)⟩
theorem p_X7_14 : (Tn 7 0).2.2.2 = true ∧ "<init>" = "<init>" ∧ (Tn 7 0).1 = RX7 ∧ Cond.fieldLink RX7 14 (Tn 7 0).1 (Tn 7 0).2.1 (Tn 7 0).2.2.1 ∈ lw_tbl := ⟨rfl, rfl, rfl, by decide +kernel⟩
theorem n_X7_18 : Cond.classLink RX7 18 (Rn 5) ∈ lw_tbl ∧ Cond.instantiable (Rn 5) (cN 5) ∈ lw_tbl ∧ Cond.initialized (Rn 5) ∈ lw_tbl := ⟨by decide +kernel, by decide +kernel, by decide +kernel⟩
theorem c_X7_20 : cL RX7 20 yX5_init cX5_init 2 none 0 := ⟨Or.inl (by decide +kernel), by decide +kernel, by decide +kernel, by decide +kernel, by decide +kernel, by decide +kernel⟩
theorem i_X5_init : Cond.instanceMethod yX5_init ∈ lw_tbl ∧ yX5_init.name = "<init>" := ⟨by decide +kernel, rfl⟩
theorem f_X7_21 : fL RX7 21 7 1 := ⟨by decide, by decide, Or.inl (by decide +kernel)⟩
theorem p_X7_21 : (Tn 7 1).2.2.2 = true ∧ "<init>" = "<init>" ∧ (Tn 7 1).1 = RX7 ∧ Cond.fieldLink RX7 21 (Tn 7 1).1 (Tn 7 1).2.1 (Tn 7 1).2.2.1 ∈ lw_tbl := ⟨rfl, rfl, rfl, by decide +kernel⟩
theorem n_X7_25 : Cond.classLink RX7 25 (Rn 6) ∈ lw_tbl ∧ Cond.instantiable (Rn 6) (cN 6) ∈ lw_tbl ∧ Cond.initialized (Rn 6) ∈ lw_tbl := ⟨by decide +kernel, by decide +kernel, by decide +kernel⟩
theorem c_X7_27 : cL RX7 27 yX6_init cX6_init 1 none 0 := ⟨Or.inr (by decide +kernel), by decide +kernel, by decide +kernel, by decide +kernel, by decide +kernel, by decide +kernel⟩
theorem i_X6_init : Cond.instanceMethod yX6_init ∈ lw_tbl ∧ yX6_init.name = "<init>" := ⟨by decide +kernel, rfl⟩
theorem f_X7_28 : fL RX7 28 7 2 := ⟨by decide, by decide, Or.inl (by decide +kernel)⟩
theorem p_X7_28 : (Tn 7 2).2.2.2 = true ∧ "<init>" = "<init>" ∧ (Tn 7 2).1 = RX7 ∧ Cond.fieldLink RX7 28 (Tn 7 2).1 (Tn 7 2).2.1 (Tn 7 2).2.2.1 ∈ lw_tbl := ⟨rfl, rfl, rfl, by decide +kernel⟩
theorem f_X7_32 : fL RX7 32 7 3 := ⟨by decide, by decide, Or.inl (by decide +kernel)⟩
theorem p_X7_32 : (Tn 7 3).2.2.2 = true ∧ "<init>" = "<init>" ∧ (Tn 7 3).1 = RX7 ∧ Cond.fieldLink RX7 32 (Tn 7 3).1 (Tn 7 3).2.1 (Tn 7 3).2.2.1 ∈ lw_tbl := ⟨rfl, rfl, rfl, by decide +kernel⟩
theorem n_X7_35 : Cond.classLink RX7 35 (Rn 3) ∈ lw_tbl ∧ Cond.instantiable (Rn 3) (cN 3) ∈ lw_tbl ∧ Cond.initialized (Rn 3) ∈ lw_tbl := ⟨by decide +kernel, by decide +kernel, by decide +kernel⟩
theorem c_X7_37 : cL RX7 37 yX3_init cX3_init 1 none 0 := ⟨Or.inr (by decide +kernel), by decide +kernel, by decide +kernel, by decide +kernel, by decide +kernel, by decide +kernel⟩
theorem i_X3_init : Cond.instanceMethod yX3_init ∈ lw_tbl ∧ yX3_init.name = "<init>" := ⟨by decide +kernel, rfl⟩
theorem f_X7_38 : fL RX7 38 7 4 := ⟨by decide, by decide, Or.inl (by decide +kernel)⟩
theorem p_X7_38 : (Tn 7 4).2.2.2 = true ∧ "<init>" = "<init>" ∧ (Tn 7 4).1 = RX7 ∧ Cond.fieldLink RX7 38 (Tn 7 4).1 (Tn 7 4).2.1 (Tn 7 4).2.2.1 ∈ lw_tbl := ⟨rfl, rfl, rfl, by decide +kernel⟩
theorem n_X7_42 : Cond.classLink RX7 42 (Rn 1) ∈ lw_tbl ∧ Cond.instantiable (Rn 1) (cN 1) ∈ lw_tbl ∧ Cond.initialized (Rn 1) ∈ lw_tbl := ⟨by decide +kernel, by decide +kernel, by decide +kernel⟩
theorem c_X7_44 : cL RX7 44 yX1_init cX1_init 1 none 0 := ⟨Or.inr (by decide +kernel), by decide +kernel, by decide +kernel, by decide +kernel, by decide +kernel, by decide +kernel⟩
theorem i_X1_init : Cond.instanceMethod yX1_init ∈ lw_tbl ∧ yX1_init.name = "<init>" := ⟨by decide +kernel, rfl⟩
theorem f_X7_45 : fL RX7 45 7 5 := ⟨by decide, by decide, Or.inl (by decide +kernel)⟩
theorem p_X7_45 : (Tn 7 5).2.2.2 = true ∧ "<init>" = "<init>" ∧ (Tn 7 5).1 = RX7 ∧ Cond.fieldLink RX7 45 (Tn 7 5).1 (Tn 7 5).2.1 (Tn 7 5).2.2.1 ∈ lw_tbl := ⟨rfl, rfl, rfl, by decide +kernel⟩
theorem n_X7_49 : Cond.classLink RX7 49 (Rn 2) ∈ lw_tbl ∧ Cond.instantiable (Rn 2) (cN 2) ∈ lw_tbl ∧ Cond.initialized (Rn 2) ∈ lw_tbl := ⟨by decide +kernel, by decide +kernel, by decide +kernel⟩
theorem c_X7_51 : cL RX7 51 yX2_init cX2_init 1 none 0 := ⟨Or.inr (by decide +kernel), by decide +kernel, by decide +kernel, by decide +kernel, by decide +kernel, by decide +kernel⟩
theorem i_X2_init : Cond.instanceMethod yX2_init ∈ lw_tbl ∧ yX2_init.name = "<init>" := ⟨by decide +kernel, rfl⟩
theorem f_X7_52 : fL RX7 52 7 6 := ⟨by decide, by decide, Or.inl (by decide +kernel)⟩
theorem p_X7_52 : (Tn 7 6).2.2.2 = true ∧ "<init>" = "<init>" ∧ (Tn 7 6).1 = RX7 ∧ Cond.fieldLink RX7 52 (Tn 7 6).1 (Tn 7 6).2.1 (Tn 7 6).2.2.1 ∈ lw_tbl := ⟨rfl, rfl, rfl, by decide +kernel⟩
theorem f_X7_56 : fL RX7 56 0 1 := ⟨by decide, by decide, Or.inr (by decide +kernel)⟩
theorem c_X7_60 : cL RX7 60 yX0_appendFour cX0_appendFour 3 none 1 := ⟨Or.inl (by decide +kernel), by decide +kernel, by decide +kernel, by decide +kernel, by decide +kernel, by decide +kernel⟩
theorem v_X0_appendFour : Cond.instanceMethod yX0_appendFour ∈ lw_tbl ∧ Cond.selects yX0_appendFour.cls yX0_appendFour yX0_appendFour ∈ lw_tbl ∧ 0 < 9 ∧ Rn 0 = yX0_appendFour.cls := ⟨by decide +kernel, by decide +kernel, by decide, rfl⟩
theorem c_X7_63 : cL RX7 63 yX5_replace cX5_replace 5 none 3 := ⟨Or.inl (by decide +kernel), by decide +kernel, by decide +kernel, by decide +kernel, by decide +kernel, by decide +kernel⟩
theorem v_X5_replace : Cond.instanceMethod yX5_replace ∈ lw_tbl ∧ Cond.selects yX5_replace.cls yX5_replace yX5_replace ∈ lw_tbl ∧ 5 < 9 ∧ Rn 5 = yX5_replace.cls := ⟨by decide +kernel, by decide +kernel, by decide, rfl⟩
theorem c_X7_67 : cL RX7 67 yX5_has cX5_has 2 (some .boolean) 1 := ⟨Or.inl (by decide +kernel), by decide +kernel, by decide +kernel, by decide +kernel, by decide +kernel, by decide +kernel⟩
theorem v_X5_has : Cond.instanceMethod yX5_has ∈ lw_tbl ∧ Cond.selects yX5_has.cls yX5_has yX5_has ∈ lw_tbl ∧ 5 < 9 ∧ Rn 5 = yX5_has.cls := ⟨by decide +kernel, by decide +kernel, by decide, rfl⟩
theorem c_X7_71 : cL RX7 71 yX5_bytesOf cX5_bytesOf 2 (some (.object "PatchBench$Bytes")) 1 := ⟨Or.inl (by decide +kernel), by decide +kernel, by decide +kernel, by decide +kernel, by decide +kernel, by decide +kernel⟩
theorem v_X5_bytesOf : Cond.instanceMethod yX5_bytesOf ∈ lw_tbl ∧ Cond.selects yX5_bytesOf.cls yX5_bytesOf yX5_bytesOf ∈ lw_tbl ∧ 5 < 9 ∧ Rn 5 = yX5_bytesOf.cls := ⟨by decide +kernel, by decide +kernel, by decide, rfl⟩
theorem c_X7_75 : cL RX7 75 yX0_at cX0_at 2 (some .int) 1 := ⟨Or.inl (by decide +kernel), by decide +kernel, by decide +kernel, by decide +kernel, by decide +kernel, by decide +kernel⟩
theorem v_X0_at : Cond.instanceMethod yX0_at ∈ lw_tbl ∧ Cond.selects yX0_at.cls yX0_at yX0_at ∈ lw_tbl ∧ 0 < 9 ∧ Rn 0 = yX0_at.cls := ⟨by decide +kernel, by decide +kernel, by decide, rfl⟩
theorem c_X7_79 : cL RX7 79 yX0_checksum cX0_checksum 3 (some .int) 0 := ⟨Or.inl (by decide +kernel), by decide +kernel, by decide +kernel, by decide +kernel, by decide +kernel, by decide +kernel⟩
theorem v_X0_checksum : Cond.instanceMethod yX0_checksum ∈ lw_tbl ∧ Cond.selects yX0_checksum.cls yX0_checksum yX0_checksum ∈ lw_tbl ∧ 0 < 9 ∧ Rn 0 = yX0_checksum.cls := ⟨by decide +kernel, by decide +kernel, by decide, rfl⟩
theorem c_X7_83 : cL RX7 83 yX5_priceOf cX5_priceOf 3 (some .int) 2 := ⟨Or.inl (by decide +kernel), by decide +kernel, by decide +kernel, by decide +kernel, by decide +kernel, by decide +kernel⟩
theorem v_X5_priceOf : Cond.instanceMethod yX5_priceOf ∈ lw_tbl ∧ Cond.selects yX5_priceOf.cls yX5_priceOf yX5_priceOf ∈ lw_tbl ∧ 5 < 9 ∧ Rn 5 = yX5_priceOf.cls := ⟨by decide +kernel, by decide +kernel, by decide, rfl⟩
theorem c_X7_87 : cL RX7 87 yX5_patchOf cX5_patchOf 4 (some (.object "PatchBench$Patch")) 2 := ⟨Or.inl (by decide +kernel), by decide +kernel, by decide +kernel, by decide +kernel, by decide +kernel, by decide +kernel⟩
theorem v_X5_patchOf : Cond.instanceMethod yX5_patchOf ∈ lw_tbl ∧ Cond.selects yX5_patchOf.cls yX5_patchOf yX5_patchOf ∈ lw_tbl ∧ 5 < 9 ∧ Rn 5 = yX5_patchOf.cls := ⟨by decide +kernel, by decide +kernel, by decide, rfl⟩
theorem c_X7_91 : cL RX7 91 yX3_tell cX3_tell 3 (some .int) 2 := ⟨Or.inl (by decide +kernel), by decide +kernel, by decide +kernel, by decide +kernel, by decide +kernel, by decide +kernel⟩
theorem v_X3_tell : Cond.instanceMethod yX3_tell ∈ lw_tbl ∧ Cond.selects yX3_tell.cls yX3_tell yX3_tell ∈ lw_tbl ∧ 3 < 9 ∧ Rn 3 = yX3_tell.cls := ⟨by decide +kernel, by decide +kernel, by decide, rfl⟩
theorem c_X7_94 : cL RX7 94 yX6_follow cX6_follow 6 none 2 := ⟨Or.inl (by decide +kernel), by decide +kernel, by decide +kernel, by decide +kernel, by decide +kernel, by decide +kernel⟩
theorem v_X6_follow : Cond.instanceMethod yX6_follow ∈ lw_tbl ∧ Cond.selects yX6_follow.cls yX6_follow yX6_follow ∈ lw_tbl ∧ 6 < 9 ∧ Rn 6 = yX6_follow.cls := ⟨by decide +kernel, by decide +kernel, by decide, rfl⟩
theorem c_X7_98 : cL RX7 98 yX6_reachThrough cX6_reachThrough 4 none 1 := ⟨Or.inl (by decide +kernel), by decide +kernel, by decide +kernel, by decide +kernel, by decide +kernel, by decide +kernel⟩
theorem v_X6_reachThrough : Cond.instanceMethod yX6_reachThrough ∈ lw_tbl ∧ Cond.selects yX6_reachThrough.cls yX6_reachThrough yX6_reachThrough ∈ lw_tbl ∧ 6 < 9 ∧ Rn 6 = yX6_reachThrough.cls := ⟨by decide +kernel, by decide +kernel, by decide, rfl⟩
theorem c_X7_102 : cL RX7 102 yX6_gather cX6_gather 5 none 1 := ⟨Or.inl (by decide +kernel), by decide +kernel, by decide +kernel, by decide +kernel, by decide +kernel, by decide +kernel⟩
theorem v_X6_gather : Cond.instanceMethod yX6_gather ∈ lw_tbl ∧ Cond.selects yX6_gather.cls yX6_gather yX6_gather ∈ lw_tbl ∧ 6 < 9 ∧ Rn 6 = yX6_gather.cls := ⟨by decide +kernel, by decide +kernel, by decide, rfl⟩
theorem f_X7_106 : fL RX7 106 3 5 := ⟨by decide, by decide, Or.inr (by decide +kernel)⟩
theorem f_X7_109 : fL RX7 109 3 4 := ⟨by decide, by decide, Or.inr (by decide +kernel)⟩
theorem c_X7_112 : cL RX7 112 yX6_countKept cX6_countKept 5 (some .int) 1 := ⟨Or.inl (by decide +kernel), by decide +kernel, by decide +kernel, by decide +kernel, by decide +kernel, by decide +kernel⟩
theorem v_X6_countKept : Cond.instanceMethod yX6_countKept ∈ lw_tbl ∧ Cond.selects yX6_countKept.cls yX6_countKept yX6_countKept ∈ lw_tbl ∧ 6 < 9 ∧ Rn 6 = yX6_countKept.cls := ⟨by decide +kernel, by decide +kernel, by decide, rfl⟩
theorem m_X7_115 : Cond.methodLink RX7 115 Lib.Math.min.name ∈ lw_tbl := by decide +kernel
theorem c_X7_120 : cL RX7 120 yX1_load cX1_load 2 none 1 := ⟨Or.inl (by decide +kernel), by decide +kernel, by decide +kernel, by decide +kernel, by decide +kernel, by decide +kernel⟩
theorem v_X1_load : Cond.instanceMethod yX1_load ∈ lw_tbl ∧ Cond.selects yX1_load.cls yX1_load yX1_load ∈ lw_tbl ∧ 1 < 9 ∧ Rn 1 = yX1_load.cls := ⟨by decide +kernel, by decide +kernel, by decide, rfl⟩
theorem f_X7_124 : fL RX7 124 1 9 := ⟨by decide, by decide, Or.inr (by decide +kernel)⟩
theorem c_X7_128 : cL RX7 128 yX1_fits cX1_fits 2 (some .boolean) 1 := ⟨Or.inl (by decide +kernel), by decide +kernel, by decide +kernel, by decide +kernel, by decide +kernel, by decide +kernel⟩
theorem v_X1_fits : Cond.instanceMethod yX1_fits ∈ lw_tbl ∧ Cond.selects yX1_fits.cls yX1_fits yX1_fits ∈ lw_tbl ∧ 1 < 9 ∧ Rn 1 = yX1_fits.cls := ⟨by decide +kernel, by decide +kernel, by decide, rfl⟩
theorem c_X7_132 : cL RX7 132 yX1_begin cX1_begin 3 none 1 := ⟨Or.inl (by decide +kernel), by decide +kernel, by decide +kernel, by decide +kernel, by decide +kernel, by decide +kernel⟩
theorem v_X1_begin : Cond.instanceMethod yX1_begin ∈ lw_tbl ∧ Cond.selects yX1_begin.cls yX1_begin yX1_begin ∈ lw_tbl ∧ 1 < 9 ∧ Rn 1 = yX1_begin.cls := ⟨by decide +kernel, by decide +kernel, by decide, rfl⟩
theorem c_X7_135 : cL RX7 135 yX1_writesLeft cX1_writesLeft 1 (some .int) 0 := ⟨Or.inl (by decide +kernel), by decide +kernel, by decide +kernel, by decide +kernel, by decide +kernel, by decide +kernel⟩
theorem v_X1_writesLeft : Cond.instanceMethod yX1_writesLeft ∈ lw_tbl ∧ Cond.selects yX1_writesLeft.cls yX1_writesLeft yX1_writesLeft ∈ lw_tbl ∧ 1 < 9 ∧ Rn 1 = yX1_writesLeft.cls := ⟨by decide +kernel, by decide +kernel, by decide, rfl⟩
theorem f_X7_138 : fL RX7 138 1 10 := ⟨by decide, by decide, Or.inr (by decide +kernel)⟩
theorem c_X7_141 : cL RX7 141 yX1_makeWrites cX1_makeWrites 3 (some .int) 1 := ⟨Or.inl (by decide +kernel), by decide +kernel, by decide +kernel, by decide +kernel, by decide +kernel, by decide +kernel⟩
theorem v_X1_makeWrites : Cond.instanceMethod yX1_makeWrites ∈ lw_tbl ∧ Cond.selects yX1_makeWrites.cls yX1_makeWrites yX1_makeWrites ∈ lw_tbl ∧ 1 < 9 ∧ Rn 1 = yX1_makeWrites.cls := ⟨by decide +kernel, by decide +kernel, by decide, rfl⟩
theorem c_X7_144 : cL RX7 144 yX1_resume cX1_resume 1 none 0 := ⟨Or.inl (by decide +kernel), by decide +kernel, by decide +kernel, by decide +kernel, by decide +kernel, by decide +kernel⟩
theorem v_X1_resume : Cond.instanceMethod yX1_resume ∈ lw_tbl ∧ Cond.selects yX1_resume.cls yX1_resume yX1_resume ∈ lw_tbl ∧ 1 < 9 ∧ Rn 1 = yX1_resume.cls := ⟨by decide +kernel, by decide +kernel, by decide, rfl⟩
theorem c_X7_147 : cL RX7 147 yX1_tell cX1_tell 2 (some .int) 1 := ⟨Or.inl (by decide +kernel), by decide +kernel, by decide +kernel, by decide +kernel, by decide +kernel, by decide +kernel⟩
theorem v_X1_tell : Cond.instanceMethod yX1_tell ∈ lw_tbl ∧ Cond.selects yX1_tell.cls yX1_tell yX1_tell ∈ lw_tbl ∧ 1 < 9 ∧ Rn 1 = yX1_tell.cls := ⟨by decide +kernel, by decide +kernel, by decide, rfl⟩
theorem c_X7_149 : cL RX7 149 yX1_areaByte cX1_areaByte 2 (some .int) 1 := ⟨Or.inl (by decide +kernel), by decide +kernel, by decide +kernel, by decide +kernel, by decide +kernel, by decide +kernel⟩
theorem v_X1_areaByte : Cond.instanceMethod yX1_areaByte ∈ lw_tbl ∧ Cond.selects yX1_areaByte.cls yX1_areaByte yX1_areaByte ∈ lw_tbl ∧ 1 < 9 ∧ Rn 1 = yX1_areaByte.cls := ⟨by decide +kernel, by decide +kernel, by decide, rfl⟩
theorem c_X7_152 : cL RX7 152 yX2_setDevices cX2_setDevices 3 none 2 := ⟨Or.inl (by decide +kernel), by decide +kernel, by decide +kernel, by decide +kernel, by decide +kernel, by decide +kernel⟩
theorem v_X2_setDevices : Cond.instanceMethod yX2_setDevices ∈ lw_tbl ∧ Cond.selects yX2_setDevices.cls yX2_setDevices yX2_setDevices ∈ lw_tbl ∧ 2 < 9 ∧ Rn 2 = yX2_setDevices.cls := ⟨by decide +kernel, by decide +kernel, by decide, rfl⟩
theorem c_X7_156 : cL RX7 156 yX2_holdPair cX2_holdPair 5 (some .boolean) 3 := ⟨Or.inl (by decide +kernel), by decide +kernel, by decide +kernel, by decide +kernel, by decide +kernel, by decide +kernel⟩
theorem v_X2_holdPair : Cond.instanceMethod yX2_holdPair ∈ lw_tbl ∧ Cond.selects yX2_holdPair.cls yX2_holdPair yX2_holdPair ∈ lw_tbl ∧ 2 < 9 ∧ Rn 2 = yX2_holdPair.cls := ⟨by decide +kernel, by decide +kernel, by decide, rfl⟩
theorem c_X7_160 : cL RX7 160 yX5_greatest cX5_greatest 2 (some .int) 0 := ⟨Or.inl (by decide +kernel), by decide +kernel, by decide +kernel, by decide +kernel, by decide +kernel, by decide +kernel⟩
theorem v_X5_greatest : Cond.instanceMethod yX5_greatest ∈ lw_tbl ∧ Cond.selects yX5_greatest.cls yX5_greatest yX5_greatest ∈ lw_tbl ∧ 5 < 9 ∧ Rn 5 = yX5_greatest.cls := ⟨by decide +kernel, by decide +kernel, by decide, rfl⟩
theorem f_X7_163 : fL RX7 163 2 3 := ⟨by decide, by decide, Or.inr (by decide +kernel)⟩
theorem c_X7_166 : cL RX7 166 yX2_learnPrices cX2_learnPrices 5 none 2 := ⟨Or.inl (by decide +kernel), by decide +kernel, by decide +kernel, by decide +kernel, by decide +kernel, by decide +kernel⟩
theorem v_X2_learnPrices : Cond.instanceMethod yX2_learnPrices ∈ lw_tbl ∧ Cond.selects yX2_learnPrices.cls yX2_learnPrices yX2_learnPrices ∈ lw_tbl ∧ 2 < 9 ∧ Rn 2 = yX2_learnPrices.cls := ⟨by decide +kernel, by decide +kernel, by decide, rfl⟩
theorem c_X7_170 : cL RX7 170 yX2_sentWith cX2_sentWith 4 (some .int) 1 := ⟨Or.inl (by decide +kernel), by decide +kernel, by decide +kernel, by decide +kernel, by decide +kernel, by decide +kernel⟩
theorem v_X2_sentWith : Cond.instanceMethod yX2_sentWith ∈ lw_tbl ∧ Cond.selects yX2_sentWith.cls yX2_sentWith yX2_sentWith ∈ lw_tbl ∧ 2 < 9 ∧ Rn 2 = yX2_sentWith.cls := ⟨by decide +kernel, by decide +kernel, by decide, rfl⟩
theorem c_X7_173 : cL RX7 173 yX2_choose cX2_choose 3 none 1 := ⟨Or.inl (by decide +kernel), by decide +kernel, by decide +kernel, by decide +kernel, by decide +kernel, by decide +kernel⟩
theorem v_X2_choose : Cond.instanceMethod yX2_choose ∈ lw_tbl ∧ Cond.selects yX2_choose.cls yX2_choose yX2_choose ∈ lw_tbl ∧ 2 < 9 ∧ Rn 2 = yX2_choose.cls := ⟨by decide +kernel, by decide +kernel, by decide, rfl⟩
theorem f_X7_176 : fL RX7 176 2 6 := ⟨by decide, by decide, Or.inr (by decide +kernel)⟩
theorem f_X7_179 : fL RX7 179 2 7 := ⟨by decide, by decide, Or.inr (by decide +kernel)⟩
theorem o_X8_1 : Cond.methodLink RX8 1 objectInit ∈ lw_tbl := by decide +kernel
theorem f_X8_7 : fL RX8 7 8 0 := ⟨by decide, by decide, Or.inl (by decide +kernel)⟩
theorem p_X8_7 : (Tn 8 0).2.2.2 = true ∧ "<init>" = "<init>" ∧ (Tn 8 0).1 = RX8 ∧ Cond.fieldLink RX8 7 (Tn 8 0).1 (Tn 8 0).2.1 (Tn 8 0).2.2.1 ∈ lw_tbl := ⟨rfl, rfl, rfl, by decide +kernel⟩
theorem f_X8_13 : fL RX8 13 8 2 := ⟨by decide, by decide, Or.inl (by decide +kernel)⟩
theorem p_X8_13 : (Tn 8 2).2.2.2 = true ∧ "<init>" = "<init>" ∧ (Tn 8 2).1 = RX8 ∧ Cond.fieldLink RX8 13 (Tn 8 2).1 (Tn 8 2).2.1 (Tn 8 2).2.2.1 ∈ lw_tbl := ⟨rfl, rfl, rfl, by decide +kernel⟩
theorem f_X8_16 : fL RX8 16 8 3 := ⟨by decide, by decide, Or.inl (by decide +kernel)⟩
theorem p_X8_16 : (Tn 8 3).2.2.2 = true ∧ "<init>" = "<init>" ∧ (Tn 8 3).1 = RX8 ∧ Cond.fieldLink RX8 16 (Tn 8 3).1 (Tn 8 3).2.1 (Tn 8 3).2.2.1 ∈ lw_tbl := ⟨rfl, rfl, rfl, by decide +kernel⟩
theorem f_X8_20 : fL RX8 20 8 4 := ⟨by decide, by decide, Or.inl (by decide +kernel)⟩
theorem p_X8_20 : (Tn 8 4).2.2.2 = true ∧ "<init>" = "<init>" ∧ (Tn 8 4).1 = RX8 ∧ Cond.fieldLink RX8 20 (Tn 8 4).1 (Tn 8 4).2.1 (Tn 8 4).2.2.1 ∈ lw_tbl := ⟨rfl, rfl, rfl, by decide +kernel⟩
theorem f_X8_23 : fL RX8 23 8 5 := ⟨by decide, by decide, Or.inl (by decide +kernel)⟩
theorem p_X8_23 : (Tn 8 5).2.2.2 = true ∧ "<init>" = "<init>" ∧ (Tn 8 5).1 = RX8 ∧ Cond.fieldLink RX8 23 (Tn 8 5).1 (Tn 8 5).2.1 (Tn 8 5).2.2.1 ∈ lw_tbl := ⟨rfl, rfl, rfl, by decide +kernel⟩
theorem f_X8_26 : fL RX8 26 8 6 := ⟨by decide, by decide, Or.inl (by decide +kernel)⟩
theorem p_X8_26 : (Tn 8 6).2.2.2 = true ∧ "<init>" = "<init>" ∧ (Tn 8 6).1 = RX8 ∧ Cond.fieldLink RX8 26 (Tn 8 6).1 (Tn 8 6).2.1 (Tn 8 6).2.2.1 ∈ lw_tbl := ⟨rfl, rfl, rfl, by decide +kernel⟩
theorem f_X8_29 : fL RX8 29 8 7 := ⟨by decide, by decide, Or.inl (by decide +kernel)⟩
theorem p_X8_29 : (Tn 8 7).2.2.2 = true ∧ "<init>" = "<init>" ∧ (Tn 8 7).1 = RX8 ∧ Cond.fieldLink RX8 29 (Tn 8 7).1 (Tn 8 7).2.1 (Tn 8 7).2.2.1 ∈ lw_tbl := ⟨rfl, rfl, rfl, by decide +kernel⟩
theorem f_X8_32 : fL RX8 32 8 8 := ⟨by decide, by decide, Or.inl (by decide +kernel)⟩
theorem p_X8_32 : (Tn 8 8).2.2.2 = true ∧ "<init>" = "<init>" ∧ (Tn 8 8).1 = RX8 ∧ Cond.fieldLink RX8 32 (Tn 8 8).1 (Tn 8 8).2.1 (Tn 8 8).2.2.1 ∈ lw_tbl := ⟨rfl, rfl, rfl, by decide +kernel⟩
theorem f_X8_35 : fL RX8 35 8 9 := ⟨by decide, by decide, Or.inl (by decide +kernel)⟩
theorem p_X8_35 : (Tn 8 9).2.2.2 = true ∧ "<init>" = "<init>" ∧ (Tn 8 9).1 = RX8 ∧ Cond.fieldLink RX8 35 (Tn 8 9).1 (Tn 8 9).2.1 (Tn 8 9).2.2.1 ∈ lw_tbl := ⟨rfl, rfl, rfl, by decide +kernel⟩
theorem f_X8_38 : fL RX8 38 8 12 := ⟨by decide, by decide, Or.inl (by decide +kernel)⟩
theorem p_X8_38 : (Tn 8 12).2.2.2 = true ∧ "<init>" = "<init>" ∧ (Tn 8 12).1 = RX8 ∧ Cond.fieldLink RX8 38 (Tn 8 12).1 (Tn 8 12).2.1 (Tn 8 12).2.2.1 ∈ lw_tbl := ⟨rfl, rfl, rfl, by decide +kernel⟩
theorem f_X8_41 : fL RX8 41 8 13 := ⟨by decide, by decide, Or.inl (by decide +kernel)⟩
theorem p_X8_41 : (Tn 8 13).2.2.2 = true ∧ "<init>" = "<init>" ∧ (Tn 8 13).1 = RX8 ∧ Cond.fieldLink RX8 41 (Tn 8 13).1 (Tn 8 13).2.1 (Tn 8 13).2.2.1 ∈ lw_tbl := ⟨rfl, rfl, rfl, by decide +kernel⟩
theorem f_X8_44 : fL RX8 44 8 14 := ⟨by decide, by decide, Or.inl (by decide +kernel)⟩
theorem p_X8_44 : (Tn 8 14).2.2.2 = true ∧ "<init>" = "<init>" ∧ (Tn 8 14).1 = RX8 ∧ Cond.fieldLink RX8 44 (Tn 8 14).1 (Tn 8 14).2.1 (Tn 8 14).2.2.1 ∈ lw_tbl := ⟨rfl, rfl, rfl, by decide +kernel⟩
theorem f_X8_47 : fL RX8 47 8 15 := ⟨by decide, by decide, Or.inl (by decide +kernel)⟩
theorem p_X8_47 : (Tn 8 15).2.2.2 = true ∧ "<init>" = "<init>" ∧ (Tn 8 15).1 = RX8 ∧ Cond.fieldLink RX8 47 (Tn 8 15).1 (Tn 8 15).2.1 (Tn 8 15).2.2.1 ∈ lw_tbl := ⟨rfl, rfl, rfl, by decide +kernel⟩
theorem f_X8_50 : fL RX8 50 8 16 := ⟨by decide, by decide, Or.inl (by decide +kernel)⟩
theorem p_X8_50 : (Tn 8 16).2.2.2 = true ∧ "<init>" = "<init>" ∧ (Tn 8 16).1 = RX8 ∧ Cond.fieldLink RX8 50 (Tn 8 16).1 (Tn 8 16).2.1 (Tn 8 16).2.2.1 ∈ lw_tbl := ⟨rfl, rfl, rfl, by decide +kernel⟩
theorem f_X8_53 : fL RX8 53 8 17 := ⟨by decide, by decide, Or.inl (by decide +kernel)⟩
theorem p_X8_53 : (Tn 8 17).2.2.2 = true ∧ "<init>" = "<init>" ∧ (Tn 8 17).1 = RX8 ∧ Cond.fieldLink RX8 53 (Tn 8 17).1 (Tn 8 17).2.1 (Tn 8 17).2.2.1 ∈ lw_tbl := ⟨rfl, rfl, rfl, by decide +kernel⟩
theorem f_X8_56 : fL RX8 56 8 18 := ⟨by decide, by decide, Or.inl (by decide +kernel)⟩
theorem p_X8_56 : (Tn 8 18).2.2.2 = true ∧ "<init>" = "<init>" ∧ (Tn 8 18).1 = RX8 ∧ Cond.fieldLink RX8 56 (Tn 8 18).1 (Tn 8 18).2.1 (Tn 8 18).2.2.1 ∈ lw_tbl := ⟨rfl, rfl, rfl, by decide +kernel⟩
theorem f_X8_59 : fL RX8 59 8 19 := ⟨by decide, by decide, Or.inl (by decide +kernel)⟩
theorem p_X8_59 : (Tn 8 19).2.2.2 = true ∧ "<init>" = "<init>" ∧ (Tn 8 19).1 = RX8 ∧ Cond.fieldLink RX8 59 (Tn 8 19).1 (Tn 8 19).2.1 (Tn 8 19).2.2.1 ∈ lw_tbl := ⟨rfl, rfl, rfl, by decide +kernel⟩
theorem f_X8_62 : fL RX8 62 8 21 := ⟨by decide, by decide, Or.inl (by decide +kernel)⟩
theorem p_X8_62 : (Tn 8 21).2.2.2 = true ∧ "<init>" = "<init>" ∧ (Tn 8 21).1 = RX8 ∧ Cond.fieldLink RX8 62 (Tn 8 21).1 (Tn 8 21).2.1 (Tn 8 21).2.2.1 ∈ lw_tbl := ⟨rfl, rfl, rfl, by decide +kernel⟩
theorem f_X8_66 : fL RX8 66 8 22 := ⟨by decide, by decide, Or.inl (by decide +kernel)⟩
theorem p_X8_66 : (Tn 8 22).2.2.2 = true ∧ "<init>" = "<init>" ∧ (Tn 8 22).1 = RX8 ∧ Cond.fieldLink RX8 66 (Tn 8 22).1 (Tn 8 22).2.1 (Tn 8 22).2.2.1 ∈ lw_tbl := ⟨rfl, rfl, rfl, by decide +kernel⟩
theorem f_X8_69 : fL RX8 69 8 23 := ⟨by decide, by decide, Or.inl (by decide +kernel)⟩
theorem p_X8_69 : (Tn 8 23).2.2.2 = true ∧ "<init>" = "<init>" ∧ (Tn 8 23).1 = RX8 ∧ Cond.fieldLink RX8 69 (Tn 8 23).1 (Tn 8 23).2.1 (Tn 8 23).2.2.1 ∈ lw_tbl := ⟨rfl, rfl, rfl, by decide +kernel⟩
theorem f_X8_72 : fL RX8 72 8 32 := ⟨by decide, by decide, Or.inl (by decide +kernel)⟩
theorem p_X8_72 : (Tn 8 32).2.2.2 = true ∧ "<init>" = "<init>" ∧ (Tn 8 32).1 = RX8 ∧ Cond.fieldLink RX8 72 (Tn 8 32).1 (Tn 8 32).2.1 (Tn 8 32).2.2.1 ∈ lw_tbl := ⟨rfl, rfl, rfl, by decide +kernel⟩
theorem f_X8_75 : fL RX8 75 8 33 := ⟨by decide, by decide, Or.inl (by decide +kernel)⟩
theorem p_X8_75 : (Tn 8 33).2.2.2 = true ∧ "<init>" = "<init>" ∧ (Tn 8 33).1 = RX8 ∧ Cond.fieldLink RX8 75 (Tn 8 33).1 (Tn 8 33).2.1 (Tn 8 33).2.2.1 ∈ lw_tbl := ⟨rfl, rfl, rfl, by decide +kernel⟩
theorem f_X8_78 : fL RX8 78 8 34 := ⟨by decide, by decide, Or.inl (by decide +kernel)⟩
theorem p_X8_78 : (Tn 8 34).2.2.2 = true ∧ "<init>" = "<init>" ∧ (Tn 8 34).1 = RX8 ∧ Cond.fieldLink RX8 78 (Tn 8 34).1 (Tn 8 34).2.1 (Tn 8 34).2.2.1 ∈ lw_tbl := ⟨rfl, rfl, rfl, by decide +kernel⟩
theorem f_X8_81 : fL RX8 81 8 35 := ⟨by decide, by decide, Or.inl (by decide +kernel)⟩
theorem p_X8_81 : (Tn 8 35).2.2.2 = true ∧ "<init>" = "<init>" ∧ (Tn 8 35).1 = RX8 ∧ Cond.fieldLink RX8 81 (Tn 8 35).1 (Tn 8 35).2.1 (Tn 8 35).2.2.1 ∈ lw_tbl := ⟨rfl, rfl, rfl, by decide +kernel⟩
theorem f_X8_84 : fL RX8 84 8 36 := ⟨by decide, by decide, Or.inl (by decide +kernel)⟩
theorem p_X8_84 : (Tn 8 36).2.2.2 = true ∧ "<init>" = "<init>" ∧ (Tn 8 36).1 = RX8 ∧ Cond.fieldLink RX8 84 (Tn 8 36).1 (Tn 8 36).2.1 (Tn 8 36).2.2.1 ∈ lw_tbl := ⟨rfl, rfl, rfl, by decide +kernel⟩
theorem f_X8_87 : fL RX8 87 8 37 := ⟨by decide, by decide, Or.inl (by decide +kernel)⟩
theorem p_X8_87 : (Tn 8 37).2.2.2 = true ∧ "<init>" = "<init>" ∧ (Tn 8 37).1 = RX8 ∧ Cond.fieldLink RX8 87 (Tn 8 37).1 (Tn 8 37).2.1 (Tn 8 37).2.2.1 ∈ lw_tbl := ⟨rfl, rfl, rfl, by decide +kernel⟩
theorem f_X8_90 : fL RX8 90 8 38 := ⟨by decide, by decide, Or.inl (by decide +kernel)⟩
theorem p_X8_90 : (Tn 8 38).2.2.2 = true ∧ "<init>" = "<init>" ∧ (Tn 8 38).1 = RX8 ∧ Cond.fieldLink RX8 90 (Tn 8 38).1 (Tn 8 38).2.1 (Tn 8 38).2.2.1 ∈ lw_tbl := ⟨rfl, rfl, rfl, by decide +kernel⟩
theorem f_X8_93 : fL RX8 93 8 39 := ⟨by decide, by decide, Or.inl (by decide +kernel)⟩
theorem p_X8_93 : (Tn 8 39).2.2.2 = true ∧ "<init>" = "<init>" ∧ (Tn 8 39).1 = RX8 ∧ Cond.fieldLink RX8 93 (Tn 8 39).1 (Tn 8 39).2.1 (Tn 8 39).2.2.1 ∈ lw_tbl := ⟨rfl, rfl, rfl, by decide +kernel⟩
theorem f_X8_96 : fL RX8 96 8 40 := ⟨by decide, by decide, Or.inl (by decide +kernel)⟩
theorem p_X8_96 : (Tn 8 40).2.2.2 = true ∧ "<init>" = "<init>" ∧ (Tn 8 40).1 = RX8 ∧ Cond.fieldLink RX8 96 (Tn 8 40).1 (Tn 8 40).2.1 (Tn 8 40).2.2.1 ∈ lw_tbl := ⟨rfl, rfl, rfl, by decide +kernel⟩
theorem c_X8_99 : cL RX8 99 yX8_isIn cX8_isIn 3 (some .boolean) 3 := ⟨Or.inl (by decide +kernel), by decide +kernel, by decide +kernel, by decide +kernel, by decide +kernel, by decide +kernel⟩
theorem s_X8_isIn : Cond.static yX8_isIn ∈ lw_tbl := by decide +kernel
theorem f_X8_103 : fL RX8 103 8 1 := ⟨by decide, by decide, Or.inl (by decide +kernel)⟩
theorem c_X8_107 : cL RX8 107 yX8_four cX8_four 3 none 1 := ⟨Or.inl (by decide +kernel), by decide +kernel, by decide +kernel, by decide +kernel, by decide +kernel, by decide +kernel⟩
theorem v_X8_four : Cond.instanceMethod yX8_four ∈ lw_tbl ∧ Cond.selects yX8_four.cls yX8_four yX8_four ∈ lw_tbl ∧ 8 < 9 ∧ Rn 8 = yX8_four.cls := ⟨by decide +kernel, by decide +kernel, by decide, rfl⟩
theorem m_X8_111 : Cond.methodLink RX8 111 Lib.Math.min.name ∈ lw_tbl := by decide +kernel
theorem c_X8_117 : cL RX8 117 yX8_isVersion cX8_isVersion 2 (some .boolean) 1 := ⟨Or.inl (by decide +kernel), by decide +kernel, by decide +kernel, by decide +kernel, by decide +kernel, by decide +kernel⟩
theorem v_X8_isVersion : Cond.instanceMethod yX8_isVersion ∈ lw_tbl ∧ Cond.selects yX8_isVersion.cls yX8_isVersion yX8_isVersion ∈ lw_tbl ∧ 8 < 9 ∧ Rn 8 = yX8_isVersion.cls := ⟨by decide +kernel, by decide +kernel, by decide, rfl⟩
theorem c_X8_121 : cL RX8 121 yX8_byteOf cX8_byteOf 3 (some .int) 2 := ⟨Or.inl (by decide +kernel), by decide +kernel, by decide +kernel, by decide +kernel, by decide +kernel, by decide +kernel⟩
theorem v_X8_byteOf : Cond.instanceMethod yX8_byteOf ∈ lw_tbl ∧ Cond.selects yX8_byteOf.cls yX8_byteOf yX8_byteOf ∈ lw_tbl ∧ 8 < 9 ∧ Rn 8 = yX8_byteOf.cls := ⟨by decide +kernel, by decide +kernel, by decide, rfl⟩
theorem k_X8_124 : Cond.constant RX8 124 (65521) ∈ lw_tbl := by decide +kernel
theorem c_X8_125 : cL RX8 125 yX8_next cX8_next 2 (some .int) 2 := ⟨Or.inl (by decide +kernel), by decide +kernel, by decide +kernel, by decide +kernel, by decide +kernel, by decide +kernel⟩
theorem s_X8_next : Cond.static yX8_next ∈ lw_tbl := by decide +kernel
theorem c_X8_128 : cL RX8 128 yX8_apart cX8_apart 5 (some .int) 4 := ⟨Or.inl (by decide +kernel), by decide +kernel, by decide +kernel, by decide +kernel, by decide +kernel, by decide +kernel⟩
theorem v_X8_apart : Cond.instanceMethod yX8_apart ∈ lw_tbl ∧ Cond.selects yX8_apart.cls yX8_apart yX8_apart ∈ lw_tbl ∧ 8 < 9 ∧ Rn 8 = yX8_apart.cls := ⟨by decide +kernel, by decide +kernel, by decide, rfl⟩
theorem c_X8_132 : cL RX8 132 yX8_runAt cX8_runAt 3 (some .int) 2 := ⟨Or.inl (by decide +kernel), by decide +kernel, by decide +kernel, by decide +kernel, by decide +kernel, by decide +kernel⟩
theorem v_X8_runAt : Cond.instanceMethod yX8_runAt ∈ lw_tbl ∧ Cond.selects yX8_runAt.cls yX8_runAt yX8_runAt ∈ lw_tbl ∧ 8 < 9 ∧ Rn 8 = yX8_runAt.cls := ⟨by decide +kernel, by decide +kernel, by decide, rfl⟩
theorem k_X8_135 : Cond.constant RX8 135 (1000000) ∈ lw_tbl := by decide +kernel
theorem m_X8_136 : Cond.methodLink RX8 136 Lib.Math.max.name ∈ lw_tbl := by decide +kernel
theorem f_X8_139 : fL RX8 139 8 11 := ⟨by decide, by decide, Or.inl (by decide +kernel)⟩
theorem f_X8_142 : fL RX8 142 8 10 := ⟨by decide, by decide, Or.inl (by decide +kernel)⟩
theorem c_X8_145 : cL RX8 145 yX8_takes cX8_takes 9 (some .boolean) 4 := ⟨Or.inl (by decide +kernel), by decide +kernel, by decide +kernel, by decide +kernel, by decide +kernel, by decide +kernel⟩
theorem v_X8_takes : Cond.instanceMethod yX8_takes ∈ lw_tbl ∧ Cond.selects yX8_takes.cls yX8_takes yX8_takes ∈ lw_tbl ∧ 8 < 9 ∧ Rn 8 = yX8_takes.cls := ⟨by decide +kernel, by decide +kernel, by decide, rfl⟩
theorem c_X8_149 : cL RX8 149 yX8_adds cX8_adds 4 none 2 := ⟨Or.inl (by decide +kernel), by decide +kernel, by decide +kernel, by decide +kernel, by decide +kernel, by decide +kernel⟩
theorem v_X8_adds : Cond.instanceMethod yX8_adds ∈ lw_tbl ∧ Cond.selects yX8_adds.cls yX8_adds yX8_adds ∈ lw_tbl ∧ 8 < 9 ∧ Rn 8 = yX8_adds.cls := ⟨by decide +kernel, by decide +kernel, by decide, rfl⟩
theorem c_X8_153 : cL RX8 153 yX8_makes cX8_makes 9 none 2 := ⟨Or.inl (by decide +kernel), by decide +kernel, by decide +kernel, by decide +kernel, by decide +kernel, by decide +kernel⟩
theorem v_X8_makes : Cond.instanceMethod yX8_makes ∈ lw_tbl ∧ Cond.selects yX8_makes.cls yX8_makes yX8_makes ∈ lw_tbl ∧ 8 < 9 ∧ Rn 8 = yX8_makes.cls := ⟨by decide +kernel, by decide +kernel, by decide, rfl⟩
theorem f_X8_156 : fL RX8 156 8 20 := ⟨by decide, by decide, Or.inl (by decide +kernel)⟩
theorem c_X8_159 : cL RX8 159 yX8_keeps cX8_keeps 6 (some .int) 2 := ⟨Or.inl (by decide +kernel), by decide +kernel, by decide +kernel, by decide +kernel, by decide +kernel, by decide +kernel⟩
theorem v_X8_keeps : Cond.instanceMethod yX8_keeps ∈ lw_tbl ∧ Cond.selects yX8_keeps.cls yX8_keeps yX8_keeps ∈ lw_tbl ∧ 8 < 9 ∧ Rn 8 = yX8_keeps.cls := ⟨by decide +kernel, by decide +kernel, by decide, rfl⟩
theorem f_X8_163 : fL RX8 163 8 24 := ⟨by decide, by decide, Or.inl (by decide +kernel)⟩
theorem f_X8_166 : fL RX8 166 8 29 := ⟨by decide, by decide, Or.inl (by decide +kernel)⟩
theorem f_X8_170 : fL RX8 170 8 30 := ⟨by decide, by decide, Or.inl (by decide +kernel)⟩
theorem f_X8_173 : fL RX8 173 8 27 := ⟨by decide, by decide, Or.inl (by decide +kernel)⟩
theorem f_X8_176 : fL RX8 176 8 28 := ⟨by decide, by decide, Or.inl (by decide +kernel)⟩
theorem c_X8_179 : cL RX8 179 yX8_checkOfArea cX8_checkOfArea 3 (some .int) 0 := ⟨Or.inl (by decide +kernel), by decide +kernel, by decide +kernel, by decide +kernel, by decide +kernel, by decide +kernel⟩
theorem v_X8_checkOfArea : Cond.instanceMethod yX8_checkOfArea ∈ lw_tbl ∧ Cond.selects yX8_checkOfArea.cls yX8_checkOfArea yX8_checkOfArea ∈ lw_tbl ∧ 8 < 9 ∧ Rn 8 = yX8_checkOfArea.cls := ⟨by decide +kernel, by decide +kernel, by decide, rfl⟩
theorem c_X8_183 : cL RX8 183 yX8_check cX8_check 4 (some .int) 1 := ⟨Or.inl (by decide +kernel), by decide +kernel, by decide +kernel, by decide +kernel, by decide +kernel, by decide +kernel⟩
theorem v_X8_check : Cond.instanceMethod yX8_check ∈ lw_tbl ∧ Cond.selects yX8_check.cls yX8_check yX8_check ∈ lw_tbl ∧ 8 < 9 ∧ Rn 8 = yX8_check.cls := ⟨by decide +kernel, by decide +kernel, by decide, rfl⟩
theorem f_X8_187 : fL RX8 187 8 31 := ⟨by decide, by decide, Or.inl (by decide +kernel)⟩
theorem f_X8_190 : fL RX8 190 8 26 := ⟨by decide, by decide, Or.inl (by decide +kernel)⟩
theorem c_X8_193 : cL RX8 193 yX8_allWrites cX8_allWrites 1 (some .int) 0 := ⟨Or.inl (by decide +kernel), by decide +kernel, by decide +kernel, by decide +kernel, by decide +kernel, by decide +kernel⟩
theorem v_X8_allWrites : Cond.instanceMethod yX8_allWrites ∈ lw_tbl ∧ Cond.selects yX8_allWrites.cls yX8_allWrites yX8_allWrites ∈ lw_tbl ∧ 8 < 9 ∧ Rn 8 = yX8_allWrites.cls := ⟨by decide +kernel, by decide +kernel, by decide, rfl⟩
theorem f_X8_196 : fL RX8 196 8 25 := ⟨by decide, by decide, Or.inl (by decide +kernel)⟩
theorem c_X8_199 : cL RX8 199 yX8_writeOne cX8_writeOne 5 none 1 := ⟨Or.inl (by decide +kernel), by decide +kernel, by decide +kernel, by decide +kernel, by decide +kernel, by decide +kernel⟩
theorem v_X8_writeOne : Cond.instanceMethod yX8_writeOne ∈ lw_tbl ∧ Cond.selects yX8_writeOne.cls yX8_writeOne yX8_writeOne ∈ lw_tbl ∧ 8 < 9 ∧ Rn 8 = yX8_writeOne.cls := ⟨by decide +kernel, by decide +kernel, by decide, rfl⟩
theorem c_X8_202 : cL RX8 202 yX8_pair cX8_pair 2 (some .int) 2 := ⟨Or.inl (by decide +kernel), by decide +kernel, by decide +kernel, by decide +kernel, by decide +kernel, by decide +kernel⟩
theorem s_X8_pair : Cond.static yX8_pair ∈ lw_tbl := by decide +kernel
theorem c_X8_205 : cL RX8 205 yX8_cost cX8_cost 3 (some .int) 2 := ⟨Or.inl (by decide +kernel), by decide +kernel, by decide +kernel, by decide +kernel, by decide +kernel, by decide +kernel⟩
theorem v_X8_cost : Cond.instanceMethod yX8_cost ∈ lw_tbl ∧ Cond.selects yX8_cost.cls yX8_cost yX8_cost ∈ lw_tbl ∧ 8 < 9 ∧ Rn 8 = yX8_cost.cls := ⟨by decide +kernel, by decide +kernel, by decide, rfl⟩
theorem c_X8_208 : cL RX8 208 yX8_greatest cX8_greatest 3 (some .int) 0 := ⟨Or.inl (by decide +kernel), by decide +kernel, by decide +kernel, by decide +kernel, by decide +kernel, by decide +kernel⟩
theorem v_X8_greatest : Cond.instanceMethod yX8_greatest ∈ lw_tbl ∧ Cond.selects yX8_greatest.cls yX8_greatest yX8_greatest ∈ lw_tbl ∧ 8 < 9 ∧ Rn 8 = yX8_greatest.cls := ⟨by decide +kernel, by decide +kernel, by decide, rfl⟩
theorem c_X8_211 : cL RX8 211 yX8_pairCosts cX8_pairCosts 3 none 0 := ⟨Or.inl (by decide +kernel), by decide +kernel, by decide +kernel, by decide +kernel, by decide +kernel, by decide +kernel⟩
theorem v_X8_pairCosts : Cond.instanceMethod yX8_pairCosts ∈ lw_tbl ∧ Cond.selects yX8_pairCosts.cls yX8_pairCosts yX8_pairCosts ∈ lw_tbl ∧ 8 < 9 ∧ Rn 8 = yX8_pairCosts.cls := ⟨by decide +kernel, by decide +kernel, by decide, rfl⟩
theorem c_X8_214 : cL RX8 214 yX8_sentBy cX8_sentBy 6 (some .int) 1 := ⟨Or.inl (by decide +kernel), by decide +kernel, by decide +kernel, by decide +kernel, by decide +kernel, by decide +kernel⟩
theorem v_X8_sentBy : Cond.instanceMethod yX8_sentBy ∈ lw_tbl ∧ Cond.selects yX8_sentBy.cls yX8_sentBy yX8_sentBy ∈ lw_tbl ∧ 8 < 9 ∧ Rn 8 = yX8_sentBy.cls := ⟨by decide +kernel, by decide +kernel, by decide, rfl⟩
theorem c_X8_217 : cL RX8 217 yX8_pairsIn cX8_pairsIn 3 (some .int) 1 := ⟨Or.inl (by decide +kernel), by decide +kernel, by decide +kernel, by decide +kernel, by decide +kernel, by decide +kernel⟩
theorem s_X8_pairsIn : Cond.static yX8_pairsIn ∈ lw_tbl := by decide +kernel
theorem c_X8_220 : cL RX8 220 yX8_isLess cX8_isLess 4 (some .boolean) 2 := ⟨Or.inl (by decide +kernel), by decide +kernel, by decide +kernel, by decide +kernel, by decide +kernel, by decide +kernel⟩
theorem s_X8_isLess : Cond.static yX8_isLess ∈ lw_tbl := by decide +kernel
theorem o_X0_3 : Cond.methodLink RX0 3 objectInit ∈ lw_tbl := by decide +kernel
theorem m_X0_9 : Cond.methodLink RX0 9 Lib.Math.max.name ∈ lw_tbl := by decide +kernel
theorem f_X0_15 : fL RX0 15 0 0 := ⟨by decide, by decide, Or.inl (by decide +kernel)⟩
theorem p_X0_15 : (Tn 0 0).2.2.2 = true ∧ "<init>" = "<init>" ∧ (Tn 0 0).1 = RX0 ∧ Cond.fieldLink RX0 15 (Tn 0 0).1 (Tn 0 0).2.1 (Tn 0 0).2.2.1 ∈ lw_tbl := ⟨rfl, rfl, rfl, by decide +kernel⟩
theorem f_X0_21 : fL RX0 21 0 1 := ⟨by decide, by decide, Or.inl (by decide +kernel)⟩
theorem m_X0_25 : Cond.methodLink RX0 25 Lib.Math.min.name ∈ lw_tbl := by decide +kernel
theorem a_X0_28 : Cond.methodLink RX0 28 arraycopyName ∈ lw_tbl := by decide +kernel
theorem k_X0_34 : Cond.constant RX0 34 (65521) ∈ lw_tbl := by decide +kernel
theorem o_X1_3 : Cond.methodLink RX1 3 objectInit ∈ lw_tbl := by decide +kernel
theorem n_X1_9 : Cond.classLink RX1 9 (Rn 0) ∈ lw_tbl ∧ Cond.instantiable (Rn 0) (cN 0) ∈ lw_tbl ∧ Cond.initialized (Rn 0) ∈ lw_tbl := ⟨by decide +kernel, by decide +kernel, by decide +kernel⟩
theorem c_X1_11 : cL RX1 11 yX0_init cX0_init 2 none 1 := ⟨Or.inl (by decide +kernel), by decide +kernel, by decide +kernel, by decide +kernel, by decide +kernel, by decide +kernel⟩
theorem f_X1_14 : fL RX1 14 1 0 := ⟨by decide, by decide, Or.inl (by decide +kernel)⟩
theorem p_X1_14 : (Tn 1 0).2.2.2 = true ∧ "<init>" = "<init>" ∧ (Tn 1 0).1 = RX1 ∧ Cond.fieldLink RX1 14 (Tn 1 0).1 (Tn 1 0).2.1 (Tn 1 0).2.2.1 ∈ lw_tbl := ⟨rfl, rfl, rfl, by decide +kernel⟩
theorem n_X1_20 : Cond.classLink RX1 20 (Rn 6) ∈ lw_tbl ∧ Cond.instantiable (Rn 6) (cN 6) ∈ lw_tbl ∧ Cond.initialized (Rn 6) ∈ lw_tbl := ⟨by decide +kernel, by decide +kernel, by decide +kernel⟩
theorem c_X1_22 : cL RX1 22 yX6_init cX6_init 1 none 0 := ⟨Or.inr (by decide +kernel), by decide +kernel, by decide +kernel, by decide +kernel, by decide +kernel, by decide +kernel⟩
theorem f_X1_23 : fL RX1 23 1 1 := ⟨by decide, by decide, Or.inl (by decide +kernel)⟩
theorem p_X1_23 : (Tn 1 1).2.2.2 = true ∧ "<init>" = "<init>" ∧ (Tn 1 1).1 = RX1 ∧ Cond.fieldLink RX1 23 (Tn 1 1).1 (Tn 1 1).2.1 (Tn 1 1).2.2.1 ∈ lw_tbl := ⟨rfl, rfl, rfl, by decide +kernel⟩
theorem f_X1_27 : fL RX1 27 1 2 := ⟨by decide, by decide, Or.inl (by decide +kernel)⟩
theorem p_X1_27 : (Tn 1 2).2.2.2 = true ∧ "<init>" = "<init>" ∧ (Tn 1 2).1 = RX1 ∧ Cond.fieldLink RX1 27 (Tn 1 2).1 (Tn 1 2).2.1 (Tn 1 2).2.2.1 ∈ lw_tbl := ⟨rfl, rfl, rfl, by decide +kernel⟩
theorem f_X1_31 : fL RX1 31 1 3 := ⟨by decide, by decide, Or.inl (by decide +kernel)⟩
theorem p_X1_31 : (Tn 1 3).2.2.2 = true ∧ "<init>" = "<init>" ∧ (Tn 1 3).1 = RX1 ∧ Cond.fieldLink RX1 31 (Tn 1 3).1 (Tn 1 3).2.1 (Tn 1 3).2.2.1 ∈ lw_tbl := ⟨rfl, rfl, rfl, by decide +kernel⟩
theorem f_X1_34 : fL RX1 34 0 1 := ⟨by decide, by decide, Or.inr (by decide +kernel)⟩
theorem c_X1_38 : cL RX1 38 yX0_takeFirst cX0_takeFirst 5 none 2 := ⟨Or.inl (by decide +kernel), by decide +kernel, by decide +kernel, by decide +kernel, by decide +kernel, by decide +kernel⟩
theorem v_X0_takeFirst : Cond.instanceMethod yX0_takeFirst ∈ lw_tbl ∧ Cond.selects yX0_takeFirst.cls yX0_takeFirst yX0_takeFirst ∈ lw_tbl ∧ 0 < 9 ∧ Rn 0 = yX0_takeFirst.cls := ⟨by decide +kernel, by decide +kernel, by decide, rfl⟩
theorem c_X1_42 : cL RX1 42 yX1_endUpdate cX1_endUpdate 1 none 0 := ⟨Or.inl (by decide +kernel), by decide +kernel, by decide +kernel, by decide +kernel, by decide +kernel, by decide +kernel⟩
theorem v_X1_endUpdate : Cond.instanceMethod yX1_endUpdate ∈ lw_tbl ∧ Cond.selects yX1_endUpdate.cls yX1_endUpdate yX1_endUpdate ∈ lw_tbl ∧ 1 < 9 ∧ Rn 1 = yX1_endUpdate.cls := ⟨by decide +kernel, by decide +kernel, by decide, rfl⟩
theorem c_X1_45 : cL RX1 45 yX0_checksum cX0_checksum 3 (some .int) 0 := ⟨Or.inl (by decide +kernel), by decide +kernel, by decide +kernel, by decide +kernel, by decide +kernel, by decide +kernel⟩
theorem c_X1_49 : cL RX1 49 yX6_take cX6_take 2 none 1 := ⟨Or.inl (by decide +kernel), by decide +kernel, by decide +kernel, by decide +kernel, by decide +kernel, by decide +kernel⟩
theorem v_X6_take : Cond.instanceMethod yX6_take ∈ lw_tbl ∧ Cond.selects yX6_take.cls yX6_take yX6_take ∈ lw_tbl ∧ 6 < 9 ∧ Rn 6 = yX6_take.cls := ⟨by decide +kernel, by decide +kernel, by decide, rfl⟩
theorem c_X1_53 : cL RX1 53 yX6_countKept cX6_countKept 5 (some .int) 1 := ⟨Or.inl (by decide +kernel), by decide +kernel, by decide +kernel, by decide +kernel, by decide +kernel, by decide +kernel⟩
theorem f_X1_57 : fL RX1 57 1 5 := ⟨by decide, by decide, Or.inl (by decide +kernel)⟩
theorem f_X1_60 : fL RX1 60 1 4 := ⟨by decide, by decide, Or.inl (by decide +kernel)⟩
theorem c_X1_63 : cL RX1 63 yX6_isKept cX6_isKept 2 (some .boolean) 1 := ⟨Or.inl (by decide +kernel), by decide +kernel, by decide +kernel, by decide +kernel, by decide +kernel, by decide +kernel⟩
theorem v_X6_isKept : Cond.instanceMethod yX6_isKept ∈ lw_tbl ∧ Cond.selects yX6_isKept.cls yX6_isKept yX6_isKept ∈ lw_tbl ∧ 6 < 9 ∧ Rn 6 = yX6_isKept.cls := ⟨by decide +kernel, by decide +kernel, by decide, rfl⟩
theorem f_X1_67 : fL RX1 67 1 6 := ⟨by decide, by decide, Or.inl (by decide +kernel)⟩
theorem f_X1_70 : fL RX1 70 1 7 := ⟨by decide, by decide, Or.inl (by decide +kernel)⟩
theorem f_X1_73 : fL RX1 73 1 9 := ⟨by decide, by decide, Or.inl (by decide +kernel)⟩
theorem f_X1_77 : fL RX1 77 1 10 := ⟨by decide, by decide, Or.inl (by decide +kernel)⟩
theorem f_X1_80 : fL RX1 80 6 3 := ⟨by decide, by decide, Or.inr (by decide +kernel)⟩
theorem c_X1_81 : cL RX1 81 yX1_allWrites cX1_allWrites 1 (some .int) 0 := ⟨Or.inl (by decide +kernel), by decide +kernel, by decide +kernel, by decide +kernel, by decide +kernel, by decide +kernel⟩
theorem v_X1_allWrites : Cond.instanceMethod yX1_allWrites ∈ lw_tbl ∧ Cond.selects yX1_allWrites.cls yX1_allWrites yX1_allWrites ∈ lw_tbl ∧ 1 < 9 ∧ Rn 1 = yX1_allWrites.cls := ⟨by decide +kernel, by decide +kernel, by decide, rfl⟩
theorem c_X1_84 : cL RX1 84 yX1_makeNextWrite cX1_makeNextWrite 3 none 0 := ⟨Or.inl (by decide +kernel), by decide +kernel, by decide +kernel, by decide +kernel, by decide +kernel, by decide +kernel⟩
theorem v_X1_makeNextWrite : Cond.instanceMethod yX1_makeNextWrite ∈ lw_tbl ∧ Cond.selects yX1_makeNextWrite.cls yX1_makeNextWrite yX1_makeNextWrite ∈ lw_tbl ∧ 1 < 9 ∧ Rn 1 = yX1_makeNextWrite.cls := ⟨by decide +kernel, by decide +kernel, by decide, rfl⟩
theorem f_X1_87 : fL RX1 87 1 8 := ⟨by decide, by decide, Or.inl (by decide +kernel)⟩
theorem f_X1_90 : fL RX1 90 0 0 := ⟨by decide, by decide, Or.inr (by decide +kernel)⟩
theorem c_X1_93 : cL RX1 93 yX1_writeNewByte cX1_writeNewByte 3 none 1 := ⟨Or.inl (by decide +kernel), by decide +kernel, by decide +kernel, by decide +kernel, by decide +kernel, by decide +kernel⟩
theorem v_X1_writeNewByte : Cond.instanceMethod yX1_writeNewByte ∈ lw_tbl ∧ Cond.selects yX1_writeNewByte.cls yX1_writeNewByte yX1_writeNewByte ∈ lw_tbl ∧ 1 < 9 ∧ Rn 1 = yX1_writeNewByte.cls := ⟨by decide +kernel, by decide +kernel, by decide, rfl⟩
theorem f_X1_96 : fL RX1 96 6 0 := ⟨by decide, by decide, Or.inr (by decide +kernel)⟩
theorem c_X1_99 : cL RX1 99 yX1_oldByte cX1_oldByte 2 (some .int) 1 := ⟨Or.inl (by decide +kernel), by decide +kernel, by decide +kernel, by decide +kernel, by decide +kernel, by decide +kernel⟩
theorem v_X1_oldByte : Cond.instanceMethod yX1_oldByte ∈ lw_tbl ∧ Cond.selects yX1_oldByte.cls yX1_oldByte yX1_oldByte ∈ lw_tbl ∧ 1 < 9 ∧ Rn 1 = yX1_oldByte.cls := ⟨by decide +kernel, by decide +kernel, by decide, rfl⟩
theorem f_X1_102 : fL RX1 102 6 1 := ⟨by decide, by decide, Or.inr (by decide +kernel)⟩
theorem m_X1_105 : Cond.methodLink RX1 105 Lib.Math.min.name ∈ lw_tbl := by decide +kernel
theorem o_X2_3 : Cond.methodLink RX2 3 objectInit ∈ lw_tbl := by decide +kernel
theorem f_X2_9 : fL RX2 9 2 0 := ⟨by decide, by decide, Or.inl (by decide +kernel)⟩
theorem p_X2_9 : (Tn 2 0).2.2.2 = true ∧ "<init>" = "<init>" ∧ (Tn 2 0).1 = RX2 ∧ Cond.fieldLink RX2 9 (Tn 2 0).1 (Tn 2 0).2.1 (Tn 2 0).2.2.1 ∈ lw_tbl := ⟨rfl, rfl, rfl, by decide +kernel⟩
theorem f_X2_15 : fL RX2 15 2 1 := ⟨by decide, by decide, Or.inl (by decide +kernel)⟩
theorem p_X2_15 : (Tn 2 1).2.2.2 = true ∧ "<init>" = "<init>" ∧ (Tn 2 1).1 = RX2 ∧ Cond.fieldLink RX2 15 (Tn 2 1).1 (Tn 2 1).2.1 (Tn 2 1).2.2.1 ∈ lw_tbl := ⟨rfl, rfl, rfl, by decide +kernel⟩
theorem f_X2_18 : fL RX2 18 2 2 := ⟨by decide, by decide, Or.inl (by decide +kernel)⟩
theorem p_X2_18 : (Tn 2 2).2.2.2 = true ∧ "<init>" = "<init>" ∧ (Tn 2 2).1 = RX2 ∧ Cond.fieldLink RX2 18 (Tn 2 2).1 (Tn 2 2).2.1 (Tn 2 2).2.2.1 ∈ lw_tbl := ⟨rfl, rfl, rfl, by decide +kernel⟩
theorem c_X2_21 : cL RX2 21 yX2_bitOf cX2_bitOf 3 (some .int) 2 := ⟨Or.inl (by decide +kernel), by decide +kernel, by decide +kernel, by decide +kernel, by decide +kernel, by decide +kernel⟩
theorem s_X2_bitOf : Cond.static yX2_bitOf ∈ lw_tbl := by decide +kernel
theorem f_X2_25 : fL RX2 25 2 3 := ⟨by decide, by decide, Or.inl (by decide +kernel)⟩
theorem g_X2_29 : Cond.fieldLinkNest RX2 29 "PatchBench" "PAIR_FROM" "[I" "PatchBench" ∈ lw_tbl := by decide +kernel
theorem g_X2_32 : Cond.fieldLinkNest RX2 32 "PatchBench" "PAIR_TO" "[I" "PatchBench" ∈ lw_tbl := by decide +kernel
theorem c_X2_35 : cL RX2 35 yX5_greatest cX5_greatest 2 (some .int) 0 := ⟨Or.inl (by decide +kernel), by decide +kernel, by decide +kernel, by decide +kernel, by decide +kernel, by decide +kernel⟩
theorem f_X2_41 : fL RX2 41 2 4 := ⟨by decide, by decide, Or.inl (by decide +kernel)⟩
theorem c_X2_44 : cL RX2 44 yX5_bytesOf cX5_bytesOf 2 (some (.object "PatchBench$Bytes")) 1 := ⟨Or.inl (by decide +kernel), by decide +kernel, by decide +kernel, by decide +kernel, by decide +kernel, by decide +kernel⟩
theorem f_X2_48 : fL RX2 48 0 1 := ⟨by decide, by decide, Or.inr (by decide +kernel)⟩
theorem f_X2_53 : fL RX2 53 2 5 := ⟨by decide, by decide, Or.inl (by decide +kernel)⟩
theorem c_X2_56 : cL RX2 56 yX5_priceOf cX5_priceOf 3 (some .int) 2 := ⟨Or.inl (by decide +kernel), by decide +kernel, by decide +kernel, by decide +kernel, by decide +kernel, by decide +kernel⟩
theorem m_X2_59 : Cond.methodLink RX2 59 Lib.Math.min.name ∈ lw_tbl := by decide +kernel
theorem c_X2_64 : cL RX2 64 yX2_sentWith cX2_sentWith 4 (some .int) 1 := ⟨Or.inl (by decide +kernel), by decide +kernel, by decide +kernel, by decide +kernel, by decide +kernel, by decide +kernel⟩
theorem f_X2_68 : fL RX2 68 2 6 := ⟨by decide, by decide, Or.inl (by decide +kernel)⟩
theorem f_X2_71 : fL RX2 71 2 7 := ⟨by decide, by decide, Or.inl (by decide +kernel)⟩
theorem c_X2_74 : cL RX2 74 yX2_chooseOfSize cX2_chooseOfSize 6 none 1 := ⟨Or.inl (by decide +kernel), by decide +kernel, by decide +kernel, by decide +kernel, by decide +kernel, by decide +kernel⟩
theorem v_X2_chooseOfSize : Cond.instanceMethod yX2_chooseOfSize ∈ lw_tbl ∧ Cond.selects yX2_chooseOfSize.cls yX2_chooseOfSize yX2_chooseOfSize ∈ lw_tbl ∧ 2 < 9 ∧ Rn 2 = yX2_chooseOfSize.cls := ⟨by decide +kernel, by decide +kernel, by decide, rfl⟩
theorem c_X2_78 : cL RX2 78 yX2_consider cX2_consider 3 none 1 := ⟨Or.inl (by decide +kernel), by decide +kernel, by decide +kernel, by decide +kernel, by decide +kernel, by decide +kernel⟩
theorem v_X2_consider : Cond.instanceMethod yX2_consider ∈ lw_tbl ∧ Cond.selects yX2_consider.cls yX2_consider yX2_consider ∈ lw_tbl ∧ 2 < 9 ∧ Rn 2 = yX2_consider.cls := ⟨by decide +kernel, by decide +kernel, by decide, rfl⟩
theorem o_X3_3 : Cond.methodLink RX3 3 objectInit ∈ lw_tbl := by decide +kernel
theorem f_X3_9 : fL RX3 9 3 0 := ⟨by decide, by decide, Or.inl (by decide +kernel)⟩
theorem p_X3_9 : (Tn 3 0).2.2.2 = true ∧ "<init>" = "<init>" ∧ (Tn 3 0).1 = RX3 ∧ Cond.fieldLink RX3 9 (Tn 3 0).1 (Tn 3 0).2.1 (Tn 3 0).2.2.1 ∈ lw_tbl := ⟨rfl, rfl, rfl, by decide +kernel⟩
theorem f_X3_15 : fL RX3 15 3 1 := ⟨by decide, by decide, Or.inl (by decide +kernel)⟩
theorem p_X3_15 : (Tn 3 1).2.2.2 = true ∧ "<init>" = "<init>" ∧ (Tn 3 1).1 = RX3 ∧ Cond.fieldLink RX3 15 (Tn 3 1).1 (Tn 3 1).2.1 (Tn 3 1).2.2.1 ∈ lw_tbl := ⟨rfl, rfl, rfl, by decide +kernel⟩
theorem f_X3_18 : fL RX3 18 3 2 := ⟨by decide, by decide, Or.inl (by decide +kernel)⟩
theorem p_X3_18 : (Tn 3 2).2.2.2 = true ∧ "<init>" = "<init>" ∧ (Tn 3 2).1 = RX3 ∧ Cond.fieldLink RX3 18 (Tn 3 2).1 (Tn 3 2).2.1 (Tn 3 2).2.2.1 ∈ lw_tbl := ⟨rfl, rfl, rfl, by decide +kernel⟩
theorem f_X3_21 : fL RX3 21 3 3 := ⟨by decide, by decide, Or.inl (by decide +kernel)⟩
theorem p_X3_21 : (Tn 3 3).2.2.2 = true ∧ "<init>" = "<init>" ∧ (Tn 3 3).1 = RX3 ∧ Cond.fieldLink RX3 21 (Tn 3 3).1 (Tn 3 3).2.1 (Tn 3 3).2.2.1 ∈ lw_tbl := ⟨rfl, rfl, rfl, by decide +kernel⟩
theorem f_X3_24 : fL RX3 24 3 4 := ⟨by decide, by decide, Or.inl (by decide +kernel)⟩
theorem f_X3_28 : fL RX3 28 3 5 := ⟨by decide, by decide, Or.inl (by decide +kernel)⟩
theorem c_X3_31 : cL RX3 31 yX7_stepPrice cX7_stepPrice 2 (some .int) 2 := ⟨Or.inr (by decide +kernel), by decide +kernel, by decide +kernel, by decide +kernel, by decide +kernel, by decide +kernel⟩
theorem s_X7_stepPrice : Cond.static yX7_stepPrice ∈ lw_tbl := by decide +kernel
theorem o_X4_3 : Cond.methodLink RX4 3 objectInit ∈ lw_tbl := by decide +kernel
theorem f_X4_9 : fL RX4 9 4 0 := ⟨by decide, by decide, Or.inl (by decide +kernel)⟩
theorem p_X4_9 : (Tn 4 0).2.2.2 = true ∧ "<init>" = "<init>" ∧ (Tn 4 0).1 = RX4 ∧ Cond.fieldLink RX4 9 (Tn 4 0).1 (Tn 4 0).2.1 (Tn 4 0).2.2.1 ∈ lw_tbl := ⟨rfl, rfl, rfl, by decide +kernel⟩
theorem f_X4_15 : fL RX4 15 4 1 := ⟨by decide, by decide, Or.inl (by decide +kernel)⟩
theorem p_X4_15 : (Tn 4 1).2.2.2 = true ∧ "<init>" = "<init>" ∧ (Tn 4 1).1 = RX4 ∧ Cond.fieldLink RX4 15 (Tn 4 1).1 (Tn 4 1).2.1 (Tn 4 1).2.2.1 ∈ lw_tbl := ⟨rfl, rfl, rfl, by decide +kernel⟩
theorem f_X4_18 : fL RX4 18 4 2 := ⟨by decide, by decide, Or.inl (by decide +kernel)⟩
theorem p_X4_18 : (Tn 4 2).2.2.2 = true ∧ "<init>" = "<init>" ∧ (Tn 4 2).1 = RX4 ∧ Cond.fieldLink RX4 18 (Tn 4 2).1 (Tn 4 2).2.1 (Tn 4 2).2.2.1 ∈ lw_tbl := ⟨rfl, rfl, rfl, by decide +kernel⟩
theorem f_X4_21 : fL RX4 21 4 3 := ⟨by decide, by decide, Or.inl (by decide +kernel)⟩
theorem p_X4_21 : (Tn 4 3).2.2.2 = true ∧ "<init>" = "<init>" ∧ (Tn 4 3).1 = RX4 ∧ Cond.fieldLink RX4 21 (Tn 4 3).1 (Tn 4 3).2.1 (Tn 4 3).2.2.1 ∈ lw_tbl := ⟨rfl, rfl, rfl, by decide +kernel⟩
theorem f_X4_24 : fL RX4 24 4 4 := ⟨by decide, by decide, Or.inl (by decide +kernel)⟩
theorem p_X4_24 : (Tn 4 4).2.2.2 = true ∧ "<init>" = "<init>" ∧ (Tn 4 4).1 = RX4 ∧ Cond.fieldLink RX4 24 (Tn 4 4).1 (Tn 4 4).2.1 (Tn 4 4).2.2.1 ∈ lw_tbl := ⟨rfl, rfl, rfl, by decide +kernel⟩
theorem f_X4_27 : fL RX4 27 4 5 := ⟨by decide, by decide, Or.inl (by decide +kernel)⟩
theorem p_X4_27 : (Tn 4 5).2.2.2 = true ∧ "<init>" = "<init>" ∧ (Tn 4 5).1 = RX4 ∧ Cond.fieldLink RX4 27 (Tn 4 5).1 (Tn 4 5).2.1 (Tn 4 5).2.2.1 ∈ lw_tbl := ⟨rfl, rfl, rfl, by decide +kernel⟩
theorem f_X4_30 : fL RX4 30 4 6 := ⟨by decide, by decide, Or.inl (by decide +kernel)⟩
theorem p_X4_30 : (Tn 4 6).2.2.2 = true ∧ "<init>" = "<init>" ∧ (Tn 4 6).1 = RX4 ∧ Cond.fieldLink RX4 30 (Tn 4 6).1 (Tn 4 6).2.1 (Tn 4 6).2.2.1 ∈ lw_tbl := ⟨rfl, rfl, rfl, by decide +kernel⟩
theorem f_X4_33 : fL RX4 33 0 1 := ⟨by decide, by decide, Or.inr (by decide +kernel)⟩
theorem c_X4_39 : cL RX4 39 yX4_findRuns cX4_findRuns 10 none 3 := ⟨Or.inl (by decide +kernel), by decide +kernel, by decide +kernel, by decide +kernel, by decide +kernel, by decide +kernel⟩
theorem v_X4_findRuns : Cond.instanceMethod yX4_findRuns ∈ lw_tbl ∧ Cond.selects yX4_findRuns.cls yX4_findRuns yX4_findRuns ∈ lw_tbl ∧ 4 < 9 ∧ Rn 4 = yX4_findRuns.cls := ⟨by decide +kernel, by decide +kernel, by decide, rfl⟩
theorem c_X4_43 : cL RX4 43 yX4_chooseStep cX4_chooseStep 5 none 2 := ⟨Or.inl (by decide +kernel), by decide +kernel, by decide +kernel, by decide +kernel, by decide +kernel, by decide +kernel⟩
theorem v_X4_chooseStep : Cond.instanceMethod yX4_chooseStep ∈ lw_tbl ∧ Cond.selects yX4_chooseStep.cls yX4_chooseStep yX4_chooseStep ∈ lw_tbl ∧ 4 < 9 ∧ Rn 4 = yX4_chooseStep.cls := ⟨by decide +kernel, by decide +kernel, by decide, rfl⟩
theorem c_X4_47 : cL RX4 47 yX3_clear cX3_clear 1 none 0 := ⟨Or.inl (by decide +kernel), by decide +kernel, by decide +kernel, by decide +kernel, by decide +kernel, by decide +kernel⟩
theorem v_X3_clear : Cond.instanceMethod yX3_clear ∈ lw_tbl ∧ Cond.selects yX3_clear.cls yX3_clear yX3_clear ∈ lw_tbl ∧ 3 < 9 ∧ Rn 3 = yX3_clear.cls := ⟨by decide +kernel, by decide +kernel, by decide, rfl⟩
theorem c_X4_52 : cL RX4 52 yX3_append cX3_append 5 none 4 := ⟨Or.inl (by decide +kernel), by decide +kernel, by decide +kernel, by decide +kernel, by decide +kernel, by decide +kernel⟩
theorem v_X3_append : Cond.instanceMethod yX3_append ∈ lw_tbl ∧ Cond.selects yX3_append.cls yX3_append yX3_append ∈ lw_tbl ∧ 3 < 9 ∧ Rn 3 = yX3_append.cls := ⟨by decide +kernel, by decide +kernel, by decide, rfl⟩
theorem f_X4_56 : fL RX4 56 0 0 := ⟨by decide, by decide, Or.inr (by decide +kernel)⟩
theorem f_X4_59 : fL RX4 59 4 7 := ⟨by decide, by decide, Or.inl (by decide +kernel)⟩
theorem f_X4_62 : fL RX4 62 4 9 := ⟨by decide, by decide, Or.inl (by decide +kernel)⟩
theorem f_X4_65 : fL RX4 65 4 8 := ⟨by decide, by decide, Or.inl (by decide +kernel)⟩
theorem f_X4_68 : fL RX4 68 4 10 := ⟨by decide, by decide, Or.inl (by decide +kernel)⟩
theorem k_X4_71 : Cond.constant RX4 71 (1000000) ∈ lw_tbl := by decide +kernel
theorem m_X4_72 : Cond.methodLink RX4 72 Lib.Math.min.name ∈ lw_tbl := by decide +kernel
theorem c_X4_78 : cL RX4 78 yX4_tryStep cX4_tryStep 7 none 5 := ⟨Or.inl (by decide +kernel), by decide +kernel, by decide +kernel, by decide +kernel, by decide +kernel, by decide +kernel⟩
theorem v_X4_tryStep : Cond.instanceMethod yX4_tryStep ∈ lw_tbl ∧ Cond.selects yX4_tryStep.cls yX4_tryStep yX4_tryStep ∈ lw_tbl ∧ 4 < 9 ∧ Rn 4 = yX4_tryStep.cls := ⟨by decide +kernel, by decide +kernel, by decide, rfl⟩
theorem c_X4_82 : cL RX4 82 yX7_stepPrice cX7_stepPrice 2 (some .int) 2 := ⟨Or.inr (by decide +kernel), by decide +kernel, by decide +kernel, by decide +kernel, by decide +kernel, by decide +kernel⟩
theorem o_X5_3 : Cond.methodLink RX5 3 objectInit ∈ lw_tbl := by decide +kernel
theorem q_X5_9 : Cond.classLink RX5 9 (Rn 0) ∈ lw_tbl ∧ Cond.arrayOver (.object (Rn 0)) ∈ lw_tbl := ⟨by decide +kernel, by decide +kernel⟩
theorem f_X5_11 : fL RX5 11 5 0 := ⟨by decide, by decide, Or.inl (by decide +kernel)⟩
theorem p_X5_11 : (Tn 5 0).2.2.2 = true ∧ "<init>" = "<init>" ∧ (Tn 5 0).1 = RX5 ∧ Cond.fieldLink RX5 11 (Tn 5 0).1 (Tn 5 0).2.1 (Tn 5 0).2.2.1 ∈ lw_tbl := ⟨rfl, rfl, rfl, by decide +kernel⟩
theorem q_X5_17 : Cond.classLink RX5 17 (Rn 3) ∈ lw_tbl ∧ Cond.arrayOver (.object (Rn 3)) ∈ lw_tbl := ⟨by decide +kernel, by decide +kernel⟩
theorem f_X5_19 : fL RX5 19 5 1 := ⟨by decide, by decide, Or.inl (by decide +kernel)⟩
theorem p_X5_19 : (Tn 5 1).2.2.2 = true ∧ "<init>" = "<init>" ∧ (Tn 5 1).1 = RX5 ∧ Cond.fieldLink RX5 19 (Tn 5 1).1 (Tn 5 1).2.1 (Tn 5 1).2.2.1 ∈ lw_tbl := ⟨rfl, rfl, rfl, by decide +kernel⟩
theorem f_X5_23 : fL RX5 23 5 2 := ⟨by decide, by decide, Or.inl (by decide +kernel)⟩
theorem p_X5_23 : (Tn 5 2).2.2.2 = true ∧ "<init>" = "<init>" ∧ (Tn 5 2).1 = RX5 ∧ Cond.fieldLink RX5 23 (Tn 5 2).1 (Tn 5 2).2.1 (Tn 5 2).2.2.1 ∈ lw_tbl := ⟨rfl, rfl, rfl, by decide +kernel⟩
theorem n_X5_27 : Cond.classLink RX5 27 (Rn 4) ∈ lw_tbl ∧ Cond.instantiable (Rn 4) (cN 4) ∈ lw_tbl ∧ Cond.initialized (Rn 4) ∈ lw_tbl := ⟨by decide +kernel, by decide +kernel, by decide +kernel⟩
theorem c_X5_29 : cL RX5 29 yX4_init cX4_init 1 none 0 := ⟨Or.inr (by decide +kernel), by decide +kernel, by decide +kernel, by decide +kernel, by decide +kernel, by decide +kernel⟩
theorem i_X4_init : Cond.instanceMethod yX4_init ∈ lw_tbl ∧ yX4_init.name = "<init>" := ⟨by decide +kernel, rfl⟩
theorem f_X5_30 : fL RX5 30 5 3 := ⟨by decide, by decide, Or.inl (by decide +kernel)⟩
theorem p_X5_30 : (Tn 5 3).2.2.2 = true ∧ "<init>" = "<init>" ∧ (Tn 5 3).1 = RX5 ∧ Cond.fieldLink RX5 30 (Tn 5 3).1 (Tn 5 3).2.1 (Tn 5 3).2.2.1 ∈ lw_tbl := ⟨rfl, rfl, rfl, by decide +kernel⟩
theorem n_X5_9 : Cond.classLink RX5 9 (Rn 0) ∈ lw_tbl ∧ Cond.instantiable (Rn 0) (cN 0) ∈ lw_tbl ∧ Cond.initialized (Rn 0) ∈ lw_tbl := ⟨by decide +kernel, by decide +kernel, by decide +kernel⟩
theorem c_X5_34 : cL RX5 34 yX0_init cX0_init 2 none 1 := ⟨Or.inl (by decide +kernel), by decide +kernel, by decide +kernel, by decide +kernel, by decide +kernel, by decide +kernel⟩
theorem f_X5_37 : fL RX5 37 0 1 := ⟨by decide, by decide, Or.inr (by decide +kernel)⟩
theorem c_X5_41 : cL RX5 41 yX5_has cX5_has 2 (some .boolean) 1 := ⟨Or.inl (by decide +kernel), by decide +kernel, by decide +kernel, by decide +kernel, by decide +kernel, by decide +kernel⟩
theorem c_X5_45 : cL RX5 45 yX0_takeFirst cX0_takeFirst 5 none 2 := ⟨Or.inl (by decide +kernel), by decide +kernel, by decide +kernel, by decide +kernel, by decide +kernel, by decide +kernel⟩
theorem n_X5_17 : Cond.classLink RX5 17 (Rn 3) ∈ lw_tbl ∧ Cond.instantiable (Rn 3) (cN 3) ∈ lw_tbl ∧ Cond.initialized (Rn 3) ∈ lw_tbl := ⟨by decide +kernel, by decide +kernel, by decide +kernel⟩
theorem c_X5_49 : cL RX5 49 yX3_init cX3_init 1 none 0 := ⟨Or.inr (by decide +kernel), by decide +kernel, by decide +kernel, by decide +kernel, by decide +kernel, by decide +kernel⟩
theorem c_X5_50 : cL RX5 50 yX4_plan cX4_plan 6 none 3 := ⟨Or.inl (by decide +kernel), by decide +kernel, by decide +kernel, by decide +kernel, by decide +kernel, by decide +kernel⟩
theorem v_X4_plan : Cond.instanceMethod yX4_plan ∈ lw_tbl ∧ Cond.selects yX4_plan.cls yX4_plan yX4_plan ∈ lw_tbl ∧ 4 < 9 ∧ Rn 4 = yX4_plan.cls := ⟨by decide +kernel, by decide +kernel, by decide, rfl⟩
theorem c_X5_54 : cL RX5 54 yX5_patchOf cX5_patchOf 4 (some (.object "PatchBench$Patch")) 2 := ⟨Or.inl (by decide +kernel), by decide +kernel, by decide +kernel, by decide +kernel, by decide +kernel, by decide +kernel⟩
theorem f_X5_58 : fL RX5 58 3 5 := ⟨by decide, by decide, Or.inr (by decide +kernel)⟩
theorem o_X6_3 : Cond.methodLink RX6 3 objectInit ∈ lw_tbl := by decide +kernel
theorem f_X6_9 : fL RX6 9 6 0 := ⟨by decide, by decide, Or.inl (by decide +kernel)⟩
theorem p_X6_9 : (Tn 6 0).2.2.2 = true ∧ "<init>" = "<init>" ∧ (Tn 6 0).1 = RX6 ∧ Cond.fieldLink RX6 9 (Tn 6 0).1 (Tn 6 0).2.1 (Tn 6 0).2.2.1 ∈ lw_tbl := ⟨rfl, rfl, rfl, by decide +kernel⟩
theorem f_X6_15 : fL RX6 15 6 1 := ⟨by decide, by decide, Or.inl (by decide +kernel)⟩
theorem p_X6_15 : (Tn 6 1).2.2.2 = true ∧ "<init>" = "<init>" ∧ (Tn 6 1).1 = RX6 ∧ Cond.fieldLink RX6 15 (Tn 6 1).1 (Tn 6 1).2.1 (Tn 6 1).2.2.1 ∈ lw_tbl := ⟨rfl, rfl, rfl, by decide +kernel⟩
theorem f_X6_18 : fL RX6 18 6 2 := ⟨by decide, by decide, Or.inl (by decide +kernel)⟩
theorem p_X6_18 : (Tn 6 2).2.2.2 = true ∧ "<init>" = "<init>" ∧ (Tn 6 2).1 = RX6 ∧ Cond.fieldLink RX6 18 (Tn 6 2).1 (Tn 6 2).2.1 (Tn 6 2).2.2.1 ∈ lw_tbl := ⟨rfl, rfl, rfl, by decide +kernel⟩
theorem f_X6_22 : fL RX6 22 6 3 := ⟨by decide, by decide, Or.inl (by decide +kernel)⟩
theorem f_X6_26 : fL RX6 26 3 4 := ⟨by decide, by decide, Or.inr (by decide +kernel)⟩
theorem f_X6_31 : fL RX6 31 3 0 := ⟨by decide, by decide, Or.inr (by decide +kernel)⟩
theorem f_X6_34 : fL RX6 34 3 1 := ⟨by decide, by decide, Or.inr (by decide +kernel)⟩
theorem f_X6_37 : fL RX6 37 3 2 := ⟨by decide, by decide, Or.inr (by decide +kernel)⟩
theorem c_X6_38 : cL RX6 38 yX0_at cX0_at 2 (some .int) 1 := ⟨Or.inl (by decide +kernel), by decide +kernel, by decide +kernel, by decide +kernel, by decide +kernel, by decide +kernel⟩
theorem f_X6_44 : fL RX6 44 3 3 := ⟨by decide, by decide, Or.inr (by decide +kernel)⟩
theorem a_X6_47 : Cond.methodLink RX6 47 arraycopyName ∈ lw_tbl := by decide +kernel
theorem c_X6_53 : cL RX6 53 yX3_clear cX3_clear 1 none 0 := ⟨Or.inl (by decide +kernel), by decide +kernel, by decide +kernel, by decide +kernel, by decide +kernel, by decide +kernel⟩
theorem c_X6_56 : cL RX6 56 yX6_addedFrom cX6_addedFrom 3 (some .int) 1 := ⟨Or.inl (by decide +kernel), by decide +kernel, by decide +kernel, by decide +kernel, by decide +kernel, by decide +kernel⟩
theorem v_X6_addedFrom : Cond.instanceMethod yX6_addedFrom ∈ lw_tbl ∧ Cond.selects yX6_addedFrom.cls yX6_addedFrom yX6_addedFrom ∈ lw_tbl ∧ 6 < 9 ∧ Rn 6 = yX6_addedFrom.cls := ⟨by decide +kernel, by decide +kernel, by decide, rfl⟩
theorem c_X6_59 : cL RX6 59 yX6_alikeFrom cX6_alikeFrom 3 (some .int) 1 := ⟨Or.inl (by decide +kernel), by decide +kernel, by decide +kernel, by decide +kernel, by decide +kernel, by decide +kernel⟩
theorem v_X6_alikeFrom : Cond.instanceMethod yX6_alikeFrom ∈ lw_tbl ∧ Cond.selects yX6_alikeFrom.cls yX6_alikeFrom yX6_alikeFrom ∈ lw_tbl ∧ 6 < 9 ∧ Rn 6 = yX6_alikeFrom.cls := ⟨by decide +kernel, by decide +kernel, by decide, rfl⟩
theorem c_X6_62 : cL RX6 62 yX3_append cX3_append 5 none 4 := ⟨Or.inl (by decide +kernel), by decide +kernel, by decide +kernel, by decide +kernel, by decide +kernel, by decide +kernel⟩
theorem c_X6_66 : cL RX6 66 yX6_comesTooLate cX6_comesTooLate 4 (some .boolean) 3 := ⟨Or.inl (by decide +kernel), by decide +kernel, by decide +kernel, by decide +kernel, by decide +kernel, by decide +kernel⟩
theorem v_X6_comesTooLate : Cond.instanceMethod yX6_comesTooLate ∈ lw_tbl ∧ Cond.selects yX6_comesTooLate.cls yX6_comesTooLate yX6_comesTooLate ∈ lw_tbl ∧ 6 < 9 ∧ Rn 6 = yX6_comesTooLate.cls := ⟨by decide +kernel, by decide +kernel, by decide, rfl⟩
theorem n_L_7 : Cond.classLink RL 7 (Rn 7) ∈ lw_tbl ∧ Cond.instantiable (Rn 7) (cN 7) ∈ lw_tbl ∧ Cond.initialized (Rn 7) ∈ lw_tbl := ⟨by decide +kernel, by decide +kernel, by decide +kernel⟩
theorem c_L_9 : cL RL 9 yX7_init cX7_init 1 none 0 := ⟨Or.inl (by decide +kernel), by decide +kernel, by decide +kernel, by decide +kernel, by decide +kernel, by decide +kernel⟩
theorem i_X7_init : Cond.instanceMethod yX7_init ∈ lw_tbl ∧ yX7_init.name = "<init>" := ⟨by decide +kernel, rfl⟩
theorem n_L_10 : Cond.classLink RL 10 (Rn 8) ∈ lw_tbl ∧ Cond.instantiable (Rn 8) (cN 8) ∈ lw_tbl ∧ Cond.initialized (Rn 8) ∈ lw_tbl := ⟨by decide +kernel, by decide +kernel, by decide +kernel⟩
theorem c_L_12 : cL RL 12 yX8_init cX8_init 1 none 0 := ⟨Or.inl (by decide +kernel), by decide +kernel, by decide +kernel, by decide +kernel, by decide +kernel, by decide +kernel⟩
theorem i_X8_init : Cond.instanceMethod yX8_init ∈ lw_tbl ∧ yX8_init.name = "<init>" := ⟨by decide +kernel, rfl⟩
theorem c_L_13 : cL RL 13 yX7_feed cX7_feed 6 (some .int) 5 := ⟨Or.inl (by decide +kernel), by decide +kernel, by decide +kernel, by decide +kernel, by decide +kernel, by decide +kernel⟩
theorem v_X7_feed : Cond.instanceMethod yX7_feed ∈ lw_tbl ∧ Cond.selects yX7_feed.cls yX7_feed yX7_feed ∈ lw_tbl ∧ 7 < 9 ∧ Rn 7 = yX7_feed.cls := ⟨by decide +kernel, by decide +kernel, by decide, rfl⟩
theorem c_L_17 : cL RL 17 yX8_feed cX8_feed 6 (some .int) 5 := ⟨Or.inl (by decide +kernel), by decide +kernel, by decide +kernel, by decide +kernel, by decide +kernel, by decide +kernel⟩
theorem v_X8_feed : Cond.instanceMethod yX8_feed ∈ lw_tbl ∧ Cond.selects yX8_feed.cls yX8_feed yX8_feed ∈ lw_tbl ∧ 8 < 9 ∧ Rn 8 = yX8_feed.cls := ⟨by decide +kernel, by decide +kernel, by decide, rfl⟩
theorem c_L_18 : cL RL 18 yX7_version cX7_version 3 (some .int) 2 := ⟨Or.inl (by decide +kernel), by decide +kernel, by decide +kernel, by decide +kernel, by decide +kernel, by decide +kernel⟩
theorem v_X7_version : Cond.instanceMethod yX7_version ∈ lw_tbl ∧ Cond.selects yX7_version.cls yX7_version yX7_version ∈ lw_tbl ∧ 7 < 9 ∧ Rn 7 = yX7_version.cls := ⟨by decide +kernel, by decide +kernel, by decide, rfl⟩
theorem c_L_22 : cL RL 22 yX8_version cX8_version 4 (some .int) 2 := ⟨Or.inl (by decide +kernel), by decide +kernel, by decide +kernel, by decide +kernel, by decide +kernel, by decide +kernel⟩
theorem v_X8_version : Cond.instanceMethod yX8_version ∈ lw_tbl ∧ Cond.selects yX8_version.cls yX8_version yX8_version ∈ lw_tbl ∧ 8 < 9 ∧ Rn 8 = yX8_version.cls := ⟨by decide +kernel, by decide +kernel, by decide, rfl⟩
theorem c_L_23 : cL RL 23 yX7_told cX7_told 4 (some .int) 2 := ⟨Or.inl (by decide +kernel), by decide +kernel, by decide +kernel, by decide +kernel, by decide +kernel, by decide +kernel⟩
theorem v_X7_told : Cond.instanceMethod yX7_told ∈ lw_tbl ∧ Cond.selects yX7_told.cls yX7_told yX7_told ∈ lw_tbl ∧ 7 < 9 ∧ Rn 7 = yX7_told.cls := ⟨by decide +kernel, by decide +kernel, by decide, rfl⟩
theorem c_L_26 : cL RL 26 yX8_told cX8_told 3 (some .int) 2 := ⟨Or.inl (by decide +kernel), by decide +kernel, by decide +kernel, by decide +kernel, by decide +kernel, by decide +kernel⟩
theorem v_X8_told : Cond.instanceMethod yX8_told ∈ lw_tbl ∧ Cond.selects yX8_told.cls yX8_told yX8_told ∈ lw_tbl ∧ 8 < 9 ∧ Rn 8 = yX8_told.cls := ⟨by decide +kernel, by decide +kernel, by decide, rfl⟩
theorem c_L_27 : cL RL 27 yX7_check cX7_check 2 (some .int) 1 := ⟨Or.inl (by decide +kernel), by decide +kernel, by decide +kernel, by decide +kernel, by decide +kernel, by decide +kernel⟩
theorem v_X7_check : Cond.instanceMethod yX7_check ∈ lw_tbl ∧ Cond.selects yX7_check.cls yX7_check yX7_check ∈ lw_tbl ∧ 7 < 9 ∧ Rn 7 = yX7_check.cls := ⟨by decide +kernel, by decide +kernel, by decide, rfl⟩
theorem c_L_31 : cL RL 31 yX8_check cX8_check 4 (some .int) 1 := ⟨Or.inl (by decide +kernel), by decide +kernel, by decide +kernel, by decide +kernel, by decide +kernel, by decide +kernel⟩
theorem c_L_32 : cL RL 32 yX7_cost cX7_cost 3 (some .int) 2 := ⟨Or.inl (by decide +kernel), by decide +kernel, by decide +kernel, by decide +kernel, by decide +kernel, by decide +kernel⟩
theorem v_X7_cost : Cond.instanceMethod yX7_cost ∈ lw_tbl ∧ Cond.selects yX7_cost.cls yX7_cost yX7_cost ∈ lw_tbl ∧ 7 < 9 ∧ Rn 7 = yX7_cost.cls := ⟨by decide +kernel, by decide +kernel, by decide, rfl⟩
theorem c_L_35 : cL RL 35 yX8_cost cX8_cost 3 (some .int) 2 := ⟨Or.inl (by decide +kernel), by decide +kernel, by decide +kernel, by decide +kernel, by decide +kernel, by decide +kernel⟩
theorem c_L_36 : cL RL 36 yX7_step cX7_step 5 (some .int) 4 := ⟨Or.inl (by decide +kernel), by decide +kernel, by decide +kernel, by decide +kernel, by decide +kernel, by decide +kernel⟩
theorem v_X7_step : Cond.instanceMethod yX7_step ∈ lw_tbl ∧ Cond.selects yX7_step.cls yX7_step yX7_step ∈ lw_tbl ∧ 7 < 9 ∧ Rn 7 = yX7_step.cls := ⟨by decide +kernel, by decide +kernel, by decide, rfl⟩
theorem c_L_40 : cL RL 40 yX8_step cX8_step 5 (some .int) 4 := ⟨Or.inl (by decide +kernel), by decide +kernel, by decide +kernel, by decide +kernel, by decide +kernel, by decide +kernel⟩
theorem v_X8_step : Cond.instanceMethod yX8_step ∈ lw_tbl ∧ Cond.selects yX8_step.cls yX8_step yX8_step ∈ lw_tbl ∧ 8 < 9 ∧ Rn 8 = yX8_step.cls := ⟨by decide +kernel, by decide +kernel, by decide, rfl⟩
theorem c_L_41 : cL RL 41 yX7_melt cX7_melt 4 (some .int) 3 := ⟨Or.inl (by decide +kernel), by decide +kernel, by decide +kernel, by decide +kernel, by decide +kernel, by decide +kernel⟩
theorem v_X7_melt : Cond.instanceMethod yX7_melt ∈ lw_tbl ∧ Cond.selects yX7_melt.cls yX7_melt yX7_melt ∈ lw_tbl ∧ 7 < 9 ∧ Rn 7 = yX7_melt.cls := ⟨by decide +kernel, by decide +kernel, by decide, rfl⟩
theorem c_L_45 : cL RL 45 yX8_melt cX8_melt 9 (some .int) 3 := ⟨Or.inl (by decide +kernel), by decide +kernel, by decide +kernel, by decide +kernel, by decide +kernel, by decide +kernel⟩
theorem v_X8_melt : Cond.instanceMethod yX8_melt ∈ lw_tbl ∧ Cond.selects yX8_melt.cls yX8_melt yX8_melt ∈ lw_tbl ∧ 8 < 9 ∧ Rn 8 = yX8_melt.cls := ⟨by decide +kernel, by decide +kernel, by decide, rfl⟩
theorem c_L_46 : cL RL 46 yX7_melted cX7_melted 3 (some .int) 2 := ⟨Or.inl (by decide +kernel), by decide +kernel, by decide +kernel, by decide +kernel, by decide +kernel, by decide +kernel⟩
theorem v_X7_melted : Cond.instanceMethod yX7_melted ∈ lw_tbl ∧ Cond.selects yX7_melted.cls yX7_melted yX7_melted ∈ lw_tbl ∧ 7 < 9 ∧ Rn 7 = yX7_melted.cls := ⟨by decide +kernel, by decide +kernel, by decide, rfl⟩
theorem c_L_49 : cL RL 49 yX8_melted cX8_melted 3 (some .int) 2 := ⟨Or.inl (by decide +kernel), by decide +kernel, by decide +kernel, by decide +kernel, by decide +kernel, by decide +kernel⟩
theorem v_X8_melted : Cond.instanceMethod yX8_melted ∈ lw_tbl ∧ Cond.selects yX8_melted.cls yX8_melted yX8_melted ∈ lw_tbl ∧ 8 < 9 ∧ Rn 8 = yX8_melted.cls := ⟨by decide +kernel, by decide +kernel, by decide, rfl⟩
theorem c_L_50 : cL RL 50 yX7_room cX7_room 4 (some .int) 3 := ⟨Or.inl (by decide +kernel), by decide +kernel, by decide +kernel, by decide +kernel, by decide +kernel, by decide +kernel⟩
theorem v_X7_room : Cond.instanceMethod yX7_room ∈ lw_tbl ∧ Cond.selects yX7_room.cls yX7_room yX7_room ∈ lw_tbl ∧ 7 < 9 ∧ Rn 7 = yX7_room.cls := ⟨by decide +kernel, by decide +kernel, by decide, rfl⟩
theorem c_L_53 : cL RL 53 yX8_room cX8_room 6 (some .int) 3 := ⟨Or.inl (by decide +kernel), by decide +kernel, by decide +kernel, by decide +kernel, by decide +kernel, by decide +kernel⟩
theorem v_X8_room : Cond.instanceMethod yX8_room ∈ lw_tbl ∧ Cond.selects yX8_room.cls yX8_room yX8_room ∈ lw_tbl ∧ 8 < 9 ∧ Rn 8 = yX8_room.cls := ⟨by decide +kernel, by decide +kernel, by decide, rfl⟩
theorem c_L_54 : cL RL 54 yX7_install cX7_install 2 (some .boolean) 1 := ⟨Or.inl (by decide +kernel), by decide +kernel, by decide +kernel, by decide +kernel, by decide +kernel, by decide +kernel⟩
theorem v_X7_install : Cond.instanceMethod yX7_install ∈ lw_tbl ∧ Cond.selects yX7_install.cls yX7_install yX7_install ∈ lw_tbl ∧ 7 < 9 ∧ Rn 7 = yX7_install.cls := ⟨by decide +kernel, by decide +kernel, by decide, rfl⟩
theorem c_L_58 : cL RL 58 yX8_install cX8_install 3 (some .boolean) 1 := ⟨Or.inl (by decide +kernel), by decide +kernel, by decide +kernel, by decide +kernel, by decide +kernel, by decide +kernel⟩
theorem v_X8_install : Cond.instanceMethod yX8_install ∈ lw_tbl ∧ Cond.selects yX8_install.cls yX8_install yX8_install ∈ lw_tbl ∧ 8 < 9 ∧ Rn 8 = yX8_install.cls := ⟨by decide +kernel, by decide +kernel, by decide, rfl⟩
theorem c_L_59 : cL RL 59 yX7_update cX7_update 3 (some .int) 2 := ⟨Or.inl (by decide +kernel), by decide +kernel, by decide +kernel, by decide +kernel, by decide +kernel, by decide +kernel⟩
theorem v_X7_update : Cond.instanceMethod yX7_update ∈ lw_tbl ∧ Cond.selects yX7_update.cls yX7_update yX7_update ∈ lw_tbl ∧ 7 < 9 ∧ Rn 7 = yX7_update.cls := ⟨by decide +kernel, by decide +kernel, by decide, rfl⟩
theorem c_L_62 : cL RL 62 yX8_update cX8_update 6 (some .int) 2 := ⟨Or.inl (by decide +kernel), by decide +kernel, by decide +kernel, by decide +kernel, by decide +kernel, by decide +kernel⟩
theorem v_X8_update : Cond.instanceMethod yX8_update ∈ lw_tbl ∧ Cond.selects yX8_update.cls yX8_update yX8_update ∈ lw_tbl ∧ 8 < 9 ∧ Rn 8 = yX8_update.cls := ⟨by decide +kernel, by decide +kernel, by decide, rfl⟩
theorem c_L_63 : cL RL 63 yX7_write cX7_write 2 (some .int) 1 := ⟨Or.inl (by decide +kernel), by decide +kernel, by decide +kernel, by decide +kernel, by decide +kernel, by decide +kernel⟩
theorem v_X7_write : Cond.instanceMethod yX7_write ∈ lw_tbl ∧ Cond.selects yX7_write.cls yX7_write yX7_write ∈ lw_tbl ∧ 7 < 9 ∧ Rn 7 = yX7_write.cls := ⟨by decide +kernel, by decide +kernel, by decide, rfl⟩
theorem c_L_66 : cL RL 66 yX8_write cX8_write 3 (some .int) 1 := ⟨Or.inl (by decide +kernel), by decide +kernel, by decide +kernel, by decide +kernel, by decide +kernel, by decide +kernel⟩
theorem v_X8_write : Cond.instanceMethod yX8_write ∈ lw_tbl ∧ Cond.selects yX8_write.cls yX8_write yX8_write ∈ lw_tbl ∧ 8 < 9 ∧ Rn 8 = yX8_write.cls := ⟨by decide +kernel, by decide +kernel, by decide, rfl⟩
theorem c_L_67 : cL RL 67 yX7_cut cX7_cut 1 (some .boolean) 0 := ⟨Or.inl (by decide +kernel), by decide +kernel, by decide +kernel, by decide +kernel, by decide +kernel, by decide +kernel⟩
theorem v_X7_cut : Cond.instanceMethod yX7_cut ∈ lw_tbl ∧ Cond.selects yX7_cut.cls yX7_cut yX7_cut ∈ lw_tbl ∧ 7 < 9 ∧ Rn 7 = yX7_cut.cls := ⟨by decide +kernel, by decide +kernel, by decide, rfl⟩
theorem c_L_71 : cL RL 71 yX8_cut cX8_cut 1 (some .boolean) 0 := ⟨Or.inl (by decide +kernel), by decide +kernel, by decide +kernel, by decide +kernel, by decide +kernel, by decide +kernel⟩
theorem v_X8_cut : Cond.instanceMethod yX8_cut ∈ lw_tbl ∧ Cond.selects yX8_cut.cls yX8_cut yX8_cut ∈ lw_tbl ∧ 8 < 9 ∧ Rn 8 = yX8_cut.cls := ⟨by decide +kernel, by decide +kernel, by decide, rfl⟩
theorem c_L_72 : cL RL 72 yX7_on cX7_on 1 (some .int) 0 := ⟨Or.inl (by decide +kernel), by decide +kernel, by decide +kernel, by decide +kernel, by decide +kernel, by decide +kernel⟩
theorem v_X7_on : Cond.instanceMethod yX7_on ∈ lw_tbl ∧ Cond.selects yX7_on.cls yX7_on yX7_on ∈ lw_tbl ∧ 7 < 9 ∧ Rn 7 = yX7_on.cls := ⟨by decide +kernel, by decide +kernel, by decide, rfl⟩
theorem c_L_76 : cL RL 76 yX8_on cX8_on 1 (some .int) 0 := ⟨Or.inl (by decide +kernel), by decide +kernel, by decide +kernel, by decide +kernel, by decide +kernel, by decide +kernel⟩
theorem v_X8_on : Cond.instanceMethod yX8_on ∈ lw_tbl ∧ Cond.selects yX8_on.cls yX8_on yX8_on ∈ lw_tbl ∧ 8 < 9 ∧ Rn 8 = yX8_on.cls := ⟨by decide +kernel, by decide +kernel, by decide, rfl⟩
theorem c_L_77 : cL RL 77 yX7_device cX7_device 2 (some .int) 1 := ⟨Or.inl (by decide +kernel), by decide +kernel, by decide +kernel, by decide +kernel, by decide +kernel, by decide +kernel⟩
theorem v_X7_device : Cond.instanceMethod yX7_device ∈ lw_tbl ∧ Cond.selects yX7_device.cls yX7_device yX7_device ∈ lw_tbl ∧ 7 < 9 ∧ Rn 7 = yX7_device.cls := ⟨by decide +kernel, by decide +kernel, by decide, rfl⟩
theorem c_L_80 : cL RL 80 yX8_device cX8_device 2 (some .int) 1 := ⟨Or.inl (by decide +kernel), by decide +kernel, by decide +kernel, by decide +kernel, by decide +kernel, by decide +kernel⟩
theorem v_X8_device : Cond.instanceMethod yX8_device ∈ lw_tbl ∧ Cond.selects yX8_device.cls yX8_device yX8_device ∈ lw_tbl ∧ 8 < 9 ∧ Rn 8 = yX8_device.cls := ⟨by decide +kernel, by decide +kernel, by decide, rfl⟩
theorem c_L_81 : cL RL 81 yX7_fleet cX7_fleet 3 (some .boolean) 2 := ⟨Or.inl (by decide +kernel), by decide +kernel, by decide +kernel, by decide +kernel, by decide +kernel, by decide +kernel⟩
theorem v_X7_fleet : Cond.instanceMethod yX7_fleet ∈ lw_tbl ∧ Cond.selects yX7_fleet.cls yX7_fleet yX7_fleet ∈ lw_tbl ∧ 7 < 9 ∧ Rn 7 = yX7_fleet.cls := ⟨by decide +kernel, by decide +kernel, by decide, rfl⟩
theorem c_L_85 : cL RL 85 yX8_fleet cX8_fleet 3 (some .boolean) 2 := ⟨Or.inl (by decide +kernel), by decide +kernel, by decide +kernel, by decide +kernel, by decide +kernel, by decide +kernel⟩
theorem v_X8_fleet : Cond.instanceMethod yX8_fleet ∈ lw_tbl ∧ Cond.selects yX8_fleet.cls yX8_fleet yX8_fleet ∈ lw_tbl ∧ 8 < 9 ∧ Rn 8 = yX8_fleet.cls := ⟨by decide +kernel, by decide +kernel, by decide, rfl⟩
theorem c_L_86 : cL RL 86 yX7_hold cX7_hold 4 (some .boolean) 3 := ⟨Or.inl (by decide +kernel), by decide +kernel, by decide +kernel, by decide +kernel, by decide +kernel, by decide +kernel⟩
theorem v_X7_hold : Cond.instanceMethod yX7_hold ∈ lw_tbl ∧ Cond.selects yX7_hold.cls yX7_hold yX7_hold ∈ lw_tbl ∧ 7 < 9 ∧ Rn 7 = yX7_hold.cls := ⟨by decide +kernel, by decide +kernel, by decide, rfl⟩
theorem c_L_90 : cL RL 90 yX8_hold cX8_hold 4 (some .boolean) 3 := ⟨Or.inl (by decide +kernel), by decide +kernel, by decide +kernel, by decide +kernel, by decide +kernel, by decide +kernel⟩
theorem v_X8_hold : Cond.instanceMethod yX8_hold ∈ lw_tbl ∧ Cond.selects yX8_hold.cls yX8_hold yX8_hold ∈ lw_tbl ∧ 8 < 9 ∧ Rn 8 = yX8_hold.cls := ⟨by decide +kernel, by decide +kernel, by decide, rfl⟩
theorem c_L_91 : cL RL 91 yX7_sent cX7_sent 1 (some .int) 0 := ⟨Or.inl (by decide +kernel), by decide +kernel, by decide +kernel, by decide +kernel, by decide +kernel, by decide +kernel⟩
theorem v_X7_sent : Cond.instanceMethod yX7_sent ∈ lw_tbl ∧ Cond.selects yX7_sent.cls yX7_sent yX7_sent ∈ lw_tbl ∧ 7 < 9 ∧ Rn 7 = yX7_sent.cls := ⟨by decide +kernel, by decide +kernel, by decide, rfl⟩
theorem c_L_94 : cL RL 94 yX8_sent cX8_sent 3 (some .int) 0 := ⟨Or.inl (by decide +kernel), by decide +kernel, by decide +kernel, by decide +kernel, by decide +kernel, by decide +kernel⟩
theorem v_X8_sent : Cond.instanceMethod yX8_sent ∈ lw_tbl ∧ Cond.selects yX8_sent.cls yX8_sent yX8_sent ∈ lw_tbl ∧ 8 < 9 ∧ Rn 8 = yX8_sent.cls := ⟨by decide +kernel, by decide +kernel, by decide, rfl⟩
theorem c_L_95 : cL RL 95 yX7_best cX7_best 3 (some .int) 2 := ⟨Or.inl (by decide +kernel), by decide +kernel, by decide +kernel, by decide +kernel, by decide +kernel, by decide +kernel⟩
theorem v_X7_best : Cond.instanceMethod yX7_best ∈ lw_tbl ∧ Cond.selects yX7_best.cls yX7_best yX7_best ∈ lw_tbl ∧ 7 < 9 ∧ Rn 7 = yX7_best.cls := ⟨by decide +kernel, by decide +kernel, by decide, rfl⟩
theorem c_L_98 : cL RL 98 yX8_best cX8_best 10 (some .int) 2 := ⟨Or.inl (by decide +kernel), by decide +kernel, by decide +kernel, by decide +kernel, by decide +kernel, by decide +kernel⟩
theorem v_X8_best : Cond.instanceMethod yX8_best ∈ lw_tbl ∧ Cond.selects yX8_best.cls yX8_best yX8_best ∈ lw_tbl ∧ 8 < 9 ∧ Rn 8 = yX8_best.cls := ⟨by decide +kernel, by decide +kernel, by decide, rfl⟩
theorem aw_int : Cond.arrayClass (newarray.typeOf .int) ∈ lw_tbl := by decide +kernel
theorem aw_byte : Cond.arrayClass (newarray.typeOf .byte) ∈ lw_tbl := by decide +kernel
theorem aw_boolean : Cond.arrayClass (newarray.typeOf .boolean) ∈ lw_tbl := by decide +kernel
