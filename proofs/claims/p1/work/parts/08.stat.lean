theorem wd126 : Cond.initialized RX10 ∈ pv_T := pv_m 126 (by decide +kernel) (by decide +kernel)
theorem wd127 : Cond.initialized RX0 ∈ pv_T := pv_m 127 (by decide +kernel) (by decide +kernel)
theorem wd128 : Cond.initialized RX8 ∈ pv_T := pv_m 128 (by decide +kernel) (by decide +kernel)
theorem wd129 : Cond.initialized RJ9 ∈ pv_T := pv_m 129 (by decide +kernel) (by decide +kernel)
theorem wd153 : Cond.instanceMethod objectInit ∈ pv_T := pv_m 153 (by decide +kernel) (by decide +kernel)
theorem wd154 : Cond.code objectInit ⟨#[0xb1]⟩ 1 none ∈ pv_T := pv_m 154 (by decide +kernel) (by decide +kernel)
theorem wd159 : Cond.code yX10_init cX10_init 1 none ∈ pv_T := pv_m 159 (by decide +kernel) (by decide +kernel)
theorem wd160 : Cond.methodLink RX10 3 objectInit ∈ pv_T := pv_m 160 (by decide +kernel) (by decide +kernel)
theorem wd161 : Cond.fieldLink RX10 9 "StrikeOut$Tape" "bytes" "[I" ∈ pv_T := pv_m 161 (by decide +kernel) (by decide +kernel)
theorem wd163 : Cond.fieldLink RX10 15 "StrikeOut$Tape" "size" "I" ∈ pv_T := pv_m 163 (by decide +kernel) (by decide +kernel)
theorem wd170 : Cond.arrayClass .int ∈ pv_T := pv_m 170 (by decide +kernel) (by decide +kernel)
theorem wd176 : Cond.code yX0_init cX0_init 1 none ∈ pv_T := pv_m 176 (by decide +kernel) (by decide +kernel)
theorem wd177 : Cond.methodLink RX0 3 objectInit ∈ pv_T := pv_m 177 (by decide +kernel) (by decide +kernel)
theorem wd178 : Cond.classLink RX0 9 RX8 ∈ pv_T := pv_m 178 (by decide +kernel) (by decide +kernel)
theorem wd179 : Cond.instantiable RX8 2 ∈ pv_T := pv_m 179 (by decide +kernel) (by decide +kernel)
theorem wd180 : Cond.methodLink RX0 11 yX8_init ∈ pv_T := pv_m 180 (by decide +kernel) (by decide +kernel)
theorem wd181 : Cond.instanceMethod yX8_init ∈ pv_T := pv_m 181 (by decide +kernel) (by decide +kernel)
theorem wd182 : Cond.code yX8_init cX8_init 2 none ∈ pv_T := pv_m 182 (by decide +kernel) (by decide +kernel)
theorem wd183 : Cond.methodLink RX8 3 objectInit ∈ pv_T := pv_m 183 (by decide +kernel) (by decide +kernel)
theorem wd184 : Cond.methodLink RX8 15 yJ9_max_7cf53 ∈ pv_T := pv_m 184 (by decide +kernel) (by decide +kernel)
theorem wd185 : Cond.static yJ9_max_7cf53 ∈ pv_T := pv_m 185 (by decide +kernel) (by decide +kernel)
theorem wd186 : Cond.code yJ9_max_7cf53 cJ9_max_7cf53 2 (some .int) ∈ pv_T := pv_m 186 (by decide +kernel) (by decide +kernel)
theorem wd187 : Cond.fieldLink RX8 21 "StrikeOut$Row" "letters" "[I" ∈ pv_T := pv_m 187 (by decide +kernel) (by decide +kernel)
theorem wd193 : Cond.fieldLink RX8 9 "StrikeOut$Row" "size" "I" ∈ pv_T := pv_m 193 (by decide +kernel) (by decide +kernel)
theorem wd207 : Cond.fieldLink RX0 14 "StrikeOut$Blank" "written" "LStrikeOut$Row;" ∈ pv_T := pv_m 207 (by decide +kernel) (by decide +kernel)
theorem wd209 : Cond.fieldLink RX0 20 "StrikeOut$Blank" "rest" "LStrikeOut$Row;" ∈ pv_T := pv_m 209 (by decide +kernel) (by decide +kernel)
theorem wd212 : Cond.fieldLink RX0 23 "StrikeOut$Blank" "own" "[I" ∈ pv_T := pv_m 212 (by decide +kernel) (by decide +kernel)
theorem wd213 : Cond.fieldLink RX0 27 "StrikeOut$Blank" "struck" "[Z" ∈ pv_T := pv_m 213 (by decide +kernel) (by decide +kernel)
theorem wd223 : Cond.arrayClass .boolean ∈ pv_T := pv_m 223 (by decide +kernel) (by decide +kernel)
set_option maxRecDepth 100000 in
theorem FX0 : pv_F 0 RX0 TX0 4 tyX0 := ⟨rfl, fun w hw => List.mem_filter.mpr ⟨(by decide +kernel : ∀ w ∈ u_ws RX0 TX0 4, w ∈ lw_tbl) w hw, (by decide +kernel : ∀ w ∈ u_ws RX0 TX0 4, goodWord w = true) w hw⟩, tyX0_ok, nmX0⟩
theorem pv_dfX0 : ∀ j, j < 4 → defaultValue (tyX0 j) = vp_V [.null, .null, .null, .null] j := by decide +kernel
set_option maxRecDepth 100000 in
theorem FX8 : pv_F 8 RX8 TX8 2 tyX8 := ⟨rfl, fun w hw => List.mem_filter.mpr ⟨(by decide +kernel : ∀ w ∈ u_ws RX8 TX8 2, w ∈ lw_tbl) w hw, (by decide +kernel : ∀ w ∈ u_ws RX8 TX8 2, goodWord w = true) w hw⟩, tyX8_ok, nmX8⟩
theorem pv_dfX8 : ∀ j, j < 2 → defaultValue (tyX8 j) = vp_V [.null, .int 0] j := by decide +kernel
set_option maxRecDepth 100000 in
theorem FX10 : pv_F 10 RX10 TX10 2 tyX10 := ⟨rfl, fun w hw => List.mem_filter.mpr ⟨(by decide +kernel : ∀ w ∈ u_ws RX10 TX10 2, w ∈ lw_tbl) w hw, (by decide +kernel : ∀ w ∈ u_ws RX10 TX10 2, goodWord w = true) w hw⟩, tyX10_ok, nmX10⟩
theorem pv_dfX10 : ∀ j, j < 2 → defaultValue (tyX10 j) = vp_V [.null, .int 0] j := by decide +kernel
abbrev mX0_init : pv_M := (RX0, "<init>", cX0_init, 1, none)
theorem YX0_init : pv_y yX0_init mX0_init 0 := ⟨wd176, wd127, by decide +kernel, by decide⟩
abbrev mX8_init : pv_M := (RX8, "<init>", cX8_init, 2, none)
theorem YX8_init : pv_y yX8_init mX8_init 1 := ⟨wd182, wd128, by decide +kernel, by decide⟩
abbrev mX10_init : pv_M := (RX10, "<init>", cX10_init, 1, none)
theorem YX10_init : pv_y yX10_init mX10_init 0 := ⟨wd159, wd126, by decide +kernel, by decide⟩
theorem Wmmax : Cond.static Lib.Math.max.name ∈ pv_T ∧ Cond.initialized "java/lang/Math" ∈ pv_T ∧ Cond.code Lib.Math.max.name Lib.Math.max.code 2 (some .int) ∈ pv_T := ⟨wd185, wd129, wd186⟩
theorem dX0_init_0 : decode cX0_init 0 = .ok (.aload_n 0, 1) := by decide +kernel
theorem dX0_init_1 : decode cX0_init 1 = .ok (.invokespecial 3, 3) := by decide +kernel
theorem dX0_init_4 : decode cX0_init 4 = .ok (.aload_n 0, 1) := by decide +kernel
theorem dX0_init_5 : decode cX0_init 5 = .ok (.new 9, 3) := by decide +kernel
theorem dX0_init_8 : decode cX0_init 8 = .ok (.dup, 1) := by decide +kernel
theorem dX0_init_9 : decode cX0_init 9 = .ok (.bipush 40, 2) := by decide +kernel
theorem dX0_init_11 : decode cX0_init 11 = .ok (.invokespecial 11, 3) := by decide +kernel
theorem dX0_init_14 : decode cX0_init 14 = .ok (.putfield 14, 3) := by decide +kernel
theorem dX0_init_17 : decode cX0_init 17 = .ok (.aload_n 0, 1) := by decide +kernel
theorem dX0_init_18 : decode cX0_init 18 = .ok (.new 9, 3) := by decide +kernel
theorem dX0_init_21 : decode cX0_init 21 = .ok (.dup, 1) := by decide +kernel
theorem dX0_init_22 : decode cX0_init 22 = .ok (.bipush 40, 2) := by decide +kernel
theorem dX0_init_24 : decode cX0_init 24 = .ok (.invokespecial 11, 3) := by decide +kernel
theorem dX0_init_27 : decode cX0_init 27 = .ok (.putfield 20, 3) := by decide +kernel
theorem dX0_init_30 : decode cX0_init 30 = .ok (.aload_n 0, 1) := by decide +kernel
theorem dX0_init_31 : decode cX0_init 31 = .ok (.bipush 40, 2) := by decide +kernel
theorem dX0_init_33 : decode cX0_init 33 = .ok (.newarray .int, 2) := by decide +kernel
theorem dX0_init_35 : decode cX0_init 35 = .ok (.putfield 23, 3) := by decide +kernel
theorem dX0_init_38 : decode cX0_init 38 = .ok (.aload_n 0, 1) := by decide +kernel
theorem dX0_init_39 : decode cX0_init 39 = .ok (.bipush 40, 2) := by decide +kernel
theorem dX0_init_41 : decode cX0_init 41 = .ok (.newarray .boolean, 2) := by decide +kernel
theorem dX0_init_43 : decode cX0_init 43 = .ok (.putfield 27, 3) := by decide +kernel
theorem dX0_init_46 : decode cX0_init 46 = .ok (.return_, 1) := by decide +kernel
theorem dX10_init_0 : decode cX10_init 0 = .ok (.aload_n 0, 1) := by decide +kernel
theorem dX10_init_1 : decode cX10_init 1 = .ok (.invokespecial 3, 3) := by decide +kernel
theorem dX10_init_4 : decode cX10_init 4 = .ok (.aload_n 0, 1) := by decide +kernel
theorem dX10_init_5 : decode cX10_init 5 = .ok (.sipush 200, 3) := by decide +kernel
theorem dX10_init_8 : decode cX10_init 8 = .ok (.newarray .int, 2) := by decide +kernel
theorem dX10_init_10 : decode cX10_init 10 = .ok (.putfield 9, 3) := by decide +kernel
theorem dX10_init_13 : decode cX10_init 13 = .ok (.aload_n 0, 1) := by decide +kernel
theorem dX10_init_14 : decode cX10_init 14 = .ok (.iconst 0, 1) := by decide +kernel
theorem dX10_init_15 : decode cX10_init 15 = .ok (.putfield 15, 3) := by decide +kernel
theorem dX10_init_18 : decode cX10_init 18 = .ok (.return_, 1) := by decide +kernel
theorem dX8_init_0 : decode cX8_init 0 = .ok (.aload_n 0, 1) := by decide +kernel
theorem dX8_init_1 : decode cX8_init 1 = .ok (.invokespecial 3, 3) := by decide +kernel
theorem dX8_init_4 : decode cX8_init 4 = .ok (.aload_n 0, 1) := by decide +kernel
theorem dX8_init_5 : decode cX8_init 5 = .ok (.iconst 0, 1) := by decide +kernel
theorem dX8_init_6 : decode cX8_init 6 = .ok (.putfield 9, 3) := by decide +kernel
theorem dX8_init_9 : decode cX8_init 9 = .ok (.aload_n 0, 1) := by decide +kernel
theorem dX8_init_10 : decode cX8_init 10 = .ok (.iload_n 1, 1) := by decide +kernel
theorem dX8_init_11 : decode cX8_init 11 = .ok (.iconst 0, 1) := by decide +kernel
theorem dX8_init_12 : decode cX8_init 12 = .ok (.invokestatic 15, 3) := by decide +kernel
theorem dX8_init_15 : decode cX8_init 15 = .ok (.newarray .int, 2) := by decide +kernel
theorem dX8_init_17 : decode cX8_init 17 = .ok (.putfield 21, 3) := by decide +kernel
theorem dX8_init_20 : decode cX8_init 20 = .ok (.return_, 1) := by decide +kernel
