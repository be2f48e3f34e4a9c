theorem wd55 : Cond.selects RX12 yX12_isBlank yX12_isBlank ∈ pv_T := pv_m 55 (by decide +kernel) (by decide +kernel)
theorem wd87 : Cond.selects RX12 yX12_isDeed yX12_isDeed ∈ pv_T := pv_m 87 (by decide +kernel) (by decide +kernel)
theorem wd137 : Cond.initialized RX12 ∈ pv_T := pv_m 137 (by decide +kernel) (by decide +kernel)
theorem wd1173 : Cond.fieldLink RX12 152 "StrikeOutModel" "blanks" "I" ∈ pv_T := pv_m 1173 (by decide +kernel) (by decide +kernel)
theorem wd1177 : Cond.fieldLink RX12 155 "StrikeOutModel" "toldDeeds" "I" ∈ pv_T := pv_m 1177 (by decide +kernel) (by decide +kernel)
theorem wd1178 : Cond.fieldLink RX12 7 "StrikeOutModel" "blankLong" "[I" ∈ pv_T := pv_m 1178 (by decide +kernel) (by decide +kernel)
theorem wd1180 : Cond.fieldLink RX12 16 "StrikeOutModel" "deedLong" "[I" ∈ pv_T := pv_m 1180 (by decide +kernel) (by decide +kernel)
theorem wd1181 : Cond.fieldLink RX12 19 "StrikeOutModel" "deedLetter" "[I" ∈ pv_T := pv_m 1181 (by decide +kernel) (by decide +kernel)
theorem wd1182 : Cond.fieldLink RX12 22 "StrikeOutModel" "isStruck" "[Z" ∈ pv_T := pv_m 1182 (by decide +kernel) (by decide +kernel)
theorem wd1213 : Cond.fieldLink RX12 320 "StrikeOutModel" "long0" "I" ∈ pv_T := pv_m 1213 (by decide +kernel) (by decide +kernel)
theorem wd1214 : Cond.fieldLink RX12 323 "StrikeOutModel" "long1" "I" ∈ pv_T := pv_m 1214 (by decide +kernel) (by decide +kernel)
theorem wd1215 : Cond.fieldLink RX12 87 "StrikeOutModel" "row" "[I" ∈ pv_T := pv_m 1215 (by decide +kernel) (by decide +kernel)
theorem wd1216 : Cond.fieldLink RX12 90 "StrikeOutModel" "deedRow" "[I" ∈ pv_T := pv_m 1216 (by decide +kernel) (by decide +kernel)
theorem wd1372 : Cond.code yX12_in cX12_in 3 (some .boolean) ∈ pv_T := pv_m 1372 (by decide +kernel) (by decide +kernel)
theorem wd1389 : Cond.methodLink RX12 172 yX12_isBlank ∈ pv_T := pv_m 1389 (by decide +kernel) (by decide +kernel)
theorem wd1391 : Cond.instanceMethod yX12_isBlank ∈ pv_T := pv_m 1391 (by decide +kernel) (by decide +kernel)
theorem wd1392 : Cond.code yX12_isBlank cX12_isBlank 2 (some .boolean) ∈ pv_T := pv_m 1392 (by decide +kernel) (by decide +kernel)
theorem wd1396 : Cond.code yX12_leftMany cX12_leftMany 4 (some .int) ∈ pv_T := pv_m 1396 (by decide +kernel) (by decide +kernel)
theorem wd1498 : Cond.code yX12_isClerk cX12_isClerk 1 (some .boolean) ∈ pv_T := pv_m 1498 (by decide +kernel) (by decide +kernel)
theorem wd1557 : Cond.code yX12_isAsked cX12_isAsked 3 (some .boolean) ∈ pv_T := pv_m 1557 (by decide +kernel) (by decide +kernel)
theorem wd1558 : Cond.methodLink RX12 326 yX12_isDeed ∈ pv_T := pv_m 1558 (by decide +kernel) (by decide +kernel)
theorem wd1560 : Cond.instanceMethod yX12_isDeed ∈ pv_T := pv_m 1560 (by decide +kernel) (by decide +kernel)
theorem wd1561 : Cond.code yX12_isDeed cX12_isDeed 2 (some .boolean) ∈ pv_T := pv_m 1561 (by decide +kernel) (by decide +kernel)
theorem wd1570 : Cond.code yX12_laysDeed cX12_laysDeed 3 none ∈ pv_T := pv_m 1570 (by decide +kernel) (by decide +kernel)
theorem wd1699 : Cond.code yX12_comesWithout cX12_comesWithout 4 (some .boolean) ∈ pv_T := pv_m 1699 (by decide +kernel) (by decide +kernel)
theorem wd1756 : Cond.code yX12_laysParent cX12_laysParent 3 none ∈ pv_T := pv_m 1756 (by decide +kernel) (by decide +kernel)
set_option maxRecDepth 100000 in
theorem FX12 : pv_F 12 RX12 TX12 64 tyX12 := ⟨rfl, fun w hw => List.mem_filter.mpr ⟨(by decide +kernel : ∀ w ∈ u_ws RX12 TX12 64, w ∈ lw_tbl) w hw, (by decide +kernel : ∀ w ∈ u_ws RX12 TX12 64, goodWord w = true) w hw⟩, tyX12_ok, nmX12⟩
abbrev mX12_comesWithout : pv_M := (RX12, "comesWithout", cX12_comesWithout, 4, some .boolean)
theorem YX12_comesWithout : pv_y yX12_comesWithout mX12_comesWithout 1 := ⟨wd1699, wd137, by decide +kernel, by decide⟩
abbrev mX12_in : pv_M := (RX12, "in", cX12_in, 3, some .boolean)
theorem YX12_in : pv_y yX12_in mX12_in 3 := ⟨wd1372, wd137, by decide +kernel, by decide⟩
abbrev mX12_isAsked : pv_M := (RX12, "isAsked", cX12_isAsked, 3, some .boolean)
theorem YX12_isAsked : pv_y yX12_isAsked mX12_isAsked 2 := ⟨wd1557, wd137, by decide +kernel, by decide⟩
abbrev mX12_isBlank : pv_M := (RX12, "isBlank", cX12_isBlank, 2, some .boolean)
theorem YX12_isBlank : pv_y yX12_isBlank mX12_isBlank 1 := ⟨wd1392, wd137, by decide +kernel, by decide⟩
abbrev mX12_isClerk : pv_M := (RX12, "isClerk", cX12_isClerk, 1, some .boolean)
theorem YX12_isClerk : pv_y yX12_isClerk mX12_isClerk 1 := ⟨wd1498, wd137, by decide +kernel, by decide⟩
abbrev mX12_isDeed : pv_M := (RX12, "isDeed", cX12_isDeed, 2, some .boolean)
theorem YX12_isDeed : pv_y yX12_isDeed mX12_isDeed 1 := ⟨wd1561, wd137, by decide +kernel, by decide⟩
abbrev mX12_laysDeed : pv_M := (RX12, "laysDeed", cX12_laysDeed, 3, none)
theorem YX12_laysDeed : pv_y yX12_laysDeed mX12_laysDeed 1 := ⟨wd1570, wd137, by decide +kernel, by decide⟩
abbrev mX12_laysParent : pv_M := (RX12, "laysParent", cX12_laysParent, 3, none)
theorem YX12_laysParent : pv_y yX12_laysParent mX12_laysParent 1 := ⟨wd1756, wd137, by decide +kernel, by decide⟩
abbrev mX12_leftMany : pv_M := (RX12, "leftMany", cX12_leftMany, 4, some .int)
theorem YX12_leftMany : pv_y yX12_leftMany mX12_leftMany 1 := ⟨wd1396, wd137, by decide +kernel, by decide⟩
theorem dX12_comesWithout_0 : decode cX12_comesWithout 0 = .ok (.iconst 0, 1) := by decide +kernel
theorem dX12_comesWithout_1 : decode cX12_comesWithout 1 = .ok (.istore_n 2, 1) := by decide +kernel
theorem dX12_comesWithout_2 : decode cX12_comesWithout 2 = .ok (.iconst 0, 1) := by decide +kernel
theorem dX12_comesWithout_3 : decode cX12_comesWithout 3 = .ok (.istore_n 3, 1) := by decide +kernel
theorem dX12_comesWithout_4 : decode cX12_comesWithout 4 = .ok (.iload_n 3, 1) := by decide +kernel
theorem dX12_comesWithout_5 : decode cX12_comesWithout 5 = .ok (.aload_n 0, 1) := by decide +kernel
theorem dX12_comesWithout_6 : decode cX12_comesWithout 6 = .ok (.getfield 320, 3) := by decide +kernel
theorem dX12_comesWithout_9 : decode cX12_comesWithout 9 = .ok (.if_icmp .ge 41, 3) := by decide +kernel
theorem dX12_comesWithout_12 : decode cX12_comesWithout 12 = .ok (.iload_n 2, 1) := by decide +kernel
theorem dX12_comesWithout_13 : decode cX12_comesWithout 13 = .ok (.aload_n 0, 1) := by decide +kernel
theorem dX12_comesWithout_14 : decode cX12_comesWithout 14 = .ok (.getfield 323, 3) := by decide +kernel
theorem dX12_comesWithout_17 : decode cX12_comesWithout 17 = .ok (.if_icmp .ge 33, 3) := by decide +kernel
theorem dX12_comesWithout_20 : decode cX12_comesWithout 20 = .ok (.iload_n 3, 1) := by decide +kernel
theorem dX12_comesWithout_21 : decode cX12_comesWithout 21 = .ok (.iload_n 1, 1) := by decide +kernel
theorem dX12_comesWithout_22 : decode cX12_comesWithout 22 = .ok (.if_icmp .eq 22, 3) := by decide +kernel
theorem dX12_comesWithout_25 : decode cX12_comesWithout 25 = .ok (.aload_n 0, 1) := by decide +kernel
theorem dX12_comesWithout_26 : decode cX12_comesWithout 26 = .ok (.getfield 87, 3) := by decide +kernel
theorem dX12_comesWithout_29 : decode cX12_comesWithout 29 = .ok (.iload_n 3, 1) := by decide +kernel
theorem dX12_comesWithout_30 : decode cX12_comesWithout 30 = .ok (.iaload, 1) := by decide +kernel
theorem dX12_comesWithout_31 : decode cX12_comesWithout 31 = .ok (.aload_n 0, 1) := by decide +kernel
theorem dX12_comesWithout_32 : decode cX12_comesWithout 32 = .ok (.getfield 90, 3) := by decide +kernel
theorem dX12_comesWithout_35 : decode cX12_comesWithout 35 = .ok (.iload_n 2, 1) := by decide +kernel
theorem dX12_comesWithout_36 : decode cX12_comesWithout 36 = .ok (.iaload, 1) := by decide +kernel
theorem dX12_comesWithout_37 : decode cX12_comesWithout 37 = .ok (.if_icmp .ne 7, 3) := by decide +kernel
theorem dX12_comesWithout_40 : decode cX12_comesWithout 40 = .ok (.iload_n 2, 1) := by decide +kernel
theorem dX12_comesWithout_41 : decode cX12_comesWithout 41 = .ok (.iconst 1, 1) := by decide +kernel
theorem dX12_comesWithout_42 : decode cX12_comesWithout 42 = .ok (.iadd, 1) := by decide +kernel
theorem dX12_comesWithout_43 : decode cX12_comesWithout 43 = .ok (.istore_n 2, 1) := by decide +kernel
theorem dX12_comesWithout_44 : decode cX12_comesWithout 44 = .ok (.iinc 3 1, 3) := by decide +kernel
theorem dX12_comesWithout_47 : decode cX12_comesWithout 47 = .ok (.goto (-43), 3) := by decide +kernel
theorem dX12_comesWithout_50 : decode cX12_comesWithout 50 = .ok (.iload_n 2, 1) := by decide +kernel
theorem dX12_comesWithout_51 : decode cX12_comesWithout 51 = .ok (.aload_n 0, 1) := by decide +kernel
theorem dX12_comesWithout_52 : decode cX12_comesWithout 52 = .ok (.getfield 323, 3) := by decide +kernel
theorem dX12_comesWithout_55 : decode cX12_comesWithout 55 = .ok (.if_icmp .ne 7, 3) := by decide +kernel
theorem dX12_comesWithout_58 : decode cX12_comesWithout 58 = .ok (.iconst 1, 1) := by decide +kernel
theorem dX12_comesWithout_59 : decode cX12_comesWithout 59 = .ok (.goto 4, 3) := by decide +kernel
theorem dX12_comesWithout_62 : decode cX12_comesWithout 62 = .ok (.iconst 0, 1) := by decide +kernel
theorem dX12_comesWithout_63 : decode cX12_comesWithout 63 = .ok (.ireturn, 1) := by decide +kernel
theorem dX12_in_0 : decode cX12_in 0 = .ok (.iload_n 0, 1) := by decide +kernel
theorem dX12_in_1 : decode cX12_in 1 = .ok (.iload_n 1, 1) := by decide +kernel
theorem dX12_in_2 : decode cX12_in 2 = .ok (.if_icmp .lt 12, 3) := by decide +kernel
theorem dX12_in_5 : decode cX12_in 5 = .ok (.iload_n 0, 1) := by decide +kernel
theorem dX12_in_6 : decode cX12_in 6 = .ok (.iload_n 2, 1) := by decide +kernel
theorem dX12_in_7 : decode cX12_in 7 = .ok (.if_icmp .gt 7, 3) := by decide +kernel
theorem dX12_in_10 : decode cX12_in 10 = .ok (.iconst 1, 1) := by decide +kernel
theorem dX12_in_11 : decode cX12_in 11 = .ok (.goto 4, 3) := by decide +kernel
theorem dX12_in_14 : decode cX12_in 14 = .ok (.iconst 0, 1) := by decide +kernel
theorem dX12_in_15 : decode cX12_in 15 = .ok (.ireturn, 1) := by decide +kernel
theorem dX12_isAsked_0 : decode cX12_isAsked 0 = .ok (.aload_n 0, 1) := by decide +kernel
theorem dX12_isAsked_1 : decode cX12_isAsked 1 = .ok (.iload_n 1, 1) := by decide +kernel
theorem dX12_isAsked_2 : decode cX12_isAsked 2 = .ok (.invokevirtual 172, 3) := by decide +kernel
theorem dX12_isAsked_5 : decode cX12_isAsked 5 = .ok (.ifCond .eq 15, 3) := by decide +kernel
theorem dX12_isAsked_8 : decode cX12_isAsked 8 = .ok (.aload_n 0, 1) := by decide +kernel
theorem dX12_isAsked_9 : decode cX12_isAsked 9 = .ok (.iload_n 2, 1) := by decide +kernel
theorem dX12_isAsked_10 : decode cX12_isAsked 10 = .ok (.invokevirtual 326, 3) := by decide +kernel
theorem dX12_isAsked_13 : decode cX12_isAsked 13 = .ok (.ifCond .eq 7, 3) := by decide +kernel
theorem dX12_isAsked_16 : decode cX12_isAsked 16 = .ok (.iconst 1, 1) := by decide +kernel
theorem dX12_isAsked_17 : decode cX12_isAsked 17 = .ok (.goto 4, 3) := by decide +kernel
theorem dX12_isAsked_20 : decode cX12_isAsked 20 = .ok (.iconst 0, 1) := by decide +kernel
theorem dX12_isAsked_21 : decode cX12_isAsked 21 = .ok (.ireturn, 1) := by decide +kernel
theorem dX12_isBlank_0 : decode cX12_isBlank 0 = .ok (.iload_n 1, 1) := by decide +kernel
theorem dX12_isBlank_1 : decode cX12_isBlank 1 = .ok (.ifCond .lt 15, 3) := by decide +kernel
theorem dX12_isBlank_4 : decode cX12_isBlank 4 = .ok (.iload_n 1, 1) := by decide +kernel
theorem dX12_isBlank_5 : decode cX12_isBlank 5 = .ok (.aload_n 0, 1) := by decide +kernel
theorem dX12_isBlank_6 : decode cX12_isBlank 6 = .ok (.getfield 152, 3) := by decide +kernel
theorem dX12_isBlank_9 : decode cX12_isBlank 9 = .ok (.if_icmp .ge 7, 3) := by decide +kernel
theorem dX12_isBlank_12 : decode cX12_isBlank 12 = .ok (.iconst 1, 1) := by decide +kernel
theorem dX12_isBlank_13 : decode cX12_isBlank 13 = .ok (.goto 4, 3) := by decide +kernel
theorem dX12_isBlank_16 : decode cX12_isBlank 16 = .ok (.iconst 0, 1) := by decide +kernel
theorem dX12_isBlank_17 : decode cX12_isBlank 17 = .ok (.ireturn, 1) := by decide +kernel
theorem dX12_isClerk_0 : decode cX12_isClerk 0 = .ok (.iload_n 0, 1) := by decide +kernel
theorem dX12_isClerk_1 : decode cX12_isClerk 1 = .ok (.ifCond .lt 13, 3) := by decide +kernel
theorem dX12_isClerk_4 : decode cX12_isClerk 4 = .ok (.iload_n 0, 1) := by decide +kernel
theorem dX12_isClerk_5 : decode cX12_isClerk 5 = .ok (.bipush 8, 2) := by decide +kernel
theorem dX12_isClerk_7 : decode cX12_isClerk 7 = .ok (.if_icmp .ge 7, 3) := by decide +kernel
theorem dX12_isClerk_10 : decode cX12_isClerk 10 = .ok (.iconst 1, 1) := by decide +kernel
theorem dX12_isClerk_11 : decode cX12_isClerk 11 = .ok (.goto 4, 3) := by decide +kernel
theorem dX12_isClerk_14 : decode cX12_isClerk 14 = .ok (.iconst 0, 1) := by decide +kernel
theorem dX12_isClerk_15 : decode cX12_isClerk 15 = .ok (.ireturn, 1) := by decide +kernel
theorem dX12_isDeed_0 : decode cX12_isDeed 0 = .ok (.iload_n 1, 1) := by decide +kernel
theorem dX12_isDeed_1 : decode cX12_isDeed 1 = .ok (.ifCond .lt 25, 3) := by decide +kernel
theorem dX12_isDeed_4 : decode cX12_isDeed 4 = .ok (.iload_n 1, 1) := by decide +kernel
theorem dX12_isDeed_5 : decode cX12_isDeed 5 = .ok (.bipush 8, 2) := by decide +kernel
theorem dX12_isDeed_7 : decode cX12_isDeed 7 = .ok (.if_icmp .ge 19, 3) := by decide +kernel
theorem dX12_isDeed_10 : decode cX12_isDeed 10 = .ok (.aload_n 0, 1) := by decide +kernel
theorem dX12_isDeed_11 : decode cX12_isDeed 11 = .ok (.getfield 155, 3) := by decide +kernel
theorem dX12_isDeed_14 : decode cX12_isDeed 14 = .ok (.iload_n 1, 1) := by decide +kernel
theorem dX12_isDeed_15 : decode cX12_isDeed 15 = .ok (.ishr, 1) := by decide +kernel
theorem dX12_isDeed_16 : decode cX12_isDeed 16 = .ok (.iconst 1, 1) := by decide +kernel
theorem dX12_isDeed_17 : decode cX12_isDeed 17 = .ok (.iand, 1) := by decide +kernel
theorem dX12_isDeed_18 : decode cX12_isDeed 18 = .ok (.iconst 1, 1) := by decide +kernel
theorem dX12_isDeed_19 : decode cX12_isDeed 19 = .ok (.if_icmp .ne 7, 3) := by decide +kernel
theorem dX12_isDeed_22 : decode cX12_isDeed 22 = .ok (.iconst 1, 1) := by decide +kernel
theorem dX12_isDeed_23 : decode cX12_isDeed 23 = .ok (.goto 4, 3) := by decide +kernel
theorem dX12_isDeed_26 : decode cX12_isDeed 26 = .ok (.iconst 0, 1) := by decide +kernel
theorem dX12_isDeed_27 : decode cX12_isDeed 27 = .ok (.ireturn, 1) := by decide +kernel
theorem dX12_laysDeed_0 : decode cX12_laysDeed 0 = .ok (.aload_n 0, 1) := by decide +kernel
theorem dX12_laysDeed_1 : decode cX12_laysDeed 1 = .ok (.aload_n 0, 1) := by decide +kernel
theorem dX12_laysDeed_2 : decode cX12_laysDeed 2 = .ok (.getfield 16, 3) := by decide +kernel
theorem dX12_laysDeed_5 : decode cX12_laysDeed 5 = .ok (.iload_n 1, 1) := by decide +kernel
theorem dX12_laysDeed_6 : decode cX12_laysDeed 6 = .ok (.iaload, 1) := by decide +kernel
theorem dX12_laysDeed_7 : decode cX12_laysDeed 7 = .ok (.putfield 323, 3) := by decide +kernel
theorem dX12_laysDeed_10 : decode cX12_laysDeed 10 = .ok (.iconst 0, 1) := by decide +kernel
theorem dX12_laysDeed_11 : decode cX12_laysDeed 11 = .ok (.istore_n 2, 1) := by decide +kernel
theorem dX12_laysDeed_12 : decode cX12_laysDeed 12 = .ok (.iload_n 2, 1) := by decide +kernel
theorem dX12_laysDeed_13 : decode cX12_laysDeed 13 = .ok (.aload_n 0, 1) := by decide +kernel
theorem dX12_laysDeed_14 : decode cX12_laysDeed 14 = .ok (.getfield 323, 3) := by decide +kernel
theorem dX12_laysDeed_17 : decode cX12_laysDeed 17 = .ok (.if_icmp .ge 26, 3) := by decide +kernel
theorem dX12_laysDeed_20 : decode cX12_laysDeed 20 = .ok (.aload_n 0, 1) := by decide +kernel
theorem dX12_laysDeed_21 : decode cX12_laysDeed 21 = .ok (.getfield 90, 3) := by decide +kernel
theorem dX12_laysDeed_24 : decode cX12_laysDeed 24 = .ok (.iload_n 2, 1) := by decide +kernel
theorem dX12_laysDeed_25 : decode cX12_laysDeed 25 = .ok (.aload_n 0, 1) := by decide +kernel
theorem dX12_laysDeed_26 : decode cX12_laysDeed 26 = .ok (.getfield 19, 3) := by decide +kernel
theorem dX12_laysDeed_29 : decode cX12_laysDeed 29 = .ok (.bipush 16, 2) := by decide +kernel
theorem dX12_laysDeed_31 : decode cX12_laysDeed 31 = .ok (.iload_n 1, 1) := by decide +kernel
theorem dX12_laysDeed_32 : decode cX12_laysDeed 32 = .ok (.imul, 1) := by decide +kernel
theorem dX12_laysDeed_33 : decode cX12_laysDeed 33 = .ok (.iload_n 2, 1) := by decide +kernel
theorem dX12_laysDeed_34 : decode cX12_laysDeed 34 = .ok (.iadd, 1) := by decide +kernel
theorem dX12_laysDeed_35 : decode cX12_laysDeed 35 = .ok (.iaload, 1) := by decide +kernel
theorem dX12_laysDeed_36 : decode cX12_laysDeed 36 = .ok (.iastore, 1) := by decide +kernel
theorem dX12_laysDeed_37 : decode cX12_laysDeed 37 = .ok (.iinc 2 1, 3) := by decide +kernel
theorem dX12_laysDeed_40 : decode cX12_laysDeed 40 = .ok (.goto (-28), 3) := by decide +kernel
theorem dX12_laysDeed_43 : decode cX12_laysDeed 43 = .ok (.return_, 1) := by decide +kernel
theorem dX12_laysParent_0 : decode cX12_laysParent 0 = .ok (.aload_n 0, 1) := by decide +kernel
theorem dX12_laysParent_1 : decode cX12_laysParent 1 = .ok (.aload_n 0, 1) := by decide +kernel
theorem dX12_laysParent_2 : decode cX12_laysParent 2 = .ok (.getfield 16, 3) := by decide +kernel
theorem dX12_laysParent_5 : decode cX12_laysParent 5 = .ok (.iload_n 1, 1) := by decide +kernel
theorem dX12_laysParent_6 : decode cX12_laysParent 6 = .ok (.iaload, 1) := by decide +kernel
theorem dX12_laysParent_7 : decode cX12_laysParent 7 = .ok (.putfield 320, 3) := by decide +kernel
theorem dX12_laysParent_10 : decode cX12_laysParent 10 = .ok (.iconst 0, 1) := by decide +kernel
theorem dX12_laysParent_11 : decode cX12_laysParent 11 = .ok (.istore_n 2, 1) := by decide +kernel
theorem dX12_laysParent_12 : decode cX12_laysParent 12 = .ok (.iload_n 2, 1) := by decide +kernel
theorem dX12_laysParent_13 : decode cX12_laysParent 13 = .ok (.aload_n 0, 1) := by decide +kernel
theorem dX12_laysParent_14 : decode cX12_laysParent 14 = .ok (.getfield 320, 3) := by decide +kernel
theorem dX12_laysParent_17 : decode cX12_laysParent 17 = .ok (.if_icmp .ge 26, 3) := by decide +kernel
theorem dX12_laysParent_20 : decode cX12_laysParent 20 = .ok (.aload_n 0, 1) := by decide +kernel
theorem dX12_laysParent_21 : decode cX12_laysParent 21 = .ok (.getfield 87, 3) := by decide +kernel
theorem dX12_laysParent_24 : decode cX12_laysParent 24 = .ok (.iload_n 2, 1) := by decide +kernel
theorem dX12_laysParent_25 : decode cX12_laysParent 25 = .ok (.aload_n 0, 1) := by decide +kernel
theorem dX12_laysParent_26 : decode cX12_laysParent 26 = .ok (.getfield 19, 3) := by decide +kernel
theorem dX12_laysParent_29 : decode cX12_laysParent 29 = .ok (.bipush 16, 2) := by decide +kernel
theorem dX12_laysParent_31 : decode cX12_laysParent 31 = .ok (.iload_n 1, 1) := by decide +kernel
theorem dX12_laysParent_32 : decode cX12_laysParent 32 = .ok (.imul, 1) := by decide +kernel
theorem dX12_laysParent_33 : decode cX12_laysParent 33 = .ok (.iload_n 2, 1) := by decide +kernel
theorem dX12_laysParent_34 : decode cX12_laysParent 34 = .ok (.iadd, 1) := by decide +kernel
theorem dX12_laysParent_35 : decode cX12_laysParent 35 = .ok (.iaload, 1) := by decide +kernel
theorem dX12_laysParent_36 : decode cX12_laysParent 36 = .ok (.iastore, 1) := by decide +kernel
theorem dX12_laysParent_37 : decode cX12_laysParent 37 = .ok (.iinc 2 1, 3) := by decide +kernel
theorem dX12_laysParent_40 : decode cX12_laysParent 40 = .ok (.goto (-28), 3) := by decide +kernel
theorem dX12_laysParent_43 : decode cX12_laysParent 43 = .ok (.return_, 1) := by decide +kernel
theorem dX12_leftMany_0 : decode cX12_leftMany 0 = .ok (.iconst 0, 1) := by decide +kernel
theorem dX12_leftMany_1 : decode cX12_leftMany 1 = .ok (.istore_n 2, 1) := by decide +kernel
theorem dX12_leftMany_2 : decode cX12_leftMany 2 = .ok (.iconst 0, 1) := by decide +kernel
theorem dX12_leftMany_3 : decode cX12_leftMany 3 = .ok (.istore_n 3, 1) := by decide +kernel
theorem dX12_leftMany_4 : decode cX12_leftMany 4 = .ok (.iload_n 3, 1) := by decide +kernel
theorem dX12_leftMany_5 : decode cX12_leftMany 5 = .ok (.aload_n 0, 1) := by decide +kernel
theorem dX12_leftMany_6 : decode cX12_leftMany 6 = .ok (.getfield 7, 3) := by decide +kernel
theorem dX12_leftMany_9 : decode cX12_leftMany 9 = .ok (.iload_n 1, 1) := by decide +kernel
theorem dX12_leftMany_10 : decode cX12_leftMany 10 = .ok (.iaload, 1) := by decide +kernel
theorem dX12_leftMany_11 : decode cX12_leftMany 11 = .ok (.if_icmp .ge 31, 3) := by decide +kernel
theorem dX12_leftMany_14 : decode cX12_leftMany 14 = .ok (.iload_n 2, 1) := by decide +kernel
theorem dX12_leftMany_15 : decode cX12_leftMany 15 = .ok (.aload_n 0, 1) := by decide +kernel
theorem dX12_leftMany_16 : decode cX12_leftMany 16 = .ok (.getfield 22, 3) := by decide +kernel
theorem dX12_leftMany_19 : decode cX12_leftMany 19 = .ok (.bipush 40, 2) := by decide +kernel
theorem dX12_leftMany_21 : decode cX12_leftMany 21 = .ok (.iload_n 1, 1) := by decide +kernel
theorem dX12_leftMany_22 : decode cX12_leftMany 22 = .ok (.imul, 1) := by decide +kernel
theorem dX12_leftMany_23 : decode cX12_leftMany 23 = .ok (.iload_n 3, 1) := by decide +kernel
theorem dX12_leftMany_24 : decode cX12_leftMany 24 = .ok (.iadd, 1) := by decide +kernel
theorem dX12_leftMany_25 : decode cX12_leftMany 25 = .ok (.baload, 1) := by decide +kernel
theorem dX12_leftMany_26 : decode cX12_leftMany 26 = .ok (.ifCond .eq 7, 3) := by decide +kernel
theorem dX12_leftMany_29 : decode cX12_leftMany 29 = .ok (.iconst 0, 1) := by decide +kernel
theorem dX12_leftMany_30 : decode cX12_leftMany 30 = .ok (.goto 4, 3) := by decide +kernel
theorem dX12_leftMany_33 : decode cX12_leftMany 33 = .ok (.iconst 1, 1) := by decide +kernel
theorem dX12_leftMany_34 : decode cX12_leftMany 34 = .ok (.iadd, 1) := by decide +kernel
theorem dX12_leftMany_35 : decode cX12_leftMany 35 = .ok (.istore_n 2, 1) := by decide +kernel
theorem dX12_leftMany_36 : decode cX12_leftMany 36 = .ok (.iinc 3 1, 3) := by decide +kernel
theorem dX12_leftMany_39 : decode cX12_leftMany 39 = .ok (.goto (-35), 3) := by decide +kernel
theorem dX12_leftMany_42 : decode cX12_leftMany 42 = .ok (.iload_n 2, 1) := by decide +kernel
theorem dX12_leftMany_43 : decode cX12_leftMany 43 = .ok (.ireturn, 1) := by decide +kernel
