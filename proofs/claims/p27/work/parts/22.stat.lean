theorem wd137 : Cond.initialized RX12 ∈ pv_T := pv_m 137 (by decide +kernel) (by decide +kernel)
theorem wd1178 : Cond.fieldLink RX12 7 "StrikeOutModel" "blankLong" "[I" ∈ pv_T := pv_m 1178 (by decide +kernel) (by decide +kernel)
theorem wd1182 : Cond.fieldLink RX12 22 "StrikeOutModel" "isStruck" "[Z" ∈ pv_T := pv_m 1182 (by decide +kernel) (by decide +kernel)
theorem wd1396 : Cond.code yX12_leftMany cX12_leftMany 4 (some .int) ∈ pv_T := pv_m 1396 (by decide +kernel) (by decide +kernel)
set_option maxRecDepth 100000 in
theorem FX12 : pv_F 12 RX12 TX12 64 tyX12 := ⟨rfl, fun w hw => List.mem_filter.mpr ⟨(by decide +kernel : ∀ w ∈ u_ws RX12 TX12 64, w ∈ lw_tbl) w hw, (by decide +kernel : ∀ w ∈ u_ws RX12 TX12 64, goodWord w = true) w hw⟩, tyX12_ok, nmX12⟩
abbrev mX12_leftMany : pv_M := (RX12, "leftMany", cX12_leftMany, 4, some .int)
theorem YX12_leftMany : pv_y yX12_leftMany mX12_leftMany 1 := ⟨wd1396, wd137, by decide +kernel, by decide⟩
theorem dX12_leftMany_0 : decode cX12_leftMany 0 = .ok (.iconst 0, 1) := by decide +kernel
theorem dX12_leftMany_1 : decode cX12_leftMany 1 = .ok (.istore_n 2, 1) := by decide +kernel
theorem dX12_leftMany_2 : decode cX12_leftMany 2 = .ok (.iconst 0, 1) := by decide +kernel
theorem dX12_leftMany_3 : decode cX12_leftMany 3 = .ok (.istore_n 3, 1) := by decide +kernel
theorem dX12_leftMany_4 : decode cX12_leftMany 4 = .ok (.iload_n 3, 1) := by decide +kernel
theorem dX12_leftMany_5 : decode cX12_leftMany 5 = .ok (.aload_n 0, 1) := by decide +kernel
theorem dX12_leftMany_6 : decode cX12_leftMany 6 = .ok (.getfield 7, 3) := by decide +kernel
theorem dX12_leftMany_9 : decode cX12_leftMany 9 = .ok (.iload_n 1, 1) := by decide +kernel
theorem dX12_leftMany_10 : decode cX12_leftMany 10 = .ok (.iaload, 1) := by decide +kernel
theorem dX12_leftMany_11 : decode cX12_leftMany 11 = .ok (.if_icmp .ge 31, 3) := by decide +kernel
theorem dX12_leftMany_14 : decode cX12_leftMany 14 = .ok (.iload_n 2, 1) := by decide +kernel
theorem dX12_leftMany_15 : decode cX12_leftMany 15 = .ok (.aload_n 0, 1) := by decide +kernel
theorem dX12_leftMany_16 : decode cX12_leftMany 16 = .ok (.getfield 22, 3) := by decide +kernel
theorem dX12_leftMany_19 : decode cX12_leftMany 19 = .ok (.bipush 40, 2) := by decide +kernel
theorem dX12_leftMany_21 : decode cX12_leftMany 21 = .ok (.iload_n 1, 1) := by decide +kernel
theorem dX12_leftMany_22 : decode cX12_leftMany 22 = .ok (.imul, 1) := by decide +kernel
theorem dX12_leftMany_23 : decode cX12_leftMany 23 = .ok (.iload_n 3, 1) := by decide +kernel
theorem dX12_leftMany_24 : decode cX12_leftMany 24 = .ok (.iadd, 1) := by decide +kernel
theorem dX12_leftMany_25 : decode cX12_leftMany 25 = .ok (.baload, 1) := by decide +kernel
theorem dX12_leftMany_26 : decode cX12_leftMany 26 = .ok (.ifCond .eq 7, 3) := by decide +kernel
theorem dX12_leftMany_29 : decode cX12_leftMany 29 = .ok (.iconst 0, 1) := by decide +kernel
theorem dX12_leftMany_30 : decode cX12_leftMany 30 = .ok (.goto 4, 3) := by decide +kernel
theorem dX12_leftMany_33 : decode cX12_leftMany 33 = .ok (.iconst 1, 1) := by decide +kernel
theorem dX12_leftMany_34 : decode cX12_leftMany 34 = .ok (.iadd, 1) := by decide +kernel
theorem dX12_leftMany_35 : decode cX12_leftMany 35 = .ok (.istore_n 2, 1) := by decide +kernel
theorem dX12_leftMany_36 : decode cX12_leftMany 36 = .ok (.iinc 3 1, 3) := by decide +kernel
theorem dX12_leftMany_39 : decode cX12_leftMany 39 = .ok (.goto (-35), 3) := by decide +kernel
theorem dX12_leftMany_42 : decode cX12_leftMany 42 = .ok (.iload_n 2, 1) := by decide +kernel
theorem dX12_leftMany_43 : decode cX12_leftMany 43 = .ok (.ireturn, 1) := by decide +kernel
