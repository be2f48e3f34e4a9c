theorem dX9_trace_115 : decode cX9_trace 115 = .ok (.iload 4, 2) := by decide +kernel
theorem dX9_trace_117 : decode cX9_trace 117 = .ok (.ishl, 1) := by decide +kernel
theorem dX9_trace_118 : decode cX9_trace 118 = .ok (.ior, 1) := by decide +kernel
theorem dX9_trace_119 : decode cX9_trace 119 = .ok (.istore_n 2, 1) := by decide +kernel
theorem dX9_trace_120 : decode cX9_trace 120 = .ok (.iinc 3 1, 3) := by decide +kernel
theorem dX9_trace_123 : decode cX9_trace 123 = .ok (.goto (-105), 3) := by decide +kernel
theorem dX9_trace_126 : decode cX9_trace 126 = .ok (.return_, 1) := by decide +kernel
theorem dX9_weigh_0 : decode cX9_weigh 0 = .ok (.iload_n 1, 1) := by decide +kernel
theorem dX9_weigh_1 : decode cX9_weigh 1 = .ok (.ifCond .lt 43, 3) := by decide +kernel
theorem dX9_weigh_4 : decode cX9_weigh 4 = .ok (.iload_n 1, 1) := by decide +kernel
theorem dX9_weigh_5 : decode cX9_weigh 5 = .ok (.bipush 8, 2) := by decide +kernel
theorem dX9_weigh_7 : decode cX9_weigh 7 = .ok (.if_icmp .ge 37, 3) := by decide +kernel
theorem dX9_weigh_10 : decode cX9_weigh 10 = .ok (.iload_n 2, 1) := by decide +kernel
theorem dX9_weigh_11 : decode cX9_weigh 11 = .ok (.ifCond .lt 33, 3) := by decide +kernel
theorem dX9_weigh_14 : decode cX9_weigh 14 = .ok (.iload_n 2, 1) := by decide +kernel
theorem dX9_weigh_15 : decode cX9_weigh 15 = .ok (.bipush 8, 2) := by decide +kernel
theorem dX9_weigh_17 : decode cX9_weigh 17 = .ok (.if_icmp .ge 27, 3) := by decide +kernel
theorem dX9_weigh_20 : decode cX9_weigh 20 = .ok (.aload_n 0, 1) := by decide +kernel
theorem dX9_weigh_21 : decode cX9_weigh 21 = .ok (.getfield 22, 3) := by decide +kernel
theorem dX9_weigh_24 : decode cX9_weigh 24 = .ok (.iload_n 1, 1) := by decide +kernel
theorem dX9_weigh_25 : decode cX9_weigh 25 = .ok (.bipush 8, 2) := by decide +kernel
theorem dX9_weigh_27 : decode cX9_weigh 27 = .ok (.imul, 1) := by decide +kernel
theorem dX9_weigh_28 : decode cX9_weigh 28 = .ok (.iload_n 2, 1) := by decide +kernel
theorem dX9_weigh_29 : decode cX9_weigh 29 = .ok (.iadd, 1) := by decide +kernel
theorem dX9_weigh_30 : decode cX9_weigh 30 = .ok (.iload_n 3, 1) := by decide +kernel
theorem dX9_weigh_31 : decode cX9_weigh 31 = .ok (.ifCond .ge 7, 3) := by decide +kernel
theorem dX9_weigh_34 : decode cX9_weigh 34 = .ok (.iconst 0, 1) := by decide +kernel
theorem dX9_weigh_35 : decode cX9_weigh 35 = .ok (.goto 8, 3) := by decide +kernel
theorem dX9_weigh_38 : decode cX9_weigh 38 = .ok (.sipush 1000, 3) := by decide +kernel
theorem dX9_weigh_41 : decode cX9_weigh 41 = .ok (.iload_n 3, 1) := by decide +kernel
theorem dX9_weigh_42 : decode cX9_weigh 42 = .ok (.isub, 1) := by decide +kernel
theorem dX9_weigh_43 : decode cX9_weigh 43 = .ok (.iastore, 1) := by decide +kernel
theorem dX9_weigh_44 : decode cX9_weigh 44 = .ok (.return_, 1) := by decide +kernel
theorem dX9_withBlank_0 : decode cX9_withBlank 0 = .ok (.aload_n 0, 1) := by decide +kernel
theorem dX9_withBlank_1 : decode cX9_withBlank 1 = .ok (.getfield 22, 3) := by decide +kernel
theorem dX9_withBlank_4 : decode cX9_withBlank 4 = .ok (.iload_n 1, 1) := by decide +kernel
theorem dX9_withBlank_5 : decode cX9_withBlank 5 = .ok (.bipush 8, 2) := by decide +kernel
theorem dX9_withBlank_7 : decode cX9_withBlank 7 = .ok (.imul, 1) := by decide +kernel
theorem dX9_withBlank_8 : decode cX9_withBlank 8 = .ok (.iload_n 3, 1) := by decide +kernel
theorem dX9_withBlank_9 : decode cX9_withBlank 9 = .ok (.iadd, 1) := by decide +kernel
theorem dX9_withBlank_10 : decode cX9_withBlank 10 = .ok (.iaload, 1) := by decide +kernel
theorem dX9_withBlank_11 : decode cX9_withBlank 11 = .ok (.istore 4, 2) := by decide +kernel
theorem dX9_withBlank_13 : decode cX9_withBlank 13 = .ok (.iload 4, 2) := by decide +kernel
theorem dX9_withBlank_15 : decode cX9_withBlank 15 = .ok (.ifCond .eq 12, 3) := by decide +kernel
theorem dX9_withBlank_18 : decode cX9_withBlank 18 = .ok (.iload_n 2, 1) := by decide +kernel
theorem dX9_withBlank_19 : decode cX9_withBlank 19 = .ok (.iload_n 3, 1) := by decide +kernel
theorem dX9_withBlank_20 : decode cX9_withBlank 20 = .ok (.ishr, 1) := by decide +kernel
theorem dX9_withBlank_21 : decode cX9_withBlank 21 = .ok (.iconst 1, 1) := by decide +kernel
theorem dX9_withBlank_22 : decode cX9_withBlank 22 = .ok (.iand, 1) := by decide +kernel
theorem dX9_withBlank_23 : decode cX9_withBlank 23 = .ok (.iconst 1, 1) := by decide +kernel
theorem dX9_withBlank_24 : decode cX9_withBlank 24 = .ok (.if_icmp .ne 5, 3) := by decide +kernel
theorem dX9_withBlank_27 : decode cX9_withBlank 27 = .ok (.iconst (-1), 1) := by decide +kernel
theorem dX9_withBlank_28 : decode cX9_withBlank 28 = .ok (.ireturn, 1) := by decide +kernel
theorem dX9_withBlank_29 : decode cX9_withBlank 29 = .ok (.iload 4, 2) := by decide +kernel
theorem dX9_withBlank_31 : decode cX9_withBlank 31 = .ok (.aload_n 0, 1) := by decide +kernel
theorem dX9_withBlank_32 : decode cX9_withBlank 32 = .ok (.getfield 25, 3) := by decide +kernel
theorem dX9_withBlank_35 : decode cX9_withBlank 35 = .ok (.iload_n 1, 1) := by decide +kernel
theorem dX9_withBlank_36 : decode cX9_withBlank 36 = .ok (.iconst 1, 1) := by decide +kernel
theorem dX9_withBlank_37 : decode cX9_withBlank 37 = .ok (.iadd, 1) := by decide +kernel
theorem dX9_withBlank_38 : decode cX9_withBlank 38 = .ok (.sipush 256, 3) := by decide +kernel
theorem dX9_withBlank_41 : decode cX9_withBlank 41 = .ok (.imul, 1) := by decide +kernel
theorem dX9_withBlank_42 : decode cX9_withBlank 42 = .ok (.iload_n 2, 1) := by decide +kernel
theorem dX9_withBlank_43 : decode cX9_withBlank 43 = .ok (.iconst 1, 1) := by decide +kernel
theorem dX9_withBlank_44 : decode cX9_withBlank 44 = .ok (.iload_n 3, 1) := by decide +kernel
theorem dX9_withBlank_45 : decode cX9_withBlank 45 = .ok (.ishl, 1) := by decide +kernel
theorem dX9_withBlank_46 : decode cX9_withBlank 46 = .ok (.ior, 1) := by decide +kernel
theorem dX9_withBlank_47 : decode cX9_withBlank 47 = .ok (.iadd, 1) := by decide +kernel
theorem dX9_withBlank_48 : decode cX9_withBlank 48 = .ok (.iaload, 1) := by decide +kernel
theorem dX9_withBlank_49 : decode cX9_withBlank 49 = .ok (.iadd, 1) := by decide +kernel
theorem dX9_withBlank_50 : decode cX9_withBlank 50 = .ok (.ireturn, 1) := by decide +kernel
