theorem dX12_strokesFor_33 : decode cX12_strokesFor 33 = .ok (.iload_n 3, 1) := by decide +kernel
theorem dX12_strokesFor_34 : decode cX12_strokesFor 34 = .ok (.iaload, 1) := by decide +kernel
theorem dX12_strokesFor_35 : decode cX12_strokesFor 35 = .ok (.istore 4, 2) := by decide +kernel
theorem dX12_strokesFor_37 : decode cX12_strokesFor 37 = .ok (.iload_n 1, 1) := by decide +kernel
theorem dX12_strokesFor_38 : decode cX12_strokesFor 38 = .ok (.iload 4, 2) := by decide +kernel
theorem dX12_strokesFor_40 : decode cX12_strokesFor 40 = .ok (.iload_n 2, 1) := by decide +kernel
theorem dX12_strokesFor_41 : decode cX12_strokesFor 41 = .ok (.isub, 1) := by decide +kernel
theorem dX12_strokesFor_42 : decode cX12_strokesFor 42 = .ok (.bipush 8, 2) := by decide +kernel
theorem dX12_strokesFor_44 : decode cX12_strokesFor 44 = .ok (.iadd, 1) := by decide +kernel
theorem dX12_strokesFor_45 : decode cX12_strokesFor 45 = .ok (.bipush 9, 2) := by decide +kernel
theorem dX12_strokesFor_47 : decode cX12_strokesFor 47 = .ok (.idiv, 1) := by decide +kernel
theorem dX12_strokesFor_48 : decode cX12_strokesFor 48 = .ok (.iadd, 1) := by decide +kernel
theorem dX12_strokesFor_49 : decode cX12_strokesFor 49 = .ok (.istore_n 1, 1) := by decide +kernel
theorem dX12_strokesFor_50 : decode cX12_strokesFor 50 = .ok (.iload 4, 2) := by decide +kernel
theorem dX12_strokesFor_52 : decode cX12_strokesFor 52 = .ok (.iconst 1, 1) := by decide +kernel
theorem dX12_strokesFor_53 : decode cX12_strokesFor 53 = .ok (.iadd, 1) := by decide +kernel
theorem dX12_strokesFor_54 : decode cX12_strokesFor 54 = .ok (.istore_n 2, 1) := by decide +kernel
theorem dX12_strokesFor_55 : decode cX12_strokesFor 55 = .ok (.iinc 3 1, 3) := by decide +kernel
theorem dX12_strokesFor_58 : decode cX12_strokesFor 58 = .ok (.goto (-52), 3) := by decide +kernel
theorem dX12_strokesFor_61 : decode cX12_strokesFor 61 = .ok (.iload_n 1, 1) := by decide +kernel
theorem dX12_strokesFor_62 : decode cX12_strokesFor 62 = .ok (.ireturn, 1) := by decide +kernel
theorem dX12_sum_0 : decode cX12_sum 0 = .ok (.iload_n 0, 1) := by decide +kernel
theorem dX12_sum_1 : decode cX12_sum 1 = .ok (.ldc_w 341, 3) := by decide +kernel
theorem dX12_sum_4 : decode cX12_sum 4 = .ok (.if_icmp .ge 10, 3) := by decide +kernel
theorem dX12_sum_7 : decode cX12_sum 7 = .ok (.iload_n 1, 1) := by decide +kernel
theorem dX12_sum_8 : decode cX12_sum 8 = .ok (.ldc_w 341, 3) := by decide +kernel
theorem dX12_sum_11 : decode cX12_sum 11 = .ok (.if_icmp .lt 9, 3) := by decide +kernel
theorem dX12_sum_14 : decode cX12_sum 14 = .ok (.ldc_w 341, 3) := by decide +kernel
theorem dX12_sum_17 : decode cX12_sum 17 = .ok (.goto 6, 3) := by decide +kernel
theorem dX12_sum_20 : decode cX12_sum 20 = .ok (.iload_n 0, 1) := by decide +kernel
theorem dX12_sum_21 : decode cX12_sum 21 = .ok (.iload_n 1, 1) := by decide +kernel
theorem dX12_sum_22 : decode cX12_sum 22 = .ok (.iadd, 1) := by decide +kernel
theorem dX12_sum_23 : decode cX12_sum 23 = .ok (.ireturn, 1) := by decide +kernel
theorem dX12_sumSign_0 : decode cX12_sumSign 0 = .ok (.iload_n 0, 1) := by decide +kernel
theorem dX12_sumSign_1 : decode cX12_sumSign 1 = .ok (.bipush 43, 2) := by decide +kernel
theorem dX12_sumSign_3 : decode cX12_sumSign 3 = .ok (.if_icmp .ne 7, 3) := by decide +kernel
theorem dX12_sumSign_6 : decode cX12_sumSign 6 = .ok (.iconst 2, 1) := by decide +kernel
theorem dX12_sumSign_7 : decode cX12_sumSign 7 = .ok (.goto 45, 3) := by decide +kernel
theorem dX12_sumSign_10 : decode cX12_sumSign 10 = .ok (.iload_n 0, 1) := by decide +kernel
theorem dX12_sumSign_11 : decode cX12_sumSign 11 = .ok (.bipush 45, 2) := by decide +kernel
theorem dX12_sumSign_13 : decode cX12_sumSign 13 = .ok (.if_icmp .ne 7, 3) := by decide +kernel
theorem dX12_sumSign_16 : decode cX12_sumSign 16 = .ok (.iconst 3, 1) := by decide +kernel
theorem dX12_sumSign_17 : decode cX12_sumSign 17 = .ok (.goto 35, 3) := by decide +kernel
theorem dX12_sumSign_20 : decode cX12_sumSign 20 = .ok (.iload_n 0, 1) := by decide +kernel
theorem dX12_sumSign_21 : decode cX12_sumSign 21 = .ok (.bipush 42, 2) := by decide +kernel
theorem dX12_sumSign_23 : decode cX12_sumSign 23 = .ok (.if_icmp .ne 7, 3) := by decide +kernel
theorem dX12_sumSign_26 : decode cX12_sumSign 26 = .ok (.iconst 4, 1) := by decide +kernel
theorem dX12_sumSign_27 : decode cX12_sumSign 27 = .ok (.goto 25, 3) := by decide +kernel
theorem dX12_sumSign_30 : decode cX12_sumSign 30 = .ok (.iload_n 0, 1) := by decide +kernel
theorem dX12_sumSign_31 : decode cX12_sumSign 31 = .ok (.bipush 47, 2) := by decide +kernel
theorem dX12_sumSign_33 : decode cX12_sumSign 33 = .ok (.if_icmp .ne 7, 3) := by decide +kernel
theorem dX12_sumSign_36 : decode cX12_sumSign 36 = .ok (.iconst 5, 1) := by decide +kernel
theorem dX12_sumSign_37 : decode cX12_sumSign 37 = .ok (.goto 15, 3) := by decide +kernel
theorem dX12_sumSign_40 : decode cX12_sumSign 40 = .ok (.iload_n 0, 1) := by decide +kernel
theorem dX12_sumSign_41 : decode cX12_sumSign 41 = .ok (.bipush 37, 2) := by decide +kernel
theorem dX12_sumSign_43 : decode cX12_sumSign 43 = .ok (.if_icmp .ne 8, 3) := by decide +kernel
theorem dX12_sumSign_46 : decode cX12_sumSign 46 = .ok (.bipush 6, 2) := by decide +kernel
theorem dX12_sumSign_48 : decode cX12_sumSign 48 = .ok (.goto 4, 3) := by decide +kernel
theorem dX12_sumSign_51 : decode cX12_sumSign 51 = .ok (.iconst (-1), 1) := by decide +kernel
theorem dX12_sumSign_52 : decode cX12_sumSign 52 = .ok (.ireturn, 1) := by decide +kernel
theorem dX12_takes_0 : decode cX12_takes 0 = .ok (.aload_n 0, 1) := by decide +kernel
theorem dX12_takes_1 : decode cX12_takes 1 = .ok (.invokevirtual 193, 3) := by decide +kernel
theorem dX12_takes_4 : decode cX12_takes 4 = .ok (.iload_n 1, 1) := by decide +kernel
theorem dX12_takes_5 : decode cX12_takes 5 = .ok (.if_icmp .eq 13, 3) := by decide +kernel
theorem dX12_takes_8 : decode cX12_takes 8 = .ok (.aload_n 0, 1) := by decide +kernel
theorem dX12_takes_9 : decode cX12_takes 9 = .ok (.iconst 1, 1) := by decide +kernel
theorem dX12_takes_10 : decode cX12_takes 10 = .ok (.aload_n 0, 1) := by decide +kernel
theorem dX12_takes_11 : decode cX12_takes 11 = .ok (.getfield 187, 3) := by decide +kernel
theorem dX12_takes_14 : decode cX12_takes 14 = .ok (.invokevirtual 200, 3) := by decide +kernel
theorem dX12_takes_17 : decode cX12_takes 17 = .ok (.ireturn, 1) := by decide +kernel
theorem dX12_takes_18 : decode cX12_takes 18 = .ok (.aload_n 0, 1) := by decide +kernel
theorem dX12_takes_19 : decode cX12_takes 19 = .ok (.aload_n 0, 1) := by decide +kernel
theorem dX12_takes_20 : decode cX12_takes 20 = .ok (.getfield 187, 3) := by decide +kernel
theorem dX12_takes_23 : decode cX12_takes 23 = .ok (.iconst 1, 1) := by decide +kernel
theorem dX12_takes_24 : decode cX12_takes 24 = .ok (.iadd, 1) := by decide +kernel
theorem dX12_takes_25 : decode cX12_takes 25 = .ok (.putfield 187, 3) := by decide +kernel
theorem dX12_takes_28 : decode cX12_takes 28 = .ok (.iconst 1, 1) := by decide +kernel
theorem dX12_takes_29 : decode cX12_takes 29 = .ok (.ireturn, 1) := by decide +kernel
theorem dX12_takesLetter_0 : decode cX12_takesLetter 0 = .ok (.iconst 0, 1) := by decide +kernel
theorem dX12_takesLetter_1 : decode cX12_takesLetter 1 = .ok (.istore_n 2, 1) := by decide +kernel
theorem dX12_takesLetter_2 : decode cX12_takesLetter 2 = .ok (.iconst 0, 1) := by decide +kernel
theorem dX12_takesLetter_3 : decode cX12_takesLetter 3 = .ok (.istore_n 3, 1) := by decide +kernel
theorem dX12_takesLetter_4 : decode cX12_takesLetter 4 = .ok (.iload_n 3, 1) := by decide +kernel
theorem dX12_takesLetter_5 : decode cX12_takesLetter 5 = .ok (.iconst 4, 1) := by decide +kernel
theorem dX12_takesLetter_6 : decode cX12_takesLetter 6 = .ok (.if_icmp .ge 77, 3) := by decide +kernel
theorem dX12_takesLetter_9 : decode cX12_takesLetter 9 = .ok (.iload_n 3, 1) := by decide +kernel
theorem dX12_takesLetter_10 : decode cX12_takesLetter 10 = .ok (.aload_n 0, 1) := by decide +kernel
theorem dX12_takesLetter_11 : decode cX12_takesLetter 11 = .ok (.getfield 369, 3) := by decide +kernel
theorem dX12_takesLetter_14 : decode cX12_takesLetter 14 = .ok (.if_icmp .ge 22, 3) := by decide +kernel
theorem dX12_takesLetter_17 : decode cX12_takesLetter 17 = .ok (.aload_n 0, 1) := by decide +kernel
theorem dX12_takesLetter_18 : decode cX12_takesLetter 18 = .ok (.iload_n 3, 1) := by decide +kernel
theorem dX12_takesLetter_19 : decode cX12_takesLetter 19 = .ok (.aload_n 0, 1) := by decide +kernel
theorem dX12_takesLetter_20 : decode cX12_takesLetter 20 = .ok (.getfield 115, 3) := by decide +kernel
theorem dX12_takesLetter_23 : decode cX12_takesLetter 23 = .ok (.iload_n 3, 1) := by decide +kernel
theorem dX12_takesLetter_24 : decode cX12_takesLetter 24 = .ok (.iaload, 1) := by decide +kernel
theorem dX12_takesLetter_25 : decode cX12_takesLetter 25 = .ok (.invokevirtual 375, 3) := by decide +kernel
theorem dX12_takesLetter_28 : decode cX12_takesLetter 28 = .ok (.iload_n 1, 1) := by decide +kernel
theorem dX12_takesLetter_29 : decode cX12_takesLetter 29 = .ok (.if_icmp .ne 7, 3) := by decide +kernel
theorem dX12_takesLetter_32 : decode cX12_takesLetter 32 = .ok (.iconst 1, 1) := by decide +kernel
theorem dX12_takesLetter_33 : decode cX12_takesLetter 33 = .ok (.goto 4, 3) := by decide +kernel
theorem dX12_takesLetter_36 : decode cX12_takesLetter 36 = .ok (.iconst 0, 1) := by decide +kernel
theorem dX12_takesLetter_37 : decode cX12_takesLetter 37 = .ok (.istore 4, 2) := by decide +kernel
theorem dX12_takesLetter_39 : decode cX12_takesLetter 39 = .ok (.aload_n 0, 1) := by decide +kernel
theorem dX12_takesLetter_40 : decode cX12_takesLetter 40 = .ok (.getfield 118, 3) := by decide +kernel
theorem dX12_takesLetter_43 : decode cX12_takesLetter 43 = .ok (.iload_n 3, 1) := by decide +kernel
theorem dX12_takesLetter_44 : decode cX12_takesLetter 44 = .ok (.aload_n 0, 1) := by decide +kernel
theorem dX12_takesLetter_45 : decode cX12_takesLetter 45 = .ok (.getfield 115, 3) := by decide +kernel
theorem dX12_takesLetter_48 : decode cX12_takesLetter 48 = .ok (.iload_n 3, 1) := by decide +kernel
theorem dX12_takesLetter_49 : decode cX12_takesLetter 49 = .ok (.iaload, 1) := by decide +kernel
theorem dX12_takesLetter_50 : decode cX12_takesLetter 50 = .ok (.iload 4, 2) := by decide +kernel
theorem dX12_takesLetter_52 : decode cX12_takesLetter 52 = .ok (.ifCond .eq 7, 3) := by decide +kernel
theorem dX12_takesLetter_55 : decode cX12_takesLetter 55 = .ok (.iconst 1, 1) := by decide +kernel
theorem dX12_takesLetter_56 : decode cX12_takesLetter 56 = .ok (.goto 4, 3) := by decide +kernel
theorem dX12_takesLetter_59 : decode cX12_takesLetter 59 = .ok (.iconst 0, 1) := by decide +kernel
theorem dX12_takesLetter_60 : decode cX12_takesLetter 60 = .ok (.iadd, 1) := by decide +kernel
theorem dX12_takesLetter_61 : decode cX12_takesLetter 61 = .ok (.iastore, 1) := by decide +kernel
theorem dX12_takesLetter_62 : decode cX12_takesLetter 62 = .ok (.iload_n 2, 1) := by decide +kernel
theorem dX12_takesLetter_63 : decode cX12_takesLetter 63 = .ok (.ifCond .ne 8, 3) := by decide +kernel
theorem dX12_takesLetter_66 : decode cX12_takesLetter 66 = .ok (.iload 4, 2) := by decide +kernel
theorem dX12_takesLetter_68 : decode cX12_takesLetter 68 = .ok (.ifCond .eq 7, 3) := by decide +kernel
theorem dX12_takesLetter_71 : decode cX12_takesLetter 71 = .ok (.iconst 1, 1) := by decide +kernel
theorem dX12_takesLetter_72 : decode cX12_takesLetter 72 = .ok (.goto 4, 3) := by decide +kernel
theorem dX12_takesLetter_75 : decode cX12_takesLetter 75 = .ok (.iconst 0, 1) := by decide +kernel
theorem dX12_takesLetter_76 : decode cX12_takesLetter 76 = .ok (.istore_n 2, 1) := by decide +kernel
theorem dX12_takesLetter_77 : decode cX12_takesLetter 77 = .ok (.iinc 3 1, 3) := by decide +kernel
theorem dX12_takesLetter_80 : decode cX12_takesLetter 80 = .ok (.goto (-76), 3) := by decide +kernel
theorem dX12_takesLetter_83 : decode cX12_takesLetter 83 = .ok (.iload_n 2, 1) := by decide +kernel
theorem dX12_takesLetter_84 : decode cX12_takesLetter 84 = .ok (.ireturn, 1) := by decide +kernel
theorem dX12_tapeNumber_0 : decode cX12_tapeNumber 0 = .ok (.iconst 0, 1) := by decide +kernel
theorem dX12_tapeNumber_1 : decode cX12_tapeNumber 1 = .ok (.istore_n 2, 1) := by decide +kernel
theorem dX12_tapeNumber_2 : decode cX12_tapeNumber 2 = .ok (.iconst 4, 1) := by decide +kernel
theorem dX12_tapeNumber_3 : decode cX12_tapeNumber 3 = .ok (.iload_n 1, 1) := by decide +kernel
theorem dX12_tapeNumber_4 : decode cX12_tapeNumber 4 = .ok (.imul, 1) := by decide +kernel
theorem dX12_tapeNumber_5 : decode cX12_tapeNumber 5 = .ok (.istore_n 3, 1) := by decide +kernel
theorem dX12_tapeNumber_6 : decode cX12_tapeNumber 6 = .ok (.iload_n 3, 1) := by decide +kernel
theorem dX12_tapeNumber_7 : decode cX12_tapeNumber 7 = .ok (.iconst 4, 1) := by decide +kernel
theorem dX12_tapeNumber_8 : decode cX12_tapeNumber 8 = .ok (.iload_n 1, 1) := by decide +kernel
theorem dX12_tapeNumber_9 : decode cX12_tapeNumber 9 = .ok (.imul, 1) := by decide +kernel
theorem dX12_tapeNumber_10 : decode cX12_tapeNumber 10 = .ok (.iconst 4, 1) := by decide +kernel
theorem dX12_tapeNumber_11 : decode cX12_tapeNumber 11 = .ok (.iadd, 1) := by decide +kernel
theorem dX12_tapeNumber_12 : decode cX12_tapeNumber 12 = .ok (.if_icmp .ge 25, 3) := by decide +kernel
theorem dX12_tapeNumber_15 : decode cX12_tapeNumber 15 = .ok (.iload_n 2, 1) := by decide +kernel
theorem dX12_tapeNumber_16 : decode cX12_tapeNumber 16 = .ok (.bipush 8, 2) := by decide +kernel
theorem dX12_tapeNumber_18 : decode cX12_tapeNumber 18 = .ok (.ishl, 1) := by decide +kernel
theorem dX12_tapeNumber_19 : decode cX12_tapeNumber 19 = .ok (.aload_n 0, 1) := by decide +kernel
theorem dX12_tapeNumber_20 : decode cX12_tapeNumber 20 = .ok (.getfield 26, 3) := by decide +kernel
theorem dX12_tapeNumber_23 : decode cX12_tapeNumber 23 = .ok (.iload_n 3, 1) := by decide +kernel
theorem dX12_tapeNumber_24 : decode cX12_tapeNumber 24 = .ok (.baload, 1) := by decide +kernel
theorem dX12_tapeNumber_25 : decode cX12_tapeNumber 25 = .ok (.sipush 255, 3) := by decide +kernel
theorem dX12_tapeNumber_28 : decode cX12_tapeNumber 28 = .ok (.iand, 1) := by decide +kernel
theorem dX12_tapeNumber_29 : decode cX12_tapeNumber 29 = .ok (.ior, 1) := by decide +kernel
theorem dX12_tapeNumber_30 : decode cX12_tapeNumber 30 = .ok (.istore_n 2, 1) := by decide +kernel
theorem dX12_tapeNumber_31 : decode cX12_tapeNumber 31 = .ok (.iinc 3 1, 3) := by decide +kernel
theorem dX12_tapeNumber_34 : decode cX12_tapeNumber 34 = .ok (.goto (-28), 3) := by decide +kernel
theorem dX12_tapeNumber_37 : decode cX12_tapeNumber 37 = .ok (.iload_n 2, 1) := by decide +kernel
theorem dX12_tapeNumber_38 : decode cX12_tapeNumber 38 = .ok (.ireturn, 1) := by decide +kernel
theorem dX12_top_0 : decode cX12_top 0 = .ok (.aload_n 0, 1) := by decide +kernel
theorem dX12_top_1 : decode cX12_top 1 = .ok (.getfield 218, 3) := by decide +kernel
theorem dX12_top_4 : decode cX12_top 4 = .ok (.ifCond .ne 7, 3) := by decide +kernel
theorem dX12_top_7 : decode cX12_top 7 = .ok (.iconst (-1), 1) := by decide +kernel
theorem dX12_top_8 : decode cX12_top 8 = .ok (.goto 17, 3) := by decide +kernel
theorem dX12_top_11 : decode cX12_top 11 = .ok (.aload_n 0, 1) := by decide +kernel
theorem dX12_top_12 : decode cX12_top 12 = .ok (.getfield 33, 3) := by decide +kernel
theorem dX12_top_15 : decode cX12_top 15 = .ok (.aload_n 0, 1) := by decide +kernel
theorem dX12_top_16 : decode cX12_top 16 = .ok (.getfield 218, 3) := by decide +kernel
theorem dX12_top_19 : decode cX12_top 19 = .ok (.iconst 1, 1) := by decide +kernel
theorem dX12_top_20 : decode cX12_top 20 = .ok (.isub, 1) := by decide +kernel
theorem dX12_top_21 : decode cX12_top 21 = .ok (.iaload, 1) := by decide +kernel
theorem dX12_top_22 : decode cX12_top 22 = .ok (.ldc 214, 2) := by decide +kernel
theorem dX12_top_24 : decode cX12_top 24 = .ok (.idiv, 1) := by decide +kernel
theorem dX12_top_25 : decode cX12_top 25 = .ok (.ireturn, 1) := by decide +kernel
theorem dX12_types_0 : decode cX12_types 0 = .ok (.iconst 3, 1) := by decide +kernel
theorem dX12_types_1 : decode cX12_types 1 = .ok (.istore_n 2, 1) := by decide +kernel
theorem dX12_types_2 : decode cX12_types 2 = .ok (.iload_n 2, 1) := by decide +kernel
theorem dX12_types_3 : decode cX12_types 3 = .ok (.ifCond .lt 35, 3) := by decide +kernel
theorem dX12_types_6 : decode cX12_types 6 = .ok (.aload_n 0, 1) := by decide +kernel
theorem dX12_types_7 : decode cX12_types 7 = .ok (.getfield 26, 3) := by decide +kernel
theorem dX12_types_10 : decode cX12_types 10 = .ok (.aload_n 0, 1) := by decide +kernel
theorem dX12_types_11 : decode cX12_types 11 = .ok (.getfield 165, 3) := by decide +kernel
theorem dX12_types_14 : decode cX12_types 14 = .ok (.iload_n 1, 1) := by decide +kernel
theorem dX12_types_15 : decode cX12_types 15 = .ok (.bipush 8, 2) := by decide +kernel
theorem dX12_types_17 : decode cX12_types 17 = .ok (.iload_n 2, 1) := by decide +kernel
theorem dX12_types_18 : decode cX12_types 18 = .ok (.imul, 1) := by decide +kernel
theorem dX12_types_19 : decode cX12_types 19 = .ok (.ishr, 1) := by decide +kernel
theorem dX12_types_20 : decode cX12_types 20 = .ok (.i2b, 1) := by decide +kernel
theorem dX12_types_21 : decode cX12_types 21 = .ok (.bastore, 1) := by decide +kernel
theorem dX12_types_22 : decode cX12_types 22 = .ok (.aload_n 0, 1) := by decide +kernel
theorem dX12_types_23 : decode cX12_types 23 = .ok (.aload_n 0, 1) := by decide +kernel
theorem dX12_types_24 : decode cX12_types 24 = .ok (.getfield 165, 3) := by decide +kernel
theorem dX12_types_27 : decode cX12_types 27 = .ok (.iconst 1, 1) := by decide +kernel
theorem dX12_types_28 : decode cX12_types 28 = .ok (.iadd, 1) := by decide +kernel
theorem dX12_types_29 : decode cX12_types 29 = .ok (.putfield 165, 3) := by decide +kernel
theorem dX12_types_32 : decode cX12_types 32 = .ok (.iinc 2 (-1), 3) := by decide +kernel
theorem dX12_types_35 : decode cX12_types 35 = .ok (.goto (-33), 3) := by decide +kernel
theorem dX12_types_38 : decode cX12_types 38 = .ok (.return_, 1) := by decide +kernel
theorem dX12_valueBy_0 : decode cX12_valueBy 0 = .ok (.iload_n 2, 1) := by decide +kernel
theorem dX12_valueBy_1 : decode cX12_valueBy 1 = .ok (.bipush 8, 2) := by decide +kernel
theorem dX12_valueBy_3 : decode cX12_valueBy 3 = .ok (.if_icmp .ne 18, 3) := by decide +kernel
theorem dX12_valueBy_6 : decode cX12_valueBy 6 = .ok (.aload_n 0, 1) := by decide +kernel
theorem dX12_valueBy_7 : decode cX12_valueBy 7 = .ok (.getfield 139, 3) := by decide +kernel
theorem dX12_valueBy_10 : decode cX12_valueBy 10 = .ok (.sipush 256, 3) := by decide +kernel
theorem dX12_valueBy_13 : decode cX12_valueBy 13 = .ok (.iload_n 1, 1) := by decide +kernel
theorem dX12_valueBy_14 : decode cX12_valueBy 14 = .ok (.iconst 1, 1) := by decide +kernel
theorem dX12_valueBy_15 : decode cX12_valueBy 15 = .ok (.iadd, 1) := by decide +kernel
theorem dX12_valueBy_16 : decode cX12_valueBy 16 = .ok (.imul, 1) := by decide +kernel
theorem dX12_valueBy_17 : decode cX12_valueBy 17 = .ok (.iload_n 3, 1) := by decide +kernel
theorem dX12_valueBy_18 : decode cX12_valueBy 18 = .ok (.iadd, 1) := by decide +kernel
theorem dX12_valueBy_19 : decode cX12_valueBy 19 = .ok (.iaload, 1) := by decide +kernel
theorem dX12_valueBy_20 : decode cX12_valueBy 20 = .ok (.ireturn, 1) := by decide +kernel
theorem dX12_valueBy_21 : decode cX12_valueBy 21 = .ok (.iload_n 2, 1) := by decide +kernel
theorem dX12_valueBy_22 : decode cX12_valueBy 22 = .ok (.aload_n 0, 1) := by decide +kernel
theorem dX12_valueBy_23 : decode cX12_valueBy 23 = .ok (.getfield 152, 3) := by decide +kernel
theorem dX12_valueBy_26 : decode cX12_valueBy 26 = .ok (.if_icmp .ge 26, 3) := by decide +kernel
theorem dX12_valueBy_29 : decode cX12_valueBy 29 = .ok (.iload_n 3, 1) := by decide +kernel
theorem dX12_valueBy_30 : decode cX12_valueBy 30 = .ok (.iload_n 2, 1) := by decide +kernel
theorem dX12_valueBy_31 : decode cX12_valueBy 31 = .ok (.ishr, 1) := by decide +kernel
theorem dX12_valueBy_32 : decode cX12_valueBy 32 = .ok (.iconst 1, 1) := by decide +kernel
theorem dX12_valueBy_33 : decode cX12_valueBy 33 = .ok (.iand, 1) := by decide +kernel
theorem dX12_valueBy_34 : decode cX12_valueBy 34 = .ok (.iconst 1, 1) := by decide +kernel
theorem dX12_valueBy_35 : decode cX12_valueBy 35 = .ok (.if_icmp .eq 17, 3) := by decide +kernel
theorem dX12_valueBy_38 : decode cX12_valueBy 38 = .ok (.aload_n 0, 1) := by decide +kernel
theorem dX12_valueBy_39 : decode cX12_valueBy 39 = .ok (.getfield 136, 3) := by decide +kernel
theorem dX12_valueBy_42 : decode cX12_valueBy 42 = .ok (.bipush 8, 2) := by decide +kernel
theorem dX12_valueBy_44 : decode cX12_valueBy 44 = .ok (.iload_n 1, 1) := by decide +kernel
theorem dX12_valueBy_45 : decode cX12_valueBy 45 = .ok (.imul, 1) := by decide +kernel
theorem dX12_valueBy_46 : decode cX12_valueBy 46 = .ok (.iload_n 2, 1) := by decide +kernel
theorem dX12_valueBy_47 : decode cX12_valueBy 47 = .ok (.iadd, 1) := by decide +kernel
theorem dX12_valueBy_48 : decode cX12_valueBy 48 = .ok (.baload, 1) := by decide +kernel
theorem dX12_valueBy_49 : decode cX12_valueBy 49 = .ok (.ifCond .ne 7, 3) := by decide +kernel
theorem dX12_valueBy_52 : decode cX12_valueBy 52 = .ok (.ldc_w 426, 3) := by decide +kernel
theorem dX12_valueBy_55 : decode cX12_valueBy 55 = .ok (.ireturn, 1) := by decide +kernel
theorem dX12_valueBy_56 : decode cX12_valueBy 56 = .ok (.sipush 1000, 3) := by decide +kernel
theorem dX12_valueBy_59 : decode cX12_valueBy 59 = .ok (.aload_n 0, 1) := by decide +kernel
theorem dX12_valueBy_60 : decode cX12_valueBy 60 = .ok (.iload_n 2, 1) := by decide +kernel
theorem dX12_valueBy_61 : decode cX12_valueBy 61 = .ok (.invokevirtual 175, 3) := by decide +kernel
theorem dX12_valueBy_64 : decode cX12_valueBy 64 = .ok (.aload_n 0, 1) := by decide +kernel
theorem dX12_valueBy_65 : decode cX12_valueBy 65 = .ok (.getfield 16, 3) := by decide +kernel
theorem dX12_valueBy_68 : decode cX12_valueBy 68 = .ok (.iload_n 1, 1) := by decide +kernel
theorem dX12_valueBy_69 : decode cX12_valueBy 69 = .ok (.iaload, 1) := by decide +kernel
theorem dX12_valueBy_70 : decode cX12_valueBy 70 = .ok (.isub, 1) := by decide +kernel
theorem dX12_valueBy_71 : decode cX12_valueBy 71 = .ok (.isub, 1) := by decide +kernel
theorem dX12_valueBy_72 : decode cX12_valueBy 72 = .ok (.aload_n 0, 1) := by decide +kernel
theorem dX12_valueBy_73 : decode cX12_valueBy 73 = .ok (.getfield 139, 3) := by decide +kernel
theorem dX12_valueBy_76 : decode cX12_valueBy 76 = .ok (.sipush 256, 3) := by decide +kernel
theorem dX12_valueBy_79 : decode cX12_valueBy 79 = .ok (.iload_n 1, 1) := by decide +kernel
theorem dX12_valueBy_80 : decode cX12_valueBy 80 = .ok (.iconst 1, 1) := by decide +kernel
theorem dX12_valueBy_81 : decode cX12_valueBy 81 = .ok (.iadd, 1) := by decide +kernel
theorem dX12_valueBy_82 : decode cX12_valueBy 82 = .ok (.imul, 1) := by decide +kernel
theorem dX12_valueBy_83 : decode cX12_valueBy 83 = .ok (.iload_n 3, 1) := by decide +kernel
theorem dX12_valueBy_84 : decode cX12_valueBy 84 = .ok (.iconst 1, 1) := by decide +kernel
theorem dX12_valueBy_85 : decode cX12_valueBy 85 = .ok (.iload_n 2, 1) := by decide +kernel
theorem dX12_valueBy_86 : decode cX12_valueBy 86 = .ok (.ishl, 1) := by decide +kernel
theorem dX12_valueBy_87 : decode cX12_valueBy 87 = .ok (.ior, 1) := by decide +kernel
theorem dX12_valueBy_88 : decode cX12_valueBy 88 = .ok (.iadd, 1) := by decide +kernel
theorem dX12_valueBy_89 : decode cX12_valueBy 89 = .ok (.iaload, 1) := by decide +kernel
theorem dX12_valueBy_90 : decode cX12_valueBy 90 = .ok (.iadd, 1) := by decide +kernel
theorem dX12_valueBy_91 : decode cX12_valueBy 91 = .ok (.ireturn, 1) := by decide +kernel
theorem dX12_ways_0 : decode cX12_ways 0 = .ok (.aload_n 0, 1) := by decide +kernel
theorem dX12_ways_1 : decode cX12_ways 1 = .ok (.iload_n 1, 1) := by decide +kernel
theorem dX12_ways_2 : decode cX12_ways 2 = .ok (.iload_n 2, 1) := by decide +kernel
theorem dX12_ways_3 : decode cX12_ways 3 = .ok (.invokevirtual 329, 3) := by decide +kernel
theorem dX12_ways_6 : decode cX12_ways 6 = .ok (.ifCond .ne 7, 3) := by decide +kernel
theorem dX12_ways_9 : decode cX12_ways 9 = .ok (.ldc2_w 332, 3) := by decide +kernel
theorem dX12_ways_12 : decode cX12_ways 12 = .ok (.lreturn, 1) := by decide +kernel
theorem dX12_ways_13 : decode cX12_ways 13 = .ok (.aload_n 0, 1) := by decide +kernel
theorem dX12_ways_14 : decode cX12_ways 14 = .ok (.iload_n 1, 1) := by decide +kernel
theorem dX12_ways_15 : decode cX12_ways 15 = .ok (.iconst 0, 1) := by decide +kernel
theorem dX12_ways_16 : decode cX12_ways 16 = .ok (.invokevirtual 334, 3) := by decide +kernel
theorem dX12_ways_19 : decode cX12_ways 19 = .ok (.aload_n 0, 1) := by decide +kernel
theorem dX12_ways_20 : decode cX12_ways 20 = .ok (.iload_n 2, 1) := by decide +kernel
theorem dX12_ways_21 : decode cX12_ways 21 = .ok (.invokevirtual 338, 3) := by decide +kernel
theorem dX12_ways_24 : decode cX12_ways 24 = .ok (.iconst 0, 1) := by decide +kernel
theorem dX12_ways_25 : decode cX12_ways 25 = .ok (.istore_n 3, 1) := by decide +kernel
theorem dX12_ways_26 : decode cX12_ways 26 = .ok (.iload_n 3, 1) := by decide +kernel
theorem dX12_ways_27 : decode cX12_ways 27 = .ok (.aload_n 0, 1) := by decide +kernel
theorem dX12_ways_28 : decode cX12_ways 28 = .ok (.getfield 323, 3) := by decide +kernel
theorem dX12_ways_31 : decode cX12_ways 31 = .ok (.if_icmp .gt 24, 3) := by decide +kernel
theorem dX12_ways_34 : decode cX12_ways 34 = .ok (.aload_n 0, 1) := by decide +kernel
theorem dX12_ways_35 : decode cX12_ways 35 = .ok (.getfield 93, 3) := by decide +kernel
theorem dX12_ways_38 : decode cX12_ways 38 = .ok (.iload_n 3, 1) := by decide +kernel
theorem dX12_ways_39 : decode cX12_ways 39 = .ok (.iload_n 3, 1) := by decide +kernel
theorem dX12_ways_40 : decode cX12_ways 40 = .ok (.ifCond .ne 7, 3) := by decide +kernel
theorem dX12_ways_43 : decode cX12_ways 43 = .ok (.lconst 1, 1) := by decide +kernel
theorem dX12_ways_44 : decode cX12_ways 44 = .ok (.goto 4, 3) := by decide +kernel
theorem dX12_ways_47 : decode cX12_ways 47 = .ok (.lconst 0, 1) := by decide +kernel
theorem dX12_ways_48 : decode cX12_ways 48 = .ok (.lastore, 1) := by decide +kernel
theorem dX12_ways_49 : decode cX12_ways 49 = .ok (.iinc 3 1, 3) := by decide +kernel
theorem dX12_ways_52 : decode cX12_ways 52 = .ok (.goto (-26), 3) := by decide +kernel
theorem dX12_ways_55 : decode cX12_ways 55 = .ok (.iconst 0, 1) := by decide +kernel
theorem dX12_ways_56 : decode cX12_ways 56 = .ok (.istore_n 3, 1) := by decide +kernel
theorem dX12_ways_57 : decode cX12_ways 57 = .ok (.iload_n 3, 1) := by decide +kernel
theorem dX12_ways_58 : decode cX12_ways 58 = .ok (.aload_n 0, 1) := by decide +kernel
theorem dX12_ways_59 : decode cX12_ways 59 = .ok (.getfield 320, 3) := by decide +kernel
theorem dX12_ways_62 : decode cX12_ways 62 = .ok (.if_icmp .ge 68, 3) := by decide +kernel
theorem dX12_ways_65 : decode cX12_ways 65 = .ok (.aload_n 0, 1) := by decide +kernel
theorem dX12_ways_66 : decode cX12_ways 66 = .ok (.getfield 323, 3) := by decide +kernel
theorem dX12_ways_69 : decode cX12_ways 69 = .ok (.istore 4, 2) := by decide +kernel
theorem dX12_ways_71 : decode cX12_ways 71 = .ok (.iload 4, 2) := by decide +kernel
theorem dX12_ways_73 : decode cX12_ways 73 = .ok (.ifCond .le 51, 3) := by decide +kernel
theorem dX12_ways_76 : decode cX12_ways 76 = .ok (.aload_n 0, 1) := by decide +kernel
theorem dX12_ways_77 : decode cX12_ways 77 = .ok (.getfield 87, 3) := by decide +kernel
theorem dX12_ways_80 : decode cX12_ways 80 = .ok (.iload_n 3, 1) := by decide +kernel
theorem dX12_ways_81 : decode cX12_ways 81 = .ok (.iaload, 1) := by decide +kernel
theorem dX12_ways_82 : decode cX12_ways 82 = .ok (.aload_n 0, 1) := by decide +kernel
theorem dX12_ways_83 : decode cX12_ways 83 = .ok (.getfield 90, 3) := by decide +kernel
theorem dX12_ways_86 : decode cX12_ways 86 = .ok (.iload 4, 2) := by decide +kernel
theorem dX12_ways_88 : decode cX12_ways 88 = .ok (.iconst 1, 1) := by decide +kernel
theorem dX12_ways_89 : decode cX12_ways 89 = .ok (.isub, 1) := by decide +kernel
theorem dX12_ways_90 : decode cX12_ways 90 = .ok (.iaload, 1) := by decide +kernel
theorem dX12_ways_91 : decode cX12_ways 91 = .ok (.if_icmp .ne 27, 3) := by decide +kernel
theorem dX12_ways_94 : decode cX12_ways 94 = .ok (.aload_n 0, 1) := by decide +kernel
theorem dX12_ways_95 : decode cX12_ways 95 = .ok (.getfield 93, 3) := by decide +kernel
theorem dX12_ways_98 : decode cX12_ways 98 = .ok (.iload 4, 2) := by decide +kernel
theorem dX12_ways_100 : decode cX12_ways 100 = .ok (.aload_n 0, 1) := by decide +kernel
theorem dX12_ways_101 : decode cX12_ways 101 = .ok (.getfield 93, 3) := by decide +kernel
theorem dX12_ways_104 : decode cX12_ways 104 = .ok (.iload 4, 2) := by decide +kernel
theorem dX12_ways_106 : decode cX12_ways 106 = .ok (.laload, 1) := by decide +kernel
theorem dX12_ways_107 : decode cX12_ways 107 = .ok (.aload_n 0, 1) := by decide +kernel
theorem dX12_ways_108 : decode cX12_ways 108 = .ok (.getfield 93, 3) := by decide +kernel
theorem dX12_ways_111 : decode cX12_ways 111 = .ok (.iload 4, 2) := by decide +kernel
theorem dX12_ways_113 : decode cX12_ways 113 = .ok (.iconst 1, 1) := by decide +kernel
theorem dX12_ways_114 : decode cX12_ways 114 = .ok (.isub, 1) := by decide +kernel
theorem dX12_ways_115 : decode cX12_ways 115 = .ok (.laload, 1) := by decide +kernel
theorem dX12_ways_116 : decode cX12_ways 116 = .ok (.ladd, 1) := by decide +kernel
theorem dX12_ways_117 : decode cX12_ways 117 = .ok (.lastore, 1) := by decide +kernel
theorem dX12_ways_118 : decode cX12_ways 118 = .ok (.iinc 4 (-1), 3) := by decide +kernel
theorem dX12_ways_121 : decode cX12_ways 121 = .ok (.goto (-50), 3) := by decide +kernel
theorem dX12_ways_124 : decode cX12_ways 124 = .ok (.iinc 3 1, 3) := by decide +kernel
theorem dX12_ways_127 : decode cX12_ways 127 = .ok (.goto (-70), 3) := by decide +kernel
theorem dX12_ways_130 : decode cX12_ways 130 = .ok (.aload_n 0, 1) := by decide +kernel
theorem dX12_ways_131 : decode cX12_ways 131 = .ok (.getfield 93, 3) := by decide +kernel
theorem dX12_ways_134 : decode cX12_ways 134 = .ok (.aload_n 0, 1) := by decide +kernel
theorem dX12_ways_135 : decode cX12_ways 135 = .ok (.getfield 323, 3) := by decide +kernel
theorem dX12_ways_138 : decode cX12_ways 138 = .ok (.laload, 1) := by decide +kernel
theorem dX12_ways_139 : decode cX12_ways 139 = .ok (.lreturn, 1) := by decide +kernel
theorem dX12_worth_0 : decode cX12_worth 0 = .ok (.aload_n 0, 1) := by decide +kernel
theorem dX12_worth_1 : decode cX12_worth 1 = .ok (.iload_n 1, 1) := by decide +kernel
theorem dX12_worth_2 : decode cX12_worth 2 = .ok (.invokevirtual 172, 3) := by decide +kernel
theorem dX12_worth_5 : decode cX12_worth 5 = .ok (.ifCond .eq 24, 3) := by decide +kernel
theorem dX12_worth_8 : decode cX12_worth 8 = .ok (.aload_n 0, 1) := by decide +kernel
theorem dX12_worth_9 : decode cX12_worth 9 = .ok (.iload_n 2, 1) := by decide +kernel
theorem dX12_worth_10 : decode cX12_worth 10 = .ok (.invokevirtual 420, 3) := by decide +kernel
theorem dX12_worth_13 : decode cX12_worth 13 = .ok (.ifCond .eq 16, 3) := by decide +kernel
theorem dX12_worth_16 : decode cX12_worth 16 = .ok (.iload_n 2, 1) := by decide +kernel
theorem dX12_worth_17 : decode cX12_worth 17 = .ok (.ifCond .eq 12, 3) := by decide +kernel
theorem dX12_worth_20 : decode cX12_worth 20 = .ok (.iload_n 3, 1) := by decide +kernel
theorem dX12_worth_21 : decode cX12_worth 21 = .ok (.iconst 0, 1) := by decide +kernel
theorem dX12_worth_22 : decode cX12_worth 22 = .ok (.iconst 1, 1) := by decide +kernel
theorem dX12_worth_23 : decode cX12_worth 23 = .ok (.invokestatic 161, 3) := by decide +kernel
theorem dX12_worth_26 : decode cX12_worth 26 = .ok (.ifCond .ne 7, 3) := by decide +kernel
theorem dX12_worth_29 : decode cX12_worth 29 = .ok (.sipush (-1000), 3) := by decide +kernel
theorem dX12_worth_32 : decode cX12_worth 32 = .ok (.ireturn, 1) := by decide +kernel
theorem dX12_worth_33 : decode cX12_worth 33 = .ok (.aload_n 0, 1) := by decide +kernel
theorem dX12_worth_34 : decode cX12_worth 34 = .ok (.iload_n 2, 1) := by decide +kernel
theorem dX12_worth_35 : decode cX12_worth 35 = .ok (.invokevirtual 436, 3) := by decide +kernel
theorem dX12_worth_38 : decode cX12_worth 38 = .ok (.aload_n 0, 1) := by decide +kernel
theorem dX12_worth_39 : decode cX12_worth 39 = .ok (.getfield 139, 3) := by decide +kernel
theorem dX12_worth_42 : decode cX12_worth 42 = .ok (.iconst 0, 1) := by decide +kernel
theorem dX12_worth_43 : decode cX12_worth 43 = .ok (.iaload, 1) := by decide +kernel
theorem dX12_worth_44 : decode cX12_worth 44 = .ok (.istore 4, 2) := by decide +kernel
theorem dX12_worth_46 : decode cX12_worth 46 = .ok (.aload_n 0, 1) := by decide +kernel
theorem dX12_worth_47 : decode cX12_worth 47 = .ok (.getfield 139, 3) := by decide +kernel
theorem dX12_worth_50 : decode cX12_worth 50 = .ok (.iconst 1, 1) := by decide +kernel
theorem dX12_worth_51 : decode cX12_worth 51 = .ok (.iload_n 1, 1) := by decide +kernel
theorem dX12_worth_52 : decode cX12_worth 52 = .ok (.ishl, 1) := by decide +kernel
theorem dX12_worth_53 : decode cX12_worth 53 = .ok (.iaload, 1) := by decide +kernel
theorem dX12_worth_54 : decode cX12_worth 54 = .ok (.istore 5, 2) := by decide +kernel
theorem dX12_worth_56 : decode cX12_worth 56 = .ok (.iload_n 3, 1) := by decide +kernel
theorem dX12_worth_57 : decode cX12_worth 57 = .ok (.ifCond .ne 19, 3) := by decide +kernel
theorem dX12_worth_60 : decode cX12_worth 60 = .ok (.aload_n 0, 1) := by decide +kernel
theorem dX12_worth_61 : decode cX12_worth 61 = .ok (.iload 4, 2) := by decide +kernel
theorem dX12_worth_63 : decode cX12_worth 63 = .ok (.invokevirtual 433, 3) := by decide +kernel
theorem dX12_worth_66 : decode cX12_worth 66 = .ok (.aload_n 0, 1) := by decide +kernel
theorem dX12_worth_67 : decode cX12_worth 67 = .ok (.iload 5, 2) := by decide +kernel
theorem dX12_worth_69 : decode cX12_worth 69 = .ok (.invokevirtual 433, 3) := by decide +kernel
theorem dX12_worth_72 : decode cX12_worth 72 = .ok (.isub, 1) := by decide +kernel
theorem dX12_worth_73 : decode cX12_worth 73 = .ok (.goto 16, 3) := by decide +kernel
theorem dX12_worth_76 : decode cX12_worth 76 = .ok (.aload_n 0, 1) := by decide +kernel
theorem dX12_worth_77 : decode cX12_worth 77 = .ok (.iload 5, 2) := by decide +kernel
theorem dX12_worth_79 : decode cX12_worth 79 = .ok (.invokevirtual 439, 3) := by decide +kernel
theorem dX12_worth_82 : decode cX12_worth 82 = .ok (.aload_n 0, 1) := by decide +kernel
theorem dX12_worth_83 : decode cX12_worth 83 = .ok (.iload 4, 2) := by decide +kernel
theorem dX12_worth_85 : decode cX12_worth 85 = .ok (.invokevirtual 439, 3) := by decide +kernel
theorem dX12_worth_88 : decode cX12_worth 88 = .ok (.isub, 1) := by decide +kernel
theorem dX12_worth_89 : decode cX12_worth 89 = .ok (.ireturn, 1) := by decide +kernel
theorem dX12_writes_0 : decode cX12_writes 0 = .ok (.aload_n 0, 1) := by decide +kernel
theorem dX12_writes_1 : decode cX12_writes 1 = .ok (.getfield 69, 3) := by decide +kernel
theorem dX12_writes_4 : decode cX12_writes 4 = .ok (.aload_n 0, 1) := by decide +kernel
theorem dX12_writes_5 : decode cX12_writes 5 = .ok (.getfield 306, 3) := by decide +kernel
theorem dX12_writes_8 : decode cX12_writes 8 = .ok (.iload_n 1, 1) := by decide +kernel
theorem dX12_writes_9 : decode cX12_writes 9 = .ok (.iastore, 1) := by decide +kernel
theorem dX12_writes_10 : decode cX12_writes 10 = .ok (.aload_n 0, 1) := by decide +kernel
theorem dX12_writes_11 : decode cX12_writes 11 = .ok (.getfield 72, 3) := by decide +kernel
theorem dX12_writes_14 : decode cX12_writes 14 = .ok (.aload_n 0, 1) := by decide +kernel
theorem dX12_writes_15 : decode cX12_writes 15 = .ok (.getfield 306, 3) := by decide +kernel
theorem dX12_writes_18 : decode cX12_writes 18 = .ok (.iload_n 2, 1) := by decide +kernel
theorem dX12_writes_19 : decode cX12_writes 19 = .ok (.iastore, 1) := by decide +kernel
theorem dX12_writes_20 : decode cX12_writes 20 = .ok (.aload_n 0, 1) := by decide +kernel
theorem dX12_writes_21 : decode cX12_writes 21 = .ok (.getfield 75, 3) := by decide +kernel
theorem dX12_writes_24 : decode cX12_writes 24 = .ok (.aload_n 0, 1) := by decide +kernel
theorem dX12_writes_25 : decode cX12_writes 25 = .ok (.getfield 306, 3) := by decide +kernel
theorem dX12_writes_28 : decode cX12_writes 28 = .ok (.aload_n 0, 1) := by decide +kernel
theorem dX12_writes_29 : decode cX12_writes 29 = .ok (.getfield 158, 3) := by decide +kernel
theorem dX12_writes_32 : decode cX12_writes 32 = .ok (.iastore, 1) := by decide +kernel
theorem dX12_writes_33 : decode cX12_writes 33 = .ok (.aload_n 0, 1) := by decide +kernel
theorem dX12_writes_34 : decode cX12_writes 34 = .ok (.getfield 78, 3) := by decide +kernel
theorem dX12_writes_37 : decode cX12_writes 37 = .ok (.aload_n 0, 1) := by decide +kernel
theorem dX12_writes_38 : decode cX12_writes 38 = .ok (.getfield 306, 3) := by decide +kernel
theorem dX12_writes_41 : decode cX12_writes 41 = .ok (.iload_n 3, 1) := by decide +kernel
theorem dX12_writes_42 : decode cX12_writes 42 = .ok (.iastore, 1) := by decide +kernel
theorem dX12_writes_43 : decode cX12_writes 43 = .ok (.aload_n 0, 1) := by decide +kernel
theorem dX12_writes_44 : decode cX12_writes 44 = .ok (.getfield 81, 3) := by decide +kernel
theorem dX12_writes_47 : decode cX12_writes 47 = .ok (.aload_n 0, 1) := by decide +kernel
theorem dX12_writes_48 : decode cX12_writes 48 = .ok (.getfield 306, 3) := by decide +kernel
theorem dX12_writes_51 : decode cX12_writes 51 = .ok (.iload 4, 2) := by decide +kernel
theorem dX12_writes_53 : decode cX12_writes 53 = .ok (.iastore, 1) := by decide +kernel
theorem dX12_writes_54 : decode cX12_writes 54 = .ok (.aload_n 0, 1) := by decide +kernel
theorem dX12_writes_55 : decode cX12_writes 55 = .ok (.aload_n 0, 1) := by decide +kernel
theorem dX12_writes_56 : decode cX12_writes 56 = .ok (.getfield 306, 3) := by decide +kernel
theorem dX12_writes_59 : decode cX12_writes 59 = .ok (.iconst 1, 1) := by decide +kernel
theorem dX12_writes_60 : decode cX12_writes 60 = .ok (.iadd, 1) := by decide +kernel
theorem dX12_writes_61 : decode cX12_writes 61 = .ok (.putfield 306, 3) := by decide +kernel
theorem dX12_writes_64 : decode cX12_writes 64 = .ok (.return_, 1) := by decide +kernel
theorem dX12_wrongAt_0 : decode cX12_wrongAt 0 = .ok (.aload_n 0, 1) := by decide +kernel
theorem dX12_wrongAt_1 : decode cX12_wrongAt 1 = .ok (.sipush (-1000), 3) := by decide +kernel
theorem dX12_wrongAt_4 : decode cX12_wrongAt 4 = .ok (.iload_n 1, 1) := by decide +kernel
theorem dX12_wrongAt_5 : decode cX12_wrongAt 5 = .ok (.imul, 1) := by decide +kernel
theorem dX12_wrongAt_6 : decode cX12_wrongAt 6 = .ok (.iload_n 2, 1) := by decide +kernel
theorem dX12_wrongAt_7 : decode cX12_wrongAt 7 = .ok (.isub, 1) := by decide +kernel
theorem dX12_wrongAt_8 : decode cX12_wrongAt 8 = .ok (.putfield 197, 3) := by decide +kernel
theorem dX12_wrongAt_11 : decode cX12_wrongAt 11 = .ok (.iconst 0, 1) := by decide +kernel
theorem dX12_wrongAt_12 : decode cX12_wrongAt 12 = .ok (.ireturn, 1) := by decide +kernel
theorem dX1_addLetter_0 : decode cX1_addLetter 0 = .ok (.aload_n 0, 1) := by decide +kernel
theorem dX1_addLetter_1 : decode cX1_addLetter 1 = .ok (.getfield 30, 3) := by decide +kernel
theorem dX1_addLetter_4 : decode cX1_addLetter 4 = .ok (.iconst 1, 1) := by decide +kernel
theorem dX1_addLetter_5 : decode cX1_addLetter 5 = .ok (.isub, 1) := by decide +kernel
theorem dX1_addLetter_6 : decode cX1_addLetter 6 = .ok (.istore_n 3, 1) := by decide +kernel
theorem dX1_addLetter_7 : decode cX1_addLetter 7 = .ok (.iload_n 3, 1) := by decide +kernel
theorem dX1_addLetter_8 : decode cX1_addLetter 8 = .ok (.ifCond .lt 51, 3) := by decide +kernel
theorem dX1_addLetter_11 : decode cX1_addLetter 11 = .ok (.aload_n 0, 1) := by decide +kernel
theorem dX1_addLetter_12 : decode cX1_addLetter 12 = .ok (.getfield 24, 3) := by decide +kernel
theorem dX1_addLetter_15 : decode cX1_addLetter 15 = .ok (.iload_n 3, 1) := by decide +kernel
theorem dX1_addLetter_16 : decode cX1_addLetter 16 = .ok (.iaload, 1) := by decide +kernel
theorem dX1_addLetter_17 : decode cX1_addLetter 17 = .ok (.bipush 9, 2) := by decide +kernel
theorem dX1_addLetter_19 : decode cX1_addLetter 19 = .ok (.if_icmp .ge 40, 3) := by decide +kernel
theorem dX1_addLetter_22 : decode cX1_addLetter 22 = .ok (.aload_n 0, 1) := by decide +kernel
theorem dX1_addLetter_23 : decode cX1_addLetter 23 = .ok (.getfield 27, 3) := by decide +kernel
theorem dX1_addLetter_26 : decode cX1_addLetter 26 = .ok (.iload_n 3, 1) := by decide +kernel
theorem dX1_addLetter_27 : decode cX1_addLetter 27 = .ok (.bipush 9, 2) := by decide +kernel
theorem dX1_addLetter_29 : decode cX1_addLetter 29 = .ok (.imul, 1) := by decide +kernel
theorem dX1_addLetter_30 : decode cX1_addLetter 30 = .ok (.aload_n 0, 1) := by decide +kernel
theorem dX1_addLetter_31 : decode cX1_addLetter 31 = .ok (.getfield 24, 3) := by decide +kernel
theorem dX1_addLetter_34 : decode cX1_addLetter 34 = .ok (.iload_n 3, 1) := by decide +kernel
theorem dX1_addLetter_35 : decode cX1_addLetter 35 = .ok (.iaload, 1) := by decide +kernel
theorem dX1_addLetter_36 : decode cX1_addLetter 36 = .ok (.iadd, 1) := by decide +kernel
theorem dX1_addLetter_37 : decode cX1_addLetter 37 = .ok (.iload_n 1, 1) := by decide +kernel
theorem dX1_addLetter_38 : decode cX1_addLetter 38 = .ok (.iastore, 1) := by decide +kernel
theorem dX1_addLetter_39 : decode cX1_addLetter 39 = .ok (.aload_n 0, 1) := by decide +kernel
theorem dX1_addLetter_40 : decode cX1_addLetter 40 = .ok (.getfield 24, 3) := by decide +kernel
theorem dX1_addLetter_43 : decode cX1_addLetter 43 = .ok (.iload_n 3, 1) := by decide +kernel
theorem dX1_addLetter_44 : decode cX1_addLetter 44 = .ok (.dup2, 1) := by decide +kernel
theorem dX1_addLetter_45 : decode cX1_addLetter 45 = .ok (.iaload, 1) := by decide +kernel
theorem dX1_addLetter_46 : decode cX1_addLetter 46 = .ok (.iconst 1, 1) := by decide +kernel
theorem dX1_addLetter_47 : decode cX1_addLetter 47 = .ok (.iadd, 1) := by decide +kernel
theorem dX1_addLetter_48 : decode cX1_addLetter 48 = .ok (.iastore, 1) := by decide +kernel
theorem dX1_addLetter_49 : decode cX1_addLetter 49 = .ok (.aload_n 0, 1) := by decide +kernel
theorem dX1_addLetter_50 : decode cX1_addLetter 50 = .ok (.getfield 21, 3) := by decide +kernel
theorem dX1_addLetter_53 : decode cX1_addLetter 53 = .ok (.iload_n 3, 1) := by decide +kernel
theorem dX1_addLetter_54 : decode cX1_addLetter 54 = .ok (.dup2, 1) := by decide +kernel
theorem dX1_addLetter_55 : decode cX1_addLetter 55 = .ok (.iaload, 1) := by decide +kernel
theorem dX1_addLetter_56 : decode cX1_addLetter 56 = .ok (.iload_n 2, 1) := by decide +kernel
theorem dX1_addLetter_57 : decode cX1_addLetter 57 = .ok (.iadd, 1) := by decide +kernel
theorem dX1_addLetter_58 : decode cX1_addLetter 58 = .ok (.iastore, 1) := by decide +kernel
theorem dX1_addLetter_59 : decode cX1_addLetter 59 = .ok (.return_, 1) := by decide +kernel
theorem dX1_begin_0 : decode cX1_begin 0 = .ok (.aload_n 0, 1) := by decide +kernel
theorem dX1_begin_1 : decode cX1_begin 1 = .ok (.iconst 1, 1) := by decide +kernel
theorem dX1_begin_2 : decode cX1_begin 2 = .ok (.invokevirtual 34, 3) := by decide +kernel
theorem dX1_begin_5 : decode cX1_begin 5 = .ok (.ifCond .eq 63, 3) := by decide +kernel
theorem dX1_begin_8 : decode cX1_begin 8 = .ok (.aload_n 0, 1) := by decide +kernel
theorem dX1_begin_9 : decode cX1_begin 9 = .ok (.getfield 9, 3) := by decide +kernel
theorem dX1_begin_12 : decode cX1_begin 12 = .ok (.aload_n 0, 1) := by decide +kernel
theorem dX1_begin_13 : decode cX1_begin 13 = .ok (.getfield 30, 3) := by decide +kernel
theorem dX1_begin_16 : decode cX1_begin 16 = .ok (.iload_n 1, 1) := by decide +kernel
theorem dX1_begin_17 : decode cX1_begin 17 = .ok (.iastore, 1) := by decide +kernel
theorem dX1_begin_18 : decode cX1_begin 18 = .ok (.aload_n 0, 1) := by decide +kernel
theorem dX1_begin_19 : decode cX1_begin 19 = .ok (.getfield 15, 3) := by decide +kernel
theorem dX1_begin_22 : decode cX1_begin 22 = .ok (.aload_n 0, 1) := by decide +kernel
theorem dX1_begin_23 : decode cX1_begin 23 = .ok (.getfield 30, 3) := by decide +kernel
theorem dX1_begin_26 : decode cX1_begin 26 = .ok (.iload_n 2, 1) := by decide +kernel
theorem dX1_begin_27 : decode cX1_begin 27 = .ok (.iastore, 1) := by decide +kernel
theorem dX1_begin_28 : decode cX1_begin 28 = .ok (.aload_n 0, 1) := by decide +kernel
theorem dX1_begin_29 : decode cX1_begin 29 = .ok (.getfield 18, 3) := by decide +kernel
theorem dX1_begin_32 : decode cX1_begin 32 = .ok (.aload_n 0, 1) := by decide +kernel
theorem dX1_begin_33 : decode cX1_begin 33 = .ok (.getfield 30, 3) := by decide +kernel
theorem dX1_begin_36 : decode cX1_begin 36 = .ok (.iload_n 3, 1) := by decide +kernel
theorem dX1_begin_37 : decode cX1_begin 37 = .ok (.iastore, 1) := by decide +kernel
theorem dX1_begin_38 : decode cX1_begin 38 = .ok (.aload_n 0, 1) := by decide +kernel
theorem dX1_begin_39 : decode cX1_begin 39 = .ok (.getfield 21, 3) := by decide +kernel
theorem dX1_begin_42 : decode cX1_begin 42 = .ok (.aload_n 0, 1) := by decide +kernel
theorem dX1_begin_43 : decode cX1_begin 43 = .ok (.getfield 30, 3) := by decide +kernel
theorem dX1_begin_46 : decode cX1_begin 46 = .ok (.iconst 0, 1) := by decide +kernel
theorem dX1_begin_47 : decode cX1_begin 47 = .ok (.iastore, 1) := by decide +kernel
theorem dX1_begin_48 : decode cX1_begin 48 = .ok (.aload_n 0, 1) := by decide +kernel
theorem dX1_begin_49 : decode cX1_begin 49 = .ok (.getfield 24, 3) := by decide +kernel
theorem dX1_begin_52 : decode cX1_begin 52 = .ok (.aload_n 0, 1) := by decide +kernel
theorem dX1_begin_53 : decode cX1_begin 53 = .ok (.getfield 30, 3) := by decide +kernel
theorem dX1_begin_56 : decode cX1_begin 56 = .ok (.iconst 0, 1) := by decide +kernel
theorem dX1_begin_57 : decode cX1_begin 57 = .ok (.iastore, 1) := by decide +kernel
theorem dX1_begin_58 : decode cX1_begin 58 = .ok (.aload_n 0, 1) := by decide +kernel
theorem dX1_begin_59 : decode cX1_begin 59 = .ok (.dup, 1) := by decide +kernel
theorem dX1_begin_60 : decode cX1_begin 60 = .ok (.getfield 30, 3) := by decide +kernel
theorem dX1_begin_63 : decode cX1_begin 63 = .ok (.iconst 1, 1) := by decide +kernel
theorem dX1_begin_64 : decode cX1_begin 64 = .ok (.iadd, 1) := by decide +kernel
theorem dX1_begin_65 : decode cX1_begin 65 = .ok (.putfield 30, 3) := by decide +kernel
theorem dX1_begin_68 : decode cX1_begin 68 = .ok (.return_, 1) := by decide +kernel
theorem dX1_costOfAll_0 : decode cX1_costOfAll 0 = .ok (.iconst 0, 1) := by decide +kernel
theorem dX1_costOfAll_1 : decode cX1_costOfAll 1 = .ok (.istore_n 1, 1) := by decide +kernel
theorem dX1_costOfAll_2 : decode cX1_costOfAll 2 = .ok (.iconst 0, 1) := by decide +kernel
theorem dX1_costOfAll_3 : decode cX1_costOfAll 3 = .ok (.istore_n 2, 1) := by decide +kernel
theorem dX1_costOfAll_4 : decode cX1_costOfAll 4 = .ok (.iload_n 2, 1) := by decide +kernel
theorem dX1_costOfAll_5 : decode cX1_costOfAll 5 = .ok (.aload_n 0, 1) := by decide +kernel
theorem dX1_costOfAll_6 : decode cX1_costOfAll 6 = .ok (.getfield 30, 3) := by decide +kernel
theorem dX1_costOfAll_9 : decode cX1_costOfAll 9 = .ok (.if_icmp .ge 18, 3) := by decide +kernel
theorem dX1_costOfAll_12 : decode cX1_costOfAll 12 = .ok (.iload_n 1, 1) := by decide +kernel
theorem dX1_costOfAll_13 : decode cX1_costOfAll 13 = .ok (.aload_n 0, 1) := by decide +kernel
theorem dX1_costOfAll_14 : decode cX1_costOfAll 14 = .ok (.getfield 21, 3) := by decide +kernel
theorem dX1_costOfAll_17 : decode cX1_costOfAll 17 = .ok (.iload_n 2, 1) := by decide +kernel
theorem dX1_costOfAll_18 : decode cX1_costOfAll 18 = .ok (.iaload, 1) := by decide +kernel
theorem dX1_costOfAll_19 : decode cX1_costOfAll 19 = .ok (.iadd, 1) := by decide +kernel
theorem dX1_costOfAll_20 : decode cX1_costOfAll 20 = .ok (.istore_n 1, 1) := by decide +kernel
theorem dX1_costOfAll_21 : decode cX1_costOfAll 21 = .ok (.iinc 2 1, 3) := by decide +kernel
theorem dX1_costOfAll_24 : decode cX1_costOfAll 24 = .ok (.goto (-20), 3) := by decide +kernel
theorem dX1_costOfAll_27 : decode cX1_costOfAll 27 = .ok (.iload_n 1, 1) := by decide +kernel
theorem dX1_costOfAll_28 : decode cX1_costOfAll 28 = .ok (.ireturn, 1) := by decide +kernel
theorem dX1_hasRoom_0 : decode cX1_hasRoom 0 = .ok (.aload_n 0, 1) := by decide +kernel
theorem dX1_hasRoom_1 : decode cX1_hasRoom 1 = .ok (.getfield 30, 3) := by decide +kernel
theorem dX1_hasRoom_4 : decode cX1_hasRoom 4 = .ok (.iload_n 1, 1) := by decide +kernel
theorem dX1_hasRoom_5 : decode cX1_hasRoom 5 = .ok (.iadd, 1) := by decide +kernel
theorem dX1_hasRoom_6 : decode cX1_hasRoom 6 = .ok (.bipush 60, 2) := by decide +kernel
theorem dX1_hasRoom_8 : decode cX1_hasRoom 8 = .ok (.if_icmp .gt 7, 3) := by decide +kernel
theorem dX1_hasRoom_11 : decode cX1_hasRoom 11 = .ok (.iconst 1, 1) := by decide +kernel
theorem dX1_hasRoom_12 : decode cX1_hasRoom 12 = .ok (.goto 4, 3) := by decide +kernel
theorem dX1_hasRoom_15 : decode cX1_hasRoom 15 = .ok (.iconst 0, 1) := by decide +kernel
theorem dX1_hasRoom_16 : decode cX1_hasRoom 16 = .ok (.ireturn, 1) := by decide +kernel
theorem dX1_init_0 : decode cX1_init 0 = .ok (.aload_n 0, 1) := by decide +kernel
theorem dX1_init_1 : decode cX1_init 1 = .ok (.invokespecial 3, 3) := by decide +kernel
theorem dX1_init_4 : decode cX1_init 4 = .ok (.aload_n 0, 1) := by decide +kernel
theorem dX1_init_5 : decode cX1_init 5 = .ok (.bipush 60, 2) := by decide +kernel
theorem dX1_init_7 : decode cX1_init 7 = .ok (.newarray .int, 2) := by decide +kernel
theorem dX1_init_9 : decode cX1_init 9 = .ok (.putfield 9, 3) := by decide +kernel
theorem dX1_init_12 : decode cX1_init 12 = .ok (.aload_n 0, 1) := by decide +kernel
theorem dX1_init_13 : decode cX1_init 13 = .ok (.bipush 60, 2) := by decide +kernel
theorem dX1_init_15 : decode cX1_init 15 = .ok (.newarray .int, 2) := by decide +kernel
theorem dX1_init_17 : decode cX1_init 17 = .ok (.putfield 15, 3) := by decide +kernel
theorem dX1_init_20 : decode cX1_init 20 = .ok (.aload_n 0, 1) := by decide +kernel
theorem dX1_init_21 : decode cX1_init 21 = .ok (.bipush 60, 2) := by decide +kernel
theorem dX1_init_23 : decode cX1_init 23 = .ok (.newarray .int, 2) := by decide +kernel
theorem dX1_init_25 : decode cX1_init 25 = .ok (.putfield 18, 3) := by decide +kernel
theorem dX1_init_28 : decode cX1_init 28 = .ok (.aload_n 0, 1) := by decide +kernel
theorem dX1_init_29 : decode cX1_init 29 = .ok (.bipush 60, 2) := by decide +kernel
theorem dX1_init_31 : decode cX1_init 31 = .ok (.newarray .int, 2) := by decide +kernel
theorem dX1_init_33 : decode cX1_init 33 = .ok (.putfield 21, 3) := by decide +kernel
theorem dX1_init_36 : decode cX1_init 36 = .ok (.aload_n 0, 1) := by decide +kernel
theorem dX1_init_37 : decode cX1_init 37 = .ok (.bipush 60, 2) := by decide +kernel
theorem dX1_init_39 : decode cX1_init 39 = .ok (.newarray .int, 2) := by decide +kernel
theorem dX1_init_41 : decode cX1_init 41 = .ok (.putfield 24, 3) := by decide +kernel
theorem dX1_init_44 : decode cX1_init 44 = .ok (.aload_n 0, 1) := by decide +kernel
theorem dX1_init_45 : decode cX1_init 45 = .ok (.sipush 540, 3) := by decide +kernel
theorem dX1_init_48 : decode cX1_init 48 = .ok (.newarray .int, 2) := by decide +kernel
theorem dX1_init_50 : decode cX1_init 50 = .ok (.putfield 27, 3) := by decide +kernel
theorem dX1_init_53 : decode cX1_init 53 = .ok (.aload_n 0, 1) := by decide +kernel
theorem dX1_init_54 : decode cX1_init 54 = .ok (.iconst 0, 1) := by decide +kernel
theorem dX1_init_55 : decode cX1_init 55 = .ok (.putfield 30, 3) := by decide +kernel
theorem dX1_init_58 : decode cX1_init 58 = .ok (.return_, 1) := by decide +kernel
theorem dX1_lastOf_0 : decode cX1_lastOf 0 = .ok (.aload_n 0, 1) := by decide +kernel
theorem dX1_lastOf_1 : decode cX1_lastOf 1 = .ok (.getfield 30, 3) := by decide +kernel
theorem dX1_lastOf_4 : decode cX1_lastOf 4 = .ok (.iconst 1, 1) := by decide +kernel
theorem dX1_lastOf_5 : decode cX1_lastOf 5 = .ok (.isub, 1) := by decide +kernel
theorem dX1_lastOf_6 : decode cX1_lastOf 6 = .ok (.istore_n 2, 1) := by decide +kernel
theorem dX1_lastOf_7 : decode cX1_lastOf 7 = .ok (.iload_n 2, 1) := by decide +kernel
theorem dX1_lastOf_8 : decode cX1_lastOf 8 = .ok (.ifCond .lt 21, 3) := by decide +kernel
theorem dX1_lastOf_11 : decode cX1_lastOf 11 = .ok (.aload_n 0, 1) := by decide +kernel
theorem dX1_lastOf_12 : decode cX1_lastOf 12 = .ok (.getfield 9, 3) := by decide +kernel
theorem dX1_lastOf_15 : decode cX1_lastOf 15 = .ok (.iload_n 2, 1) := by decide +kernel
theorem dX1_lastOf_16 : decode cX1_lastOf 16 = .ok (.iaload, 1) := by decide +kernel
theorem dX1_lastOf_17 : decode cX1_lastOf 17 = .ok (.iload_n 1, 1) := by decide +kernel
theorem dX1_lastOf_18 : decode cX1_lastOf 18 = .ok (.if_icmp .ne 5, 3) := by decide +kernel
theorem dX1_lastOf_21 : decode cX1_lastOf 21 = .ok (.iload_n 2, 1) := by decide +kernel
theorem dX1_lastOf_22 : decode cX1_lastOf 22 = .ok (.ireturn, 1) := by decide +kernel
theorem dX1_lastOf_23 : decode cX1_lastOf 23 = .ok (.iinc 2 (-1), 3) := by decide +kernel
theorem dX1_lastOf_26 : decode cX1_lastOf 26 = .ok (.goto (-19), 3) := by decide +kernel
theorem dX1_lastOf_29 : decode cX1_lastOf 29 = .ok (.iconst (-1), 1) := by decide +kernel
theorem dX1_lastOf_30 : decode cX1_lastOf 30 = .ok (.ireturn, 1) := by decide +kernel
theorem dX1_moveUp_0 : decode cX1_moveUp 0 = .ok (.aload_n 1, 1) := by decide +kernel
theorem dX1_moveUp_1 : decode cX1_moveUp 1 = .ok (.iload_n 2, 1) := by decide +kernel
theorem dX1_moveUp_2 : decode cX1_moveUp 2 = .ok (.iconst 1, 1) := by decide +kernel
theorem dX1_moveUp_3 : decode cX1_moveUp 3 = .ok (.iadd, 1) := by decide +kernel
theorem dX1_moveUp_4 : decode cX1_moveUp 4 = .ok (.iload_n 3, 1) := by decide +kernel
theorem dX1_moveUp_5 : decode cX1_moveUp 5 = .ok (.imul, 1) := by decide +kernel
theorem dX1_moveUp_6 : decode cX1_moveUp 6 = .ok (.aload_n 1, 1) := by decide +kernel
theorem dX1_moveUp_7 : decode cX1_moveUp 7 = .ok (.iload_n 2, 1) := by decide +kernel
theorem dX1_moveUp_8 : decode cX1_moveUp 8 = .ok (.iload_n 3, 1) := by decide +kernel
theorem dX1_moveUp_9 : decode cX1_moveUp 9 = .ok (.imul, 1) := by decide +kernel
theorem dX1_moveUp_10 : decode cX1_moveUp 10 = .ok (.aload_n 0, 1) := by decide +kernel
theorem dX1_moveUp_11 : decode cX1_moveUp 11 = .ok (.getfield 30, 3) := by decide +kernel
theorem dX1_moveUp_14 : decode cX1_moveUp 14 = .ok (.iload_n 2, 1) := by decide +kernel
theorem dX1_moveUp_15 : decode cX1_moveUp 15 = .ok (.isub, 1) := by decide +kernel
theorem dX1_moveUp_16 : decode cX1_moveUp 16 = .ok (.iconst 1, 1) := by decide +kernel
theorem dX1_moveUp_17 : decode cX1_moveUp 17 = .ok (.isub, 1) := by decide +kernel
theorem dX1_moveUp_18 : decode cX1_moveUp 18 = .ok (.iload_n 3, 1) := by decide +kernel
theorem dX1_moveUp_19 : decode cX1_moveUp 19 = .ok (.imul, 1) := by decide +kernel
theorem dX1_moveUp_20 : decode cX1_moveUp 20 = .ok (.invokestatic 42, 3) := by decide +kernel
theorem dX1_moveUp_23 : decode cX1_moveUp 23 = .ok (.return_, 1) := by decide +kernel
theorem dX1_numberOf_0 : decode cX1_numberOf 0 = .ok (.iload_n 1, 1) := by decide +kernel
theorem dX1_numberOf_1 : decode cX1_numberOf 1 = .ok (.ifCond .lt 29, 3) := by decide +kernel
theorem dX1_numberOf_4 : decode cX1_numberOf 4 = .ok (.iload_n 1, 1) := by decide +kernel
theorem dX1_numberOf_5 : decode cX1_numberOf 5 = .ok (.aload_n 0, 1) := by decide +kernel
theorem dX1_numberOf_6 : decode cX1_numberOf 6 = .ok (.getfield 30, 3) := by decide +kernel
theorem dX1_numberOf_9 : decode cX1_numberOf 9 = .ok (.if_icmp .ge 21, 3) := by decide +kernel
theorem dX1_numberOf_12 : decode cX1_numberOf 12 = .ok (.iload_n 2, 1) := by decide +kernel
theorem dX1_numberOf_13 : decode cX1_numberOf 13 = .ok (.ifCond .lt 17, 3) := by decide +kernel
theorem dX1_numberOf_16 : decode cX1_numberOf 16 = .ok (.iload_n 2, 1) := by decide +kernel
theorem dX1_numberOf_17 : decode cX1_numberOf 17 = .ok (.aload_n 0, 1) := by decide +kernel
theorem dX1_numberOf_18 : decode cX1_numberOf 18 = .ok (.getfield 24, 3) := by decide +kernel
theorem dX1_numberOf_21 : decode cX1_numberOf 21 = .ok (.iload_n 1, 1) := by decide +kernel
theorem dX1_numberOf_22 : decode cX1_numberOf 22 = .ok (.iaload, 1) := by decide +kernel
theorem dX1_numberOf_23 : decode cX1_numberOf 23 = .ok (.if_icmp .ge 7, 3) := by decide +kernel
theorem dX1_numberOf_26 : decode cX1_numberOf 26 = .ok (.iconst 1, 1) := by decide +kernel
theorem dX1_numberOf_27 : decode cX1_numberOf 27 = .ok (.goto 4, 3) := by decide +kernel
theorem dX1_numberOf_30 : decode cX1_numberOf 30 = .ok (.iconst 0, 1) := by decide +kernel
theorem dX1_numberOf_31 : decode cX1_numberOf 31 = .ok (.istore_n 3, 1) := by decide +kernel
theorem dX1_numberOf_32 : decode cX1_numberOf 32 = .ok (.iload_n 3, 1) := by decide +kernel
theorem dX1_numberOf_33 : decode cX1_numberOf 33 = .ok (.ifCond .eq 17, 3) := by decide +kernel
theorem dX1_numberOf_36 : decode cX1_numberOf 36 = .ok (.aload_n 0, 1) := by decide +kernel
theorem dX1_numberOf_37 : decode cX1_numberOf 37 = .ok (.getfield 27, 3) := by decide +kernel
theorem dX1_numberOf_40 : decode cX1_numberOf 40 = .ok (.iload_n 1, 1) := by decide +kernel
theorem dX1_numberOf_41 : decode cX1_numberOf 41 = .ok (.bipush 9, 2) := by decide +kernel
theorem dX1_numberOf_43 : decode cX1_numberOf 43 = .ok (.imul, 1) := by decide +kernel
theorem dX1_numberOf_44 : decode cX1_numberOf 44 = .ok (.iload_n 2, 1) := by decide +kernel
theorem dX1_numberOf_45 : decode cX1_numberOf 45 = .ok (.iadd, 1) := by decide +kernel
theorem dX1_numberOf_46 : decode cX1_numberOf 46 = .ok (.iaload, 1) := by decide +kernel
theorem dX1_numberOf_47 : decode cX1_numberOf 47 = .ok (.goto 6, 3) := by decide +kernel
theorem dX1_numberOf_50 : decode cX1_numberOf 50 = .ok (.sipush (-1000), 3) := by decide +kernel
theorem dX1_numberOf_53 : decode cX1_numberOf 53 = .ok (.ireturn, 1) := by decide +kernel
theorem dX1_remove_0 : decode cX1_remove 0 = .ok (.iload_n 1, 1) := by decide +kernel
theorem dX1_remove_1 : decode cX1_remove 1 = .ok (.ifCond .lt 11, 3) := by decide +kernel
theorem dX1_remove_4 : decode cX1_remove 4 = .ok (.iload_n 1, 1) := by decide +kernel
theorem dX1_remove_5 : decode cX1_remove 5 = .ok (.aload_n 0, 1) := by decide +kernel
theorem dX1_remove_6 : decode cX1_remove 6 = .ok (.getfield 30, 3) := by decide +kernel
theorem dX1_remove_9 : decode cX1_remove 9 = .ok (.if_icmp .lt 4, 3) := by decide +kernel
theorem dX1_remove_12 : decode cX1_remove 12 = .ok (.return_, 1) := by decide +kernel
theorem dX1_remove_13 : decode cX1_remove 13 = .ok (.aload_n 0, 1) := by decide +kernel
theorem dX1_remove_14 : decode cX1_remove 14 = .ok (.aload_n 0, 1) := by decide +kernel
theorem dX1_remove_15 : decode cX1_remove 15 = .ok (.getfield 9, 3) := by decide +kernel
theorem dX1_remove_18 : decode cX1_remove 18 = .ok (.iload_n 1, 1) := by decide +kernel
theorem dX1_remove_19 : decode cX1_remove 19 = .ok (.iconst 1, 1) := by decide +kernel
theorem dX1_remove_20 : decode cX1_remove 20 = .ok (.invokevirtual 38, 3) := by decide +kernel
theorem dX1_remove_23 : decode cX1_remove 23 = .ok (.aload_n 0, 1) := by decide +kernel
theorem dX1_remove_24 : decode cX1_remove 24 = .ok (.aload_n 0, 1) := by decide +kernel
theorem dX1_remove_25 : decode cX1_remove 25 = .ok (.getfield 15, 3) := by decide +kernel
theorem dX1_remove_28 : decode cX1_remove 28 = .ok (.iload_n 1, 1) := by decide +kernel
theorem dX1_remove_29 : decode cX1_remove 29 = .ok (.iconst 1, 1) := by decide +kernel
theorem dX1_remove_30 : decode cX1_remove 30 = .ok (.invokevirtual 38, 3) := by decide +kernel
theorem dX1_remove_33 : decode cX1_remove 33 = .ok (.aload_n 0, 1) := by decide +kernel
theorem dX1_remove_34 : decode cX1_remove 34 = .ok (.aload_n 0, 1) := by decide +kernel
theorem dX1_remove_35 : decode cX1_remove 35 = .ok (.getfield 18, 3) := by decide +kernel
theorem dX1_remove_38 : decode cX1_remove 38 = .ok (.iload_n 1, 1) := by decide +kernel
theorem dX1_remove_39 : decode cX1_remove 39 = .ok (.iconst 1, 1) := by decide +kernel
theorem dX1_remove_40 : decode cX1_remove 40 = .ok (.invokevirtual 38, 3) := by decide +kernel
theorem dX1_remove_43 : decode cX1_remove 43 = .ok (.aload_n 0, 1) := by decide +kernel
theorem dX1_remove_44 : decode cX1_remove 44 = .ok (.aload_n 0, 1) := by decide +kernel
theorem dX1_remove_45 : decode cX1_remove 45 = .ok (.getfield 21, 3) := by decide +kernel
theorem dX1_remove_48 : decode cX1_remove 48 = .ok (.iload_n 1, 1) := by decide +kernel
theorem dX1_remove_49 : decode cX1_remove 49 = .ok (.iconst 1, 1) := by decide +kernel
theorem dX1_remove_50 : decode cX1_remove 50 = .ok (.invokevirtual 38, 3) := by decide +kernel
theorem dX1_remove_53 : decode cX1_remove 53 = .ok (.aload_n 0, 1) := by decide +kernel
theorem dX1_remove_54 : decode cX1_remove 54 = .ok (.aload_n 0, 1) := by decide +kernel
theorem dX1_remove_55 : decode cX1_remove 55 = .ok (.getfield 24, 3) := by decide +kernel
theorem dX1_remove_58 : decode cX1_remove 58 = .ok (.iload_n 1, 1) := by decide +kernel
theorem dX1_remove_59 : decode cX1_remove 59 = .ok (.iconst 1, 1) := by decide +kernel
theorem dX1_remove_60 : decode cX1_remove 60 = .ok (.invokevirtual 38, 3) := by decide +kernel
theorem dX1_remove_63 : decode cX1_remove 63 = .ok (.aload_n 0, 1) := by decide +kernel
theorem dX1_remove_64 : decode cX1_remove 64 = .ok (.aload_n 0, 1) := by decide +kernel
theorem dX1_remove_65 : decode cX1_remove 65 = .ok (.getfield 27, 3) := by decide +kernel
theorem dX1_remove_68 : decode cX1_remove 68 = .ok (.iload_n 1, 1) := by decide +kernel
theorem dX1_remove_69 : decode cX1_remove 69 = .ok (.bipush 9, 2) := by decide +kernel
theorem dX1_remove_71 : decode cX1_remove 71 = .ok (.invokevirtual 38, 3) := by decide +kernel
theorem dX1_remove_74 : decode cX1_remove 74 = .ok (.aload_n 0, 1) := by decide +kernel
theorem dX1_remove_75 : decode cX1_remove 75 = .ok (.dup, 1) := by decide +kernel
theorem dX1_remove_76 : decode cX1_remove 76 = .ok (.getfield 30, 3) := by decide +kernel
theorem dX1_remove_79 : decode cX1_remove 79 = .ok (.iconst 1, 1) := by decide +kernel
theorem dX1_remove_80 : decode cX1_remove 80 = .ok (.isub, 1) := by decide +kernel
theorem dX1_remove_81 : decode cX1_remove 81 = .ok (.putfield 30, 3) := by decide +kernel
theorem dX1_remove_84 : decode cX1_remove 84 = .ok (.return_, 1) := by decide +kernel
theorem dX1_tell_0 : decode cX1_tell 0 = .ok (.iload_n 1, 1) := by decide +kernel
theorem dX1_tell_1 : decode cX1_tell 1 = .ok (.ifCond .lt 11, 3) := by decide +kernel
theorem dX1_tell_4 : decode cX1_tell 4 = .ok (.iload_n 1, 1) := by decide +kernel
theorem dX1_tell_5 : decode cX1_tell 5 = .ok (.aload_n 0, 1) := by decide +kernel
theorem dX1_tell_6 : decode cX1_tell 6 = .ok (.getfield 30, 3) := by decide +kernel
theorem dX1_tell_9 : decode cX1_tell 9 = .ok (.if_icmp .lt 7, 3) := by decide +kernel
theorem dX1_tell_12 : decode cX1_tell 12 = .ok (.sipush (-1000), 3) := by decide +kernel
theorem dX1_tell_15 : decode cX1_tell 15 = .ok (.ireturn, 1) := by decide +kernel
theorem dX1_tell_16 : decode cX1_tell 16 = .ok (.iload_n 2, 1) := by decide +kernel
theorem dX1_tell_17 : decode cX1_tell 17 = .ok (.tableswitch 70 0 4 #[35, 42, 49, 56, 63], 35) := by decide +kernel
theorem dX1_tell_52 : decode cX1_tell 52 = .ok (.aload_n 0, 1) := by decide +kernel
theorem dX1_tell_53 : decode cX1_tell 53 = .ok (.getfield 9, 3) := by decide +kernel
theorem dX1_tell_56 : decode cX1_tell 56 = .ok (.iload_n 1, 1) := by decide +kernel
theorem dX1_tell_57 : decode cX1_tell 57 = .ok (.iaload, 1) := by decide +kernel
theorem dX1_tell_58 : decode cX1_tell 58 = .ok (.ireturn, 1) := by decide +kernel
theorem dX1_tell_59 : decode cX1_tell 59 = .ok (.aload_n 0, 1) := by decide +kernel
theorem dX1_tell_60 : decode cX1_tell 60 = .ok (.getfield 15, 3) := by decide +kernel
theorem dX1_tell_63 : decode cX1_tell 63 = .ok (.iload_n 1, 1) := by decide +kernel
theorem dX1_tell_64 : decode cX1_tell 64 = .ok (.iaload, 1) := by decide +kernel
theorem dX1_tell_65 : decode cX1_tell 65 = .ok (.ireturn, 1) := by decide +kernel
theorem dX1_tell_66 : decode cX1_tell 66 = .ok (.aload_n 0, 1) := by decide +kernel
theorem dX1_tell_67 : decode cX1_tell 67 = .ok (.getfield 18, 3) := by decide +kernel
theorem dX1_tell_70 : decode cX1_tell 70 = .ok (.iload_n 1, 1) := by decide +kernel
theorem dX1_tell_71 : decode cX1_tell 71 = .ok (.iaload, 1) := by decide +kernel
theorem dX1_tell_72 : decode cX1_tell 72 = .ok (.ireturn, 1) := by decide +kernel
theorem dX1_tell_73 : decode cX1_tell 73 = .ok (.aload_n 0, 1) := by decide +kernel
theorem dX1_tell_74 : decode cX1_tell 74 = .ok (.getfield 21, 3) := by decide +kernel
theorem dX1_tell_77 : decode cX1_tell 77 = .ok (.iload_n 1, 1) := by decide +kernel
theorem dX1_tell_78 : decode cX1_tell 78 = .ok (.iaload, 1) := by decide +kernel
theorem dX1_tell_79 : decode cX1_tell 79 = .ok (.ireturn, 1) := by decide +kernel
theorem dX1_tell_80 : decode cX1_tell 80 = .ok (.aload_n 0, 1) := by decide +kernel
theorem dX1_tell_81 : decode cX1_tell 81 = .ok (.getfield 24, 3) := by decide +kernel
theorem dX1_tell_84 : decode cX1_tell 84 = .ok (.iload_n 1, 1) := by decide +kernel
theorem dX1_tell_85 : decode cX1_tell 85 = .ok (.iaload, 1) := by decide +kernel
theorem dX1_tell_86 : decode cX1_tell 86 = .ok (.ireturn, 1) := by decide +kernel
theorem dX1_tell_87 : decode cX1_tell 87 = .ok (.iload_n 2, 1) := by decide +kernel
theorem dX1_tell_88 : decode cX1_tell 88 = .ok (.bipush 10, 2) := by decide +kernel
theorem dX1_tell_90 : decode cX1_tell 90 = .ok (.if_icmp .ge 9, 3) := by decide +kernel
theorem dX1_tell_93 : decode cX1_tell 93 = .ok (.sipush (-1000), 3) := by decide +kernel
theorem dX1_tell_96 : decode cX1_tell 96 = .ok (.goto 12, 3) := by decide +kernel
theorem dX1_tell_99 : decode cX1_tell 99 = .ok (.aload_n 0, 1) := by decide +kernel
theorem dX1_tell_100 : decode cX1_tell 100 = .ok (.iload_n 1, 1) := by decide +kernel
theorem dX1_tell_101 : decode cX1_tell 101 = .ok (.iload_n 2, 1) := by decide +kernel
theorem dX1_tell_102 : decode cX1_tell 102 = .ok (.bipush 10, 2) := by decide +kernel
theorem dX1_tell_104 : decode cX1_tell 104 = .ok (.isub, 1) := by decide +kernel
theorem dX1_tell_105 : decode cX1_tell 105 = .ok (.invokevirtual 48, 3) := by decide +kernel
theorem dX1_tell_108 : decode cX1_tell 108 = .ok (.ireturn, 1) := by decide +kernel
theorem dX2_choose_0 : decode cX2_choose 0 = .ok (.iconst 0, 1) := by decide +kernel
theorem dX2_choose_1 : decode cX2_choose 1 = .ok (.istore_n 3, 1) := by decide +kernel
theorem dX2_choose_2 : decode cX2_choose 2 = .ok (.iload_n 3, 1) := by decide +kernel
theorem dX2_choose_3 : decode cX2_choose 3 = .ok (.aload_n 2, 1) := by decide +kernel
theorem dX2_choose_4 : decode cX2_choose 4 = .ok (.getfield 25, 3) := by decide +kernel
theorem dX2_choose_7 : decode cX2_choose 7 = .ok (.if_icmp .gt 37, 3) := by decide +kernel
theorem dX2_choose_10 : decode cX2_choose 10 = .ok (.aload_n 0, 1) := by decide +kernel
theorem dX2_choose_11 : decode cX2_choose 11 = .ok (.getfield 22, 3) := by decide +kernel
theorem dX2_choose_14 : decode cX2_choose 14 = .ok (.aload_n 1, 1) := by decide +kernel
theorem dX2_choose_15 : decode cX2_choose 15 = .ok (.getfield 25, 3) := by decide +kernel
theorem dX2_choose_18 : decode cX2_choose 18 = .ok (.bipush 17, 2) := by decide +kernel
theorem dX2_choose_20 : decode cX2_choose 20 = .ok (.imul, 1) := by decide +kernel
theorem dX2_choose_21 : decode cX2_choose 21 = .ok (.iload_n 3, 1) := by decide +kernel
theorem dX2_choose_22 : decode cX2_choose 22 = .ok (.iadd, 1) := by decide +kernel
theorem dX2_choose_23 : decode cX2_choose 23 = .ok (.iload_n 3, 1) := by decide +kernel
theorem dX2_choose_24 : decode cX2_choose 24 = .ok (.aload_n 2, 1) := by decide +kernel
theorem dX2_choose_25 : decode cX2_choose 25 = .ok (.getfield 25, 3) := by decide +kernel
theorem dX2_choose_28 : decode cX2_choose 28 = .ok (.if_icmp .ne 7, 3) := by decide +kernel
theorem dX2_choose_31 : decode cX2_choose 31 = .ok (.iconst 0, 1) := by decide +kernel
theorem dX2_choose_32 : decode cX2_choose 32 = .ok (.goto 5, 3) := by decide +kernel
theorem dX2_choose_35 : decode cX2_choose 35 = .ok (.ldc 31, 2) := by decide +kernel
theorem dX2_choose_37 : decode cX2_choose 37 = .ok (.iastore, 1) := by decide +kernel
theorem dX2_choose_38 : decode cX2_choose 38 = .ok (.iinc 3 1, 3) := by decide +kernel
theorem dX2_choose_41 : decode cX2_choose 41 = .ok (.goto (-39), 3) := by decide +kernel
theorem dX2_choose_44 : decode cX2_choose 44 = .ok (.aload_n 1, 1) := by decide +kernel
theorem dX2_choose_45 : decode cX2_choose 45 = .ok (.getfield 25, 3) := by decide +kernel
theorem dX2_choose_48 : decode cX2_choose 48 = .ok (.iconst 1, 1) := by decide +kernel
theorem dX2_choose_49 : decode cX2_choose 49 = .ok (.isub, 1) := by decide +kernel
theorem dX2_choose_50 : decode cX2_choose 50 = .ok (.istore_n 3, 1) := by decide +kernel
theorem dX2_choose_51 : decode cX2_choose 51 = .ok (.iload_n 3, 1) := by decide +kernel
theorem dX2_choose_52 : decode cX2_choose 52 = .ok (.ifCond .lt 58, 3) := by decide +kernel
theorem dX2_choose_55 : decode cX2_choose 55 = .ok (.iconst 0, 1) := by decide +kernel
theorem dX2_choose_56 : decode cX2_choose 56 = .ok (.istore 4, 2) := by decide +kernel
theorem dX2_choose_58 : decode cX2_choose 58 = .ok (.iload 4, 2) := by decide +kernel
theorem dX2_choose_60 : decode cX2_choose 60 = .ok (.aload_n 2, 1) := by decide +kernel
theorem dX2_choose_61 : decode cX2_choose 61 = .ok (.getfield 25, 3) := by decide +kernel
theorem dX2_choose_64 : decode cX2_choose 64 = .ok (.if_icmp .gt 40, 3) := by decide +kernel
theorem dX2_choose_67 : decode cX2_choose 67 = .ok (.aload_n 0, 1) := by decide +kernel
theorem dX2_choose_68 : decode cX2_choose 68 = .ok (.getfield 22, 3) := by decide +kernel
theorem dX2_choose_71 : decode cX2_choose 71 = .ok (.iload_n 3, 1) := by decide +kernel
theorem dX2_choose_72 : decode cX2_choose 72 = .ok (.bipush 17, 2) := by decide +kernel
theorem dX2_choose_74 : decode cX2_choose 74 = .ok (.imul, 1) := by decide +kernel
theorem dX2_choose_75 : decode cX2_choose 75 = .ok (.iload 4, 2) := by decide +kernel
theorem dX2_choose_77 : decode cX2_choose 77 = .ok (.iadd, 1) := by decide +kernel
theorem dX2_choose_78 : decode cX2_choose 78 = .ok (.aload_n 0, 1) := by decide +kernel
theorem dX2_choose_79 : decode cX2_choose 79 = .ok (.aload_n 1, 1) := by decide +kernel
theorem dX2_choose_80 : decode cX2_choose 80 = .ok (.aload_n 2, 1) := by decide +kernel
theorem dX2_choose_81 : decode cX2_choose 81 = .ok (.iload_n 3, 1) := by decide +kernel
theorem dX2_choose_82 : decode cX2_choose 82 = .ok (.iload 4, 2) := by decide +kernel
theorem dX2_choose_84 : decode cX2_choose 84 = .ok (.invokevirtual 32, 3) := by decide +kernel
theorem dX2_choose_87 : decode cX2_choose 87 = .ok (.aload_n 0, 1) := by decide +kernel
theorem dX2_choose_88 : decode cX2_choose 88 = .ok (.iload_n 3, 1) := by decide +kernel
theorem dX2_choose_89 : decode cX2_choose 89 = .ok (.iload 4, 2) := by decide +kernel
theorem dX2_choose_91 : decode cX2_choose 91 = .ok (.invokevirtual 36, 3) := by decide +kernel
theorem dX2_choose_94 : decode cX2_choose 94 = .ok (.invokestatic 40, 3) := by decide +kernel
theorem dX2_choose_97 : decode cX2_choose 97 = .ok (.iastore, 1) := by decide +kernel
theorem dX2_choose_98 : decode cX2_choose 98 = .ok (.iinc 4 1, 3) := by decide +kernel
theorem dX2_choose_101 : decode cX2_choose 101 = .ok (.goto (-43), 3) := by decide +kernel
theorem dX2_choose_104 : decode cX2_choose 104 = .ok (.iinc 3 (-1), 3) := by decide +kernel
theorem dX2_choose_107 : decode cX2_choose 107 = .ok (.goto (-56), 3) := by decide +kernel
theorem dX2_choose_110 : decode cX2_choose 110 = .ok (.aload_n 0, 1) := by decide +kernel
theorem dX2_choose_111 : decode cX2_choose 111 = .ok (.getfield 22, 3) := by decide +kernel
theorem dX2_choose_114 : decode cX2_choose 114 = .ok (.iconst 0, 1) := by decide +kernel
theorem dX2_choose_115 : decode cX2_choose 115 = .ok (.iaload, 1) := by decide +kernel
theorem dX2_choose_116 : decode cX2_choose 116 = .ok (.ldc 31, 2) := by decide +kernel
theorem dX2_choose_118 : decode cX2_choose 118 = .ok (.if_icmp .lt 5, 3) := by decide +kernel
theorem dX2_choose_121 : decode cX2_choose 121 = .ok (.iconst (-1), 1) := by decide +kernel
theorem dX2_choose_122 : decode cX2_choose 122 = .ok (.ireturn, 1) := by decide +kernel
theorem dX2_choose_123 : decode cX2_choose 123 = .ok (.aload_n 0, 1) := by decide +kernel
theorem dX2_choose_124 : decode cX2_choose 124 = .ok (.aload_n 1, 1) := by decide +kernel
theorem dX2_choose_125 : decode cX2_choose 125 = .ok (.aload_n 2, 1) := by decide +kernel
theorem dX2_choose_126 : decode cX2_choose 126 = .ok (.invokevirtual 45, 3) := by decide +kernel
theorem dX2_choose_129 : decode cX2_choose 129 = .ok (.aload_n 0, 1) := by decide +kernel
theorem dX2_choose_130 : decode cX2_choose 130 = .ok (.getfield 22, 3) := by decide +kernel
theorem dX2_choose_133 : decode cX2_choose 133 = .ok (.iconst 0, 1) := by decide +kernel
theorem dX2_choose_134 : decode cX2_choose 134 = .ok (.iaload, 1) := by decide +kernel
theorem dX2_choose_135 : decode cX2_choose 135 = .ok (.ireturn, 1) := by decide +kernel
theorem dX2_ifKept_0 : decode cX2_ifKept 0 = .ok (.iload 4, 2) := by decide +kernel
theorem dX2_ifKept_2 : decode cX2_ifKept 2 = .ok (.aload_n 2, 1) := by decide +kernel
theorem dX2_ifKept_3 : decode cX2_ifKept 3 = .ok (.getfield 25, 3) := by decide +kernel
theorem dX2_ifKept_6 : decode cX2_ifKept 6 = .ok (.if_icmp .ge 23, 3) := by decide +kernel
theorem dX2_ifKept_9 : decode cX2_ifKept 9 = .ok (.aload_n 1, 1) := by decide +kernel
theorem dX2_ifKept_10 : decode cX2_ifKept 10 = .ok (.getfield 49, 3) := by decide +kernel
theorem dX2_ifKept_13 : decode cX2_ifKept 13 = .ok (.iload_n 3, 1) := by decide +kernel
theorem dX2_ifKept_14 : decode cX2_ifKept 14 = .ok (.iaload, 1) := by decide +kernel
theorem dX2_ifKept_15 : decode cX2_ifKept 15 = .ok (.aload_n 2, 1) := by decide +kernel
theorem dX2_ifKept_16 : decode cX2_ifKept 16 = .ok (.getfield 49, 3) := by decide +kernel
theorem dX2_ifKept_19 : decode cX2_ifKept 19 = .ok (.iload 4, 2) := by decide +kernel
theorem dX2_ifKept_21 : decode cX2_ifKept 21 = .ok (.iaload, 1) := by decide +kernel
theorem dX2_ifKept_22 : decode cX2_ifKept 22 = .ok (.if_icmp .ne 7, 3) := by decide +kernel
theorem dX2_ifKept_25 : decode cX2_ifKept 25 = .ok (.iconst 1, 1) := by decide +kernel
theorem dX2_ifKept_26 : decode cX2_ifKept 26 = .ok (.goto 4, 3) := by decide +kernel
theorem dX2_ifKept_29 : decode cX2_ifKept 29 = .ok (.iconst 0, 1) := by decide +kernel
theorem dX2_ifKept_30 : decode cX2_ifKept 30 = .ok (.istore 5, 2) := by decide +kernel
theorem dX2_ifKept_32 : decode cX2_ifKept 32 = .ok (.iload 5, 2) := by decide +kernel
theorem dX2_ifKept_34 : decode cX2_ifKept 34 = .ok (.ifCond .eq 22, 3) := by decide +kernel
theorem dX2_ifKept_37 : decode cX2_ifKept 37 = .ok (.aload_n 0, 1) := by decide +kernel
theorem dX2_ifKept_38 : decode cX2_ifKept 38 = .ok (.getfield 22, 3) := by decide +kernel
theorem dX2_ifKept_41 : decode cX2_ifKept 41 = .ok (.iload_n 3, 1) := by decide +kernel
theorem dX2_ifKept_42 : decode cX2_ifKept 42 = .ok (.iconst 1, 1) := by decide +kernel
theorem dX2_ifKept_43 : decode cX2_ifKept 43 = .ok (.iadd, 1) := by decide +kernel
theorem dX2_ifKept_44 : decode cX2_ifKept 44 = .ok (.bipush 17, 2) := by decide +kernel
theorem dX2_ifKept_46 : decode cX2_ifKept 46 = .ok (.imul, 1) := by decide +kernel
theorem dX2_ifKept_47 : decode cX2_ifKept 47 = .ok (.iload 4, 2) := by decide +kernel
theorem dX2_ifKept_49 : decode cX2_ifKept 49 = .ok (.iadd, 1) := by decide +kernel
theorem dX2_ifKept_50 : decode cX2_ifKept 50 = .ok (.iconst 1, 1) := by decide +kernel
theorem dX2_ifKept_51 : decode cX2_ifKept 51 = .ok (.iadd, 1) := by decide +kernel
theorem dX2_ifKept_52 : decode cX2_ifKept 52 = .ok (.iaload, 1) := by decide +kernel
theorem dX2_ifKept_53 : decode cX2_ifKept 53 = .ok (.goto 5, 3) := by decide +kernel
theorem dX2_ifKept_56 : decode cX2_ifKept 56 = .ok (.ldc 31, 2) := by decide +kernel
theorem dX2_ifKept_58 : decode cX2_ifKept 58 = .ok (.ireturn, 1) := by decide +kernel
theorem dX2_ifStruck_0 : decode cX2_ifStruck 0 = .ok (.aload_n 0, 1) := by decide +kernel
theorem dX2_ifStruck_1 : decode cX2_ifStruck 1 = .ok (.getfield 22, 3) := by decide +kernel
theorem dX2_ifStruck_4 : decode cX2_ifStruck 4 = .ok (.iload_n 1, 1) := by decide +kernel
theorem dX2_ifStruck_5 : decode cX2_ifStruck 5 = .ok (.iconst 1, 1) := by decide +kernel
theorem dX2_ifStruck_6 : decode cX2_ifStruck 6 = .ok (.iadd, 1) := by decide +kernel
theorem dX2_ifStruck_7 : decode cX2_ifStruck 7 = .ok (.bipush 17, 2) := by decide +kernel
theorem dX2_ifStruck_9 : decode cX2_ifStruck 9 = .ok (.imul, 1) := by decide +kernel
theorem dX2_ifStruck_10 : decode cX2_ifStruck 10 = .ok (.iload_n 2, 1) := by decide +kernel
theorem dX2_ifStruck_11 : decode cX2_ifStruck 11 = .ok (.iadd, 1) := by decide +kernel
theorem dX2_ifStruck_12 : decode cX2_ifStruck 12 = .ok (.iaload, 1) := by decide +kernel
theorem dX2_ifStruck_13 : decode cX2_ifStruck 13 = .ok (.istore_n 3, 1) := by decide +kernel
theorem dX2_ifStruck_14 : decode cX2_ifStruck 14 = .ok (.aload_n 0, 1) := by decide +kernel
theorem dX2_ifStruck_15 : decode cX2_ifStruck 15 = .ok (.getfield 9, 3) := by decide +kernel
theorem dX2_ifStruck_18 : decode cX2_ifStruck 18 = .ok (.iload_n 1, 1) := by decide +kernel
theorem dX2_ifStruck_19 : decode cX2_ifStruck 19 = .ok (.baload, 1) := by decide +kernel
theorem dX2_ifStruck_20 : decode cX2_ifStruck 20 = .ok (.ifCond .eq 20, 3) := by decide +kernel
theorem dX2_ifStruck_23 : decode cX2_ifStruck 23 = .ok (.iload_n 3, 1) := by decide +kernel
theorem dX2_ifStruck_24 : decode cX2_ifStruck 24 = .ok (.ldc 31, 2) := by decide +kernel
theorem dX2_ifStruck_26 : decode cX2_ifStruck 26 = .ok (.if_icmp .ge 14, 3) := by decide +kernel
theorem dX2_ifStruck_29 : decode cX2_ifStruck 29 = .ok (.iload_n 3, 1) := by decide +kernel
theorem dX2_ifStruck_30 : decode cX2_ifStruck 30 = .ok (.aload_n 0, 1) := by decide +kernel
theorem dX2_ifStruck_31 : decode cX2_ifStruck 31 = .ok (.getfield 15, 3) := by decide +kernel
theorem dX2_ifStruck_34 : decode cX2_ifStruck 34 = .ok (.iload_n 1, 1) := by decide +kernel
theorem dX2_ifStruck_35 : decode cX2_ifStruck 35 = .ok (.iaload, 1) := by decide +kernel
theorem dX2_ifStruck_36 : decode cX2_ifStruck 36 = .ok (.iadd, 1) := by decide +kernel
theorem dX2_ifStruck_37 : decode cX2_ifStruck 37 = .ok (.goto 5, 3) := by decide +kernel
theorem dX2_ifStruck_40 : decode cX2_ifStruck 40 = .ok (.ldc 31, 2) := by decide +kernel
theorem dX2_ifStruck_42 : decode cX2_ifStruck 42 = .ok (.ireturn, 1) := by decide +kernel
theorem dX2_init_0 : decode cX2_init 0 = .ok (.aload_n 0, 1) := by decide +kernel
theorem dX2_init_1 : decode cX2_init 1 = .ok (.invokespecial 3, 3) := by decide +kernel
theorem dX2_init_4 : decode cX2_init 4 = .ok (.aload_n 0, 1) := by decide +kernel
theorem dX2_init_5 : decode cX2_init 5 = .ok (.bipush 40, 2) := by decide +kernel
theorem dX2_init_7 : decode cX2_init 7 = .ok (.newarray .boolean, 2) := by decide +kernel
theorem dX2_init_9 : decode cX2_init 9 = .ok (.putfield 9, 3) := by decide +kernel
theorem dX2_init_12 : decode cX2_init 12 = .ok (.aload_n 0, 1) := by decide +kernel
theorem dX2_init_13 : decode cX2_init 13 = .ok (.bipush 40, 2) := by decide +kernel
theorem dX2_init_15 : decode cX2_init 15 = .ok (.newarray .int, 2) := by decide +kernel
theorem dX2_init_17 : decode cX2_init 17 = .ok (.putfield 15, 3) := by decide +kernel
theorem dX2_init_20 : decode cX2_init 20 = .ok (.aload_n 0, 1) := by decide +kernel
theorem dX2_init_21 : decode cX2_init 21 = .ok (.bipush 16, 2) := by decide +kernel
theorem dX2_init_23 : decode cX2_init 23 = .ok (.newarray .int, 2) := by decide +kernel
theorem dX2_init_25 : decode cX2_init 25 = .ok (.putfield 19, 3) := by decide +kernel
theorem dX2_init_28 : decode cX2_init 28 = .ok (.aload_n 0, 1) := by decide +kernel
theorem dX2_init_29 : decode cX2_init 29 = .ok (.sipush 697, 3) := by decide +kernel
theorem dX2_init_32 : decode cX2_init 32 = .ok (.newarray .int, 2) := by decide +kernel
theorem dX2_init_34 : decode cX2_init 34 = .ok (.putfield 22, 3) := by decide +kernel
theorem dX2_init_37 : decode cX2_init 37 = .ok (.return_, 1) := by decide +kernel
theorem dX2_trace_0 : decode cX2_trace 0 = .ok (.iconst 0, 1) := by decide +kernel
theorem dX2_trace_1 : decode cX2_trace 1 = .ok (.istore_n 3, 1) := by decide +kernel
theorem dX2_trace_2 : decode cX2_trace 2 = .ok (.iconst 0, 1) := by decide +kernel
theorem dX2_trace_3 : decode cX2_trace 3 = .ok (.istore 4, 2) := by decide +kernel
theorem dX2_trace_5 : decode cX2_trace 5 = .ok (.iload 4, 2) := by decide +kernel
theorem dX2_trace_7 : decode cX2_trace 7 = .ok (.aload_n 1, 1) := by decide +kernel
theorem dX2_trace_8 : decode cX2_trace 8 = .ok (.getfield 25, 3) := by decide +kernel
theorem dX2_trace_11 : decode cX2_trace 11 = .ok (.if_icmp .ge 52, 3) := by decide +kernel
theorem dX2_trace_14 : decode cX2_trace 14 = .ok (.iload_n 3, 1) := by decide +kernel
theorem dX2_trace_15 : decode cX2_trace 15 = .ok (.aload_n 2, 1) := by decide +kernel
theorem dX2_trace_16 : decode cX2_trace 16 = .ok (.getfield 25, 3) := by decide +kernel
theorem dX2_trace_19 : decode cX2_trace 19 = .ok (.if_icmp .ge 44, 3) := by decide +kernel
theorem dX2_trace_22 : decode cX2_trace 22 = .ok (.aload_n 0, 1) := by decide +kernel
theorem dX2_trace_23 : decode cX2_trace 23 = .ok (.aload_n 1, 1) := by decide +kernel
theorem dX2_trace_24 : decode cX2_trace 24 = .ok (.aload_n 2, 1) := by decide +kernel
theorem dX2_trace_25 : decode cX2_trace 25 = .ok (.iload 4, 2) := by decide +kernel
theorem dX2_trace_27 : decode cX2_trace 27 = .ok (.iload_n 3, 1) := by decide +kernel
theorem dX2_trace_28 : decode cX2_trace 28 = .ok (.invokevirtual 32, 3) := by decide +kernel
theorem dX2_trace_31 : decode cX2_trace 31 = .ok (.aload_n 0, 1) := by decide +kernel
theorem dX2_trace_32 : decode cX2_trace 32 = .ok (.getfield 22, 3) := by decide +kernel
theorem dX2_trace_35 : decode cX2_trace 35 = .ok (.iload 4, 2) := by decide +kernel
theorem dX2_trace_37 : decode cX2_trace 37 = .ok (.bipush 17, 2) := by decide +kernel
theorem dX2_trace_39 : decode cX2_trace 39 = .ok (.imul, 1) := by decide +kernel
theorem dX2_trace_40 : decode cX2_trace 40 = .ok (.iload_n 3, 1) := by decide +kernel
theorem dX2_trace_41 : decode cX2_trace 41 = .ok (.iadd, 1) := by decide +kernel
theorem dX2_trace_42 : decode cX2_trace 42 = .ok (.iaload, 1) := by decide +kernel
theorem dX2_trace_43 : decode cX2_trace 43 = .ok (.if_icmp .ne 14, 3) := by decide +kernel
theorem dX2_trace_46 : decode cX2_trace 46 = .ok (.aload_n 0, 1) := by decide +kernel
theorem dX2_trace_47 : decode cX2_trace 47 = .ok (.getfield 19, 3) := by decide +kernel
theorem dX2_trace_50 : decode cX2_trace 50 = .ok (.iload_n 3, 1) := by decide +kernel
theorem dX2_trace_51 : decode cX2_trace 51 = .ok (.iload 4, 2) := by decide +kernel
theorem dX2_trace_53 : decode cX2_trace 53 = .ok (.iastore, 1) := by decide +kernel
theorem dX2_trace_54 : decode cX2_trace 54 = .ok (.iinc 3 1, 3) := by decide +kernel
theorem dX2_trace_57 : decode cX2_trace 57 = .ok (.iinc 4 1, 3) := by decide +kernel
theorem dX2_trace_60 : decode cX2_trace 60 = .ok (.goto (-55), 3) := by decide +kernel
theorem dX2_trace_63 : decode cX2_trace 63 = .ok (.return_, 1) := by decide +kernel
theorem dX3_addPart_0 : decode cX3_addPart 0 = .ok (.aload_n 0, 1) := by decide +kernel
theorem dX3_addPart_1 : decode cX3_addPart 1 = .ok (.getfield 31, 3) := by decide +kernel
theorem dX3_addPart_4 : decode cX3_addPart 4 = .ok (.iconst 4, 1) := by decide +kernel
theorem dX3_addPart_5 : decode cX3_addPart 5 = .ok (.if_icmp .ge 32, 3) := by decide +kernel
theorem dX3_addPart_8 : decode cX3_addPart 8 = .ok (.aload_n 1, 1) := by decide +kernel
theorem dX3_addPart_9 : decode cX3_addPart 9 = .ok (.getfield 54, 3) := by decide +kernel
theorem dX3_addPart_12 : decode cX3_addPart 12 = .ok (.bipush 12, 2) := by decide +kernel
theorem dX3_addPart_14 : decode cX3_addPart 14 = .ok (.if_icmp .gt 23, 3) := by decide +kernel
theorem dX3_addPart_17 : decode cX3_addPart 17 = .ok (.aload_n 0, 1) := by decide +kernel
theorem dX3_addPart_18 : decode cX3_addPart 18 = .ok (.getfield 24, 3) := by decide +kernel
theorem dX3_addPart_21 : decode cX3_addPart 21 = .ok (.aload_n 0, 1) := by decide +kernel
theorem dX3_addPart_22 : decode cX3_addPart 22 = .ok (.getfield 31, 3) := by decide +kernel
theorem dX3_addPart_25 : decode cX3_addPart 25 = .ok (.aload_n 1, 1) := by decide +kernel
theorem dX3_addPart_26 : decode cX3_addPart 26 = .ok (.aastore, 1) := by decide +kernel
theorem dX3_addPart_27 : decode cX3_addPart 27 = .ok (.aload_n 0, 1) := by decide +kernel
theorem dX3_addPart_28 : decode cX3_addPart 28 = .ok (.dup, 1) := by decide +kernel
theorem dX3_addPart_29 : decode cX3_addPart 29 = .ok (.getfield 31, 3) := by decide +kernel
theorem dX3_addPart_32 : decode cX3_addPart 32 = .ok (.iconst 1, 1) := by decide +kernel
theorem dX3_addPart_33 : decode cX3_addPart 33 = .ok (.iadd, 1) := by decide +kernel
theorem dX3_addPart_34 : decode cX3_addPart 34 = .ok (.putfield 31, 3) := by decide +kernel
theorem dX3_addPart_37 : decode cX3_addPart 37 = .ok (.return_, 1) := by decide +kernel
theorem dX3_clearParts_0 : decode cX3_clearParts 0 = .ok (.aload_n 0, 1) := by decide +kernel
theorem dX3_clearParts_1 : decode cX3_clearParts 1 = .ok (.iconst 0, 1) := by decide +kernel
theorem dX3_clearParts_2 : decode cX3_clearParts 2 = .ok (.putfield 31, 3) := by decide +kernel
theorem dX3_clearParts_5 : decode cX3_clearParts 5 = .ok (.iconst 0, 1) := by decide +kernel
theorem dX3_clearParts_6 : decode cX3_clearParts 6 = .ok (.istore_n 1, 1) := by decide +kernel
theorem dX3_clearParts_7 : decode cX3_clearParts 7 = .ok (.iload_n 1, 1) := by decide +kernel
theorem dX3_clearParts_8 : decode cX3_clearParts 8 = .ok (.iconst 4, 1) := by decide +kernel
theorem dX3_clearParts_9 : decode cX3_clearParts 9 = .ok (.if_icmp .ge 19, 3) := by decide +kernel
theorem dX3_clearParts_12 : decode cX3_clearParts 12 = .ok (.aload_n 0, 1) := by decide +kernel
theorem dX3_clearParts_13 : decode cX3_clearParts 13 = .ok (.getfield 24, 3) := by decide +kernel
theorem dX3_clearParts_16 : decode cX3_clearParts 16 = .ok (.iload_n 1, 1) := by decide +kernel
theorem dX3_clearParts_17 : decode cX3_clearParts 17 = .ok (.aload_n 0, 1) := by decide +kernel
theorem dX3_clearParts_18 : decode cX3_clearParts 18 = .ok (.getfield 28, 3) := by decide +kernel
theorem dX3_clearParts_21 : decode cX3_clearParts 21 = .ok (.aastore, 1) := by decide +kernel
theorem dX3_clearParts_22 : decode cX3_clearParts 22 = .ok (.iinc 1 1, 3) := by decide +kernel
theorem dX3_clearParts_25 : decode cX3_clearParts 25 = .ok (.goto (-18), 3) := by decide +kernel
theorem dX3_clearParts_28 : decode cX3_clearParts 28 = .ok (.return_, 1) := by decide +kernel
theorem dX3_howMany_0 : decode cX3_howMany 0 = .ok (.aload_n 0, 1) := by decide +kernel
theorem dX3_howMany_1 : decode cX3_howMany 1 = .ok (.getfield 47, 3) := by decide +kernel
theorem dX3_howMany_4 : decode cX3_howMany 4 = .ok (.iconst 0, 1) := by decide +kernel
theorem dX3_howMany_5 : decode cX3_howMany 5 = .ok (.laload, 1) := by decide +kernel
theorem dX3_howMany_6 : decode cX3_howMany 6 = .ok (.lreturn, 1) := by decide +kernel
theorem dX3_init_0 : decode cX3_init 0 = .ok (.aload_n 0, 1) := by decide +kernel
theorem dX3_init_1 : decode cX3_init 1 = .ok (.invokespecial 3, 3) := by decide +kernel
theorem dX3_init_4 : decode cX3_init 4 = .ok (.aload_n 0, 1) := by decide +kernel
theorem dX3_init_5 : decode cX3_init 5 = .ok (.new 9, 3) := by decide +kernel
theorem dX3_init_8 : decode cX3_init 8 = .ok (.dup, 1) := by decide +kernel
theorem dX3_init_9 : decode cX3_init 9 = .ok (.bipush 48, 2) := by decide +kernel
theorem dX3_init_11 : decode cX3_init 11 = .ok (.invokespecial 11, 3) := by decide +kernel
theorem dX3_init_14 : decode cX3_init 14 = .ok (.putfield 14, 3) := by decide +kernel
theorem dX3_init_17 : decode cX3_init 17 = .ok (.aload_n 0, 1) := by decide +kernel
theorem dX3_init_18 : decode cX3_init 18 = .ok (.iconst 0, 1) := by decide +kernel
theorem dX3_init_19 : decode cX3_init 19 = .ok (.putfield 20, 3) := by decide +kernel
theorem dX3_init_22 : decode cX3_init 22 = .ok (.aload_n 0, 1) := by decide +kernel
theorem dX3_init_23 : decode cX3_init 23 = .ok (.iconst 4, 1) := by decide +kernel
theorem dX3_init_24 : decode cX3_init 24 = .ok (.anewarray 9, 3) := by decide +kernel
theorem dX3_init_27 : decode cX3_init 27 = .ok (.putfield 24, 3) := by decide +kernel
theorem dX3_init_30 : decode cX3_init 30 = .ok (.aload_n 0, 1) := by decide +kernel
theorem dX3_init_31 : decode cX3_init 31 = .ok (.new 9, 3) := by decide +kernel
theorem dX3_init_34 : decode cX3_init 34 = .ok (.dup, 1) := by decide +kernel
theorem dX3_init_35 : decode cX3_init 35 = .ok (.iconst 0, 1) := by decide +kernel
theorem dX3_init_36 : decode cX3_init 36 = .ok (.invokespecial 11, 3) := by decide +kernel
theorem dX3_init_39 : decode cX3_init 39 = .ok (.putfield 28, 3) := by decide +kernel
theorem dX3_init_42 : decode cX3_init 42 = .ok (.aload_n 0, 1) := by decide +kernel
theorem dX3_init_43 : decode cX3_init 43 = .ok (.iconst 0, 1) := by decide +kernel
theorem dX3_init_44 : decode cX3_init 44 = .ok (.putfield 31, 3) := by decide +kernel
theorem dX3_init_47 : decode cX3_init 47 = .ok (.aload_n 0, 1) := by decide +kernel
theorem dX3_init_48 : decode cX3_init 48 = .ok (.iconst 4, 1) := by decide +kernel
theorem dX3_init_49 : decode cX3_init 49 = .ok (.newarray .int, 2) := by decide +kernel
theorem dX3_init_51 : decode cX3_init 51 = .ok (.putfield 34, 3) := by decide +kernel
theorem dX3_init_54 : decode cX3_init 54 = .ok (.aload_n 0, 1) := by decide +kernel
theorem dX3_init_55 : decode cX3_init 55 = .ok (.iconst 4, 1) := by decide +kernel
theorem dX3_init_56 : decode cX3_init 56 = .ok (.newarray .int, 2) := by decide +kernel
theorem dX3_init_58 : decode cX3_init 58 = .ok (.putfield 38, 3) := by decide +kernel
theorem dX3_init_61 : decode cX3_init 61 = .ok (.aload_n 0, 1) := by decide +kernel
theorem dX3_init_62 : decode cX3_init 62 = .ok (.iconst 4, 1) := by decide +kernel
theorem dX3_init_63 : decode cX3_init 63 = .ok (.newarray .int, 2) := by decide +kernel
theorem dX3_init_65 : decode cX3_init 65 = .ok (.putfield 41, 3) := by decide +kernel
theorem dX3_init_68 : decode cX3_init 68 = .ok (.aload_n 0, 1) := by decide +kernel
theorem dX3_init_69 : decode cX3_init 69 = .ok (.sipush 28561, 3) := by decide +kernel
theorem dX3_init_72 : decode cX3_init 72 = .ok (.newarray .int, 2) := by decide +kernel
theorem dX3_init_74 : decode cX3_init 74 = .ok (.putfield 44, 3) := by decide +kernel
theorem dX3_init_77 : decode cX3_init 77 = .ok (.aload_n 0, 1) := by decide +kernel
theorem dX3_init_78 : decode cX3_init 78 = .ok (.sipush 28561, 3) := by decide +kernel
theorem dX3_init_81 : decode cX3_init 81 = .ok (.newarray .long, 2) := by decide +kernel
theorem dX3_init_83 : decode cX3_init 83 = .ok (.putfield 47, 3) := by decide +kernel
theorem dX3_init_86 : decode cX3_init 86 = .ok (.aload_n 0, 1) := by decide +kernel
theorem dX3_init_87 : decode cX3_init 87 = .ok (.invokevirtual 51, 3) := by decide +kernel
theorem dX3_init_90 : decode cX3_init 90 = .ok (.return_, 1) := by decide +kernel
theorem dX3_lookAhead_0 : decode cX3_lookAhead 0 = .ok (.iconst 0, 1) := by decide +kernel
theorem dX3_lookAhead_1 : decode cX3_lookAhead 1 = .ok (.istore_n 1, 1) := by decide +kernel
theorem dX3_lookAhead_2 : decode cX3_lookAhead 2 = .ok (.iload_n 1, 1) := by decide +kernel
theorem dX3_lookAhead_3 : decode cX3_lookAhead 3 = .ok (.iconst 4, 1) := by decide +kernel
theorem dX3_lookAhead_4 : decode cX3_lookAhead 4 = .ok (.if_icmp .ge 53, 3) := by decide +kernel
theorem dX3_lookAhead_7 : decode cX3_lookAhead 7 = .ok (.aload_n 0, 1) := by decide +kernel
theorem dX3_lookAhead_8 : decode cX3_lookAhead 8 = .ok (.getfield 41, 3) := by decide +kernel
theorem dX3_lookAhead_11 : decode cX3_lookAhead 11 = .ok (.iload_n 1, 1) := by decide +kernel
theorem dX3_lookAhead_12 : decode cX3_lookAhead 12 = .ok (.aload_n 0, 1) := by decide +kernel
theorem dX3_lookAhead_13 : decode cX3_lookAhead 13 = .ok (.getfield 34, 3) := by decide +kernel
theorem dX3_lookAhead_16 : decode cX3_lookAhead 16 = .ok (.iload_n 1, 1) := by decide +kernel
theorem dX3_lookAhead_17 : decode cX3_lookAhead 17 = .ok (.iaload, 1) := by decide +kernel
theorem dX3_lookAhead_18 : decode cX3_lookAhead 18 = .ok (.aload_n 0, 1) := by decide +kernel
theorem dX3_lookAhead_19 : decode cX3_lookAhead 19 = .ok (.getfield 24, 3) := by decide +kernel
theorem dX3_lookAhead_22 : decode cX3_lookAhead 22 = .ok (.iload_n 1, 1) := by decide +kernel
theorem dX3_lookAhead_23 : decode cX3_lookAhead 23 = .ok (.aaload, 1) := by decide +kernel
theorem dX3_lookAhead_24 : decode cX3_lookAhead 24 = .ok (.getfield 54, 3) := by decide +kernel
theorem dX3_lookAhead_27 : decode cX3_lookAhead 27 = .ok (.if_icmp .ge 22, 3) := by decide +kernel
theorem dX3_lookAhead_30 : decode cX3_lookAhead 30 = .ok (.aload_n 0, 1) := by decide +kernel
theorem dX3_lookAhead_31 : decode cX3_lookAhead 31 = .ok (.getfield 24, 3) := by decide +kernel
theorem dX3_lookAhead_34 : decode cX3_lookAhead 34 = .ok (.iload_n 1, 1) := by decide +kernel
theorem dX3_lookAhead_35 : decode cX3_lookAhead 35 = .ok (.aaload, 1) := by decide +kernel
theorem dX3_lookAhead_36 : decode cX3_lookAhead 36 = .ok (.getfield 70, 3) := by decide +kernel
theorem dX3_lookAhead_39 : decode cX3_lookAhead 39 = .ok (.aload_n 0, 1) := by decide +kernel
theorem dX3_lookAhead_40 : decode cX3_lookAhead 40 = .ok (.getfield 34, 3) := by decide +kernel
theorem dX3_lookAhead_43 : decode cX3_lookAhead 43 = .ok (.iload_n 1, 1) := by decide +kernel
theorem dX3_lookAhead_44 : decode cX3_lookAhead 44 = .ok (.iaload, 1) := by decide +kernel
theorem dX3_lookAhead_45 : decode cX3_lookAhead 45 = .ok (.iaload, 1) := by decide +kernel
theorem dX3_lookAhead_46 : decode cX3_lookAhead 46 = .ok (.goto 4, 3) := by decide +kernel
theorem dX3_lookAhead_49 : decode cX3_lookAhead 49 = .ok (.iconst (-1), 1) := by decide +kernel
theorem dX3_lookAhead_50 : decode cX3_lookAhead 50 = .ok (.iastore, 1) := by decide +kernel
theorem dX3_lookAhead_51 : decode cX3_lookAhead 51 = .ok (.iinc 1 1, 3) := by decide +kernel
theorem dX3_lookAhead_54 : decode cX3_lookAhead 54 = .ok (.goto (-52), 3) := by decide +kernel
theorem dX3_lookAhead_57 : decode cX3_lookAhead 57 = .ok (.return_, 1) := by decide +kernel
theorem dX3_settle_0 : decode cX3_settle 0 = .ok (.aload_n 0, 1) := by decide +kernel
theorem dX3_settle_1 : decode cX3_settle 1 = .ok (.invokevirtual 63, 3) := by decide +kernel
theorem dX3_settle_4 : decode cX3_settle 4 = .ok (.iconst (-1), 1) := by decide +kernel
theorem dX3_settle_5 : decode cX3_settle 5 = .ok (.istore_n 2, 1) := by decide +kernel
theorem dX3_settle_6 : decode cX3_settle 6 = .ok (.lconst 1, 1) := by decide +kernel
theorem dX3_settle_7 : decode cX3_settle 7 = .ok (.lstore_n 3, 1) := by decide +kernel
theorem dX3_settle_8 : decode cX3_settle 8 = .ok (.iconst 0, 1) := by decide +kernel
theorem dX3_settle_9 : decode cX3_settle 9 = .ok (.istore 5, 2) := by decide +kernel
theorem dX3_settle_11 : decode cX3_settle 11 = .ok (.iload 5, 2) := by decide +kernel
theorem dX3_settle_13 : decode cX3_settle 13 = .ok (.iconst 4, 1) := by decide +kernel
theorem dX3_settle_14 : decode cX3_settle 14 = .ok (.if_icmp .ge 86, 3) := by decide +kernel
theorem dX3_settle_17 : decode cX3_settle 17 = .ok (.aload_n 0, 1) := by decide +kernel
theorem dX3_settle_18 : decode cX3_settle 18 = .ok (.getfield 41, 3) := by decide +kernel
theorem dX3_settle_21 : decode cX3_settle 21 = .ok (.iload 5, 2) := by decide +kernel
theorem dX3_settle_23 : decode cX3_settle 23 = .ok (.iaload, 1) := by decide +kernel
theorem dX3_settle_24 : decode cX3_settle 24 = .ok (.iconst (-1), 1) := by decide +kernel
theorem dX3_settle_25 : decode cX3_settle 25 = .ok (.if_icmp .eq 69, 3) := by decide +kernel
theorem dX3_settle_28 : decode cX3_settle 28 = .ok (.iload_n 1, 1) := by decide +kernel
theorem dX3_settle_29 : decode cX3_settle 29 = .ok (.aload_n 0, 1) := by decide +kernel
theorem dX3_settle_30 : decode cX3_settle 30 = .ok (.iload 5, 2) := by decide +kernel
theorem dX3_settle_32 : decode cX3_settle 32 = .ok (.invokevirtual 66, 3) := by decide +kernel
theorem dX3_settle_35 : decode cX3_settle 35 = .ok (.iadd, 1) := by decide +kernel
theorem dX3_settle_36 : decode cX3_settle 36 = .ok (.istore 6, 2) := by decide +kernel
theorem dX3_settle_38 : decode cX3_settle 38 = .ok (.iload_n 2, 1) := by decide +kernel
theorem dX3_settle_39 : decode cX3_settle 39 = .ok (.iconst (-1), 1) := by decide +kernel
theorem dX3_settle_40 : decode cX3_settle 40 = .ok (.if_icmp .eq 14, 3) := by decide +kernel
theorem dX3_settle_43 : decode cX3_settle 43 = .ok (.aload_n 0, 1) := by decide +kernel
theorem dX3_settle_44 : decode cX3_settle 44 = .ok (.getfield 44, 3) := by decide +kernel
theorem dX3_settle_47 : decode cX3_settle 47 = .ok (.iload 6, 2) := by decide +kernel
theorem dX3_settle_49 : decode cX3_settle 49 = .ok (.iaload, 1) := by decide +kernel
theorem dX3_settle_50 : decode cX3_settle 50 = .ok (.iload_n 2, 1) := by decide +kernel
theorem dX3_settle_51 : decode cX3_settle 51 = .ok (.if_icmp .ge 22, 3) := by decide +kernel
theorem dX3_settle_54 : decode cX3_settle 54 = .ok (.aload_n 0, 1) := by decide +kernel
theorem dX3_settle_55 : decode cX3_settle 55 = .ok (.getfield 44, 3) := by decide +kernel
theorem dX3_settle_58 : decode cX3_settle 58 = .ok (.iload 6, 2) := by decide +kernel
theorem dX3_settle_60 : decode cX3_settle 60 = .ok (.iaload, 1) := by decide +kernel
theorem dX3_settle_61 : decode cX3_settle 61 = .ok (.istore_n 2, 1) := by decide +kernel
theorem dX3_settle_62 : decode cX3_settle 62 = .ok (.aload_n 0, 1) := by decide +kernel
theorem dX3_settle_63 : decode cX3_settle 63 = .ok (.getfield 47, 3) := by decide +kernel
theorem dX3_settle_66 : decode cX3_settle 66 = .ok (.iload 6, 2) := by decide +kernel
theorem dX3_settle_68 : decode cX3_settle 68 = .ok (.laload, 1) := by decide +kernel
theorem dX3_settle_69 : decode cX3_settle 69 = .ok (.lstore_n 3, 1) := by decide +kernel
theorem dX3_settle_70 : decode cX3_settle 70 = .ok (.goto 24, 3) := by decide +kernel
theorem dX3_settle_73 : decode cX3_settle 73 = .ok (.aload_n 0, 1) := by decide +kernel
theorem dX3_settle_74 : decode cX3_settle 74 = .ok (.getfield 44, 3) := by decide +kernel
theorem dX3_settle_77 : decode cX3_settle 77 = .ok (.iload 6, 2) := by decide +kernel
theorem dX3_settle_79 : decode cX3_settle 79 = .ok (.iaload, 1) := by decide +kernel
theorem dX3_settle_80 : decode cX3_settle 80 = .ok (.iload_n 2, 1) := by decide +kernel
theorem dX3_settle_81 : decode cX3_settle 81 = .ok (.if_icmp .ne 13, 3) := by decide +kernel
theorem dX3_settle_84 : decode cX3_settle 84 = .ok (.lload_n 3, 1) := by decide +kernel
theorem dX3_settle_85 : decode cX3_settle 85 = .ok (.aload_n 0, 1) := by decide +kernel
theorem dX3_settle_86 : decode cX3_settle 86 = .ok (.getfield 47, 3) := by decide +kernel
theorem dX3_settle_89 : decode cX3_settle 89 = .ok (.iload 6, 2) := by decide +kernel
theorem dX3_settle_91 : decode cX3_settle 91 = .ok (.laload, 1) := by decide +kernel
theorem dX3_settle_92 : decode cX3_settle 92 = .ok (.ladd, 1) := by decide +kernel
theorem dX3_settle_93 : decode cX3_settle 93 = .ok (.lstore_n 3, 1) := by decide +kernel
theorem dX3_settle_94 : decode cX3_settle 94 = .ok (.iinc 5 1, 3) := by decide +kernel
theorem dX3_settle_97 : decode cX3_settle 97 = .ok (.goto (-86), 3) := by decide +kernel
theorem dX3_settle_100 : decode cX3_settle 100 = .ok (.aload_n 0, 1) := by decide +kernel
theorem dX3_settle_101 : decode cX3_settle 101 = .ok (.getfield 44, 3) := by decide +kernel
theorem dX3_settle_104 : decode cX3_settle 104 = .ok (.iload_n 1, 1) := by decide +kernel
theorem dX3_settle_105 : decode cX3_settle 105 = .ok (.iload_n 2, 1) := by decide +kernel
theorem dX3_settle_106 : decode cX3_settle 106 = .ok (.iconst 1, 1) := by decide +kernel
theorem dX3_settle_107 : decode cX3_settle 107 = .ok (.iadd, 1) := by decide +kernel
theorem dX3_settle_108 : decode cX3_settle 108 = .ok (.iastore, 1) := by decide +kernel
theorem dX3_settle_109 : decode cX3_settle 109 = .ok (.aload_n 0, 1) := by decide +kernel
theorem dX3_settle_110 : decode cX3_settle 110 = .ok (.getfield 47, 3) := by decide +kernel
theorem dX3_settle_113 : decode cX3_settle 113 = .ok (.iload_n 1, 1) := by decide +kernel
theorem dX3_settle_114 : decode cX3_settle 114 = .ok (.lload_n 3, 1) := by decide +kernel
theorem dX3_settle_115 : decode cX3_settle 115 = .ok (.lastore, 1) := by decide +kernel
theorem dX3_settle_116 : decode cX3_settle 116 = .ok (.return_, 1) := by decide +kernel
theorem dX3_settleLetter_0 : decode cX3_settleLetter 0 = .ok (.iconst 0, 1) := by decide +kernel
theorem dX3_settleLetter_1 : decode cX3_settleLetter 1 = .ok (.istore_n 2, 1) := by decide +kernel
theorem dX3_settleLetter_2 : decode cX3_settleLetter 2 = .ok (.iload_n 2, 1) := by decide +kernel
theorem dX3_settleLetter_3 : decode cX3_settleLetter 3 = .ok (.iconst 4, 1) := by decide +kernel
theorem dX3_settleLetter_4 : decode cX3_settleLetter 4 = .ok (.if_icmp .ge 38, 3) := by decide +kernel
theorem dX3_settleLetter_7 : decode cX3_settleLetter 7 = .ok (.aload_n 0, 1) := by decide +kernel
theorem dX3_settleLetter_8 : decode cX3_settleLetter 8 = .ok (.getfield 24, 3) := by decide +kernel
theorem dX3_settleLetter_11 : decode cX3_settleLetter 11 = .ok (.iload_n 2, 1) := by decide +kernel
theorem dX3_settleLetter_12 : decode cX3_settleLetter 12 = .ok (.aaload, 1) := by decide +kernel
theorem dX3_settleLetter_13 : decode cX3_settleLetter 13 = .ok (.aload_n 0, 1) := by decide +kernel
theorem dX3_settleLetter_14 : decode cX3_settleLetter 14 = .ok (.getfield 34, 3) := by decide +kernel
theorem dX3_settleLetter_17 : decode cX3_settleLetter 17 = .ok (.iload_n 2, 1) := by decide +kernel
theorem dX3_settleLetter_18 : decode cX3_settleLetter 18 = .ok (.iaload, 1) := by decide +kernel
theorem dX3_settleLetter_19 : decode cX3_settleLetter 19 = .ok (.invokevirtual 85, 3) := by decide +kernel
theorem dX3_settleLetter_22 : decode cX3_settleLetter 22 = .ok (.iload_n 1, 1) := by decide +kernel
theorem dX3_settleLetter_23 : decode cX3_settleLetter 23 = .ok (.if_icmp .ne 13, 3) := by decide +kernel
theorem dX3_settleLetter_26 : decode cX3_settleLetter 26 = .ok (.aload_n 0, 1) := by decide +kernel
theorem dX3_settleLetter_27 : decode cX3_settleLetter 27 = .ok (.getfield 34, 3) := by decide +kernel
theorem dX3_settleLetter_30 : decode cX3_settleLetter 30 = .ok (.iload_n 2, 1) := by decide +kernel
theorem dX3_settleLetter_31 : decode cX3_settleLetter 31 = .ok (.dup2, 1) := by decide +kernel
theorem dX3_settleLetter_32 : decode cX3_settleLetter 32 = .ok (.iaload, 1) := by decide +kernel
theorem dX3_settleLetter_33 : decode cX3_settleLetter 33 = .ok (.iconst 1, 1) := by decide +kernel
theorem dX3_settleLetter_34 : decode cX3_settleLetter 34 = .ok (.iadd, 1) := by decide +kernel
theorem dX3_settleLetter_35 : decode cX3_settleLetter 35 = .ok (.iastore, 1) := by decide +kernel
theorem dX3_settleLetter_36 : decode cX3_settleLetter 36 = .ok (.iinc 2 1, 3) := by decide +kernel
theorem dX3_settleLetter_39 : decode cX3_settleLetter 39 = .ok (.goto (-37), 3) := by decide +kernel
theorem dX3_settleLetter_42 : decode cX3_settleLetter 42 = .ok (.return_, 1) := by decide +kernel
theorem dX3_solve_0 : decode cX3_solve 0 = .ok (.iconst 1, 1) := by decide +kernel
theorem dX3_solve_1 : decode cX3_solve 1 = .ok (.istore_n 1, 1) := by decide +kernel
theorem dX3_solve_2 : decode cX3_solve 2 = .ok (.iconst 3, 1) := by decide +kernel
theorem dX3_solve_3 : decode cX3_solve 3 = .ok (.istore_n 2, 1) := by decide +kernel
theorem dX3_solve_4 : decode cX3_solve 4 = .ok (.iload_n 2, 1) := by decide +kernel
theorem dX3_solve_5 : decode cX3_solve 5 = .ok (.ifCond .lt 30, 3) := by decide +kernel
theorem dX3_solve_8 : decode cX3_solve 8 = .ok (.aload_n 0, 1) := by decide +kernel
theorem dX3_solve_9 : decode cX3_solve 9 = .ok (.getfield 38, 3) := by decide +kernel
theorem dX3_solve_12 : decode cX3_solve 12 = .ok (.iload_n 2, 1) := by decide +kernel
theorem dX3_solve_13 : decode cX3_solve 13 = .ok (.iload_n 1, 1) := by decide +kernel
theorem dX3_solve_14 : decode cX3_solve 14 = .ok (.iastore, 1) := by decide +kernel
theorem dX3_solve_15 : decode cX3_solve 15 = .ok (.iload_n 1, 1) := by decide +kernel
theorem dX3_solve_16 : decode cX3_solve 16 = .ok (.aload_n 0, 1) := by decide +kernel
theorem dX3_solve_17 : decode cX3_solve 17 = .ok (.getfield 24, 3) := by decide +kernel
theorem dX3_solve_20 : decode cX3_solve 20 = .ok (.iload_n 2, 1) := by decide +kernel
theorem dX3_solve_21 : decode cX3_solve 21 = .ok (.aaload, 1) := by decide +kernel
theorem dX3_solve_22 : decode cX3_solve 22 = .ok (.getfield 54, 3) := by decide +kernel
theorem dX3_solve_25 : decode cX3_solve 25 = .ok (.iconst 1, 1) := by decide +kernel
theorem dX3_solve_26 : decode cX3_solve 26 = .ok (.iadd, 1) := by decide +kernel
theorem dX3_solve_27 : decode cX3_solve 27 = .ok (.imul, 1) := by decide +kernel
theorem dX3_solve_28 : decode cX3_solve 28 = .ok (.istore_n 1, 1) := by decide +kernel
theorem dX3_solve_29 : decode cX3_solve 29 = .ok (.iinc 2 (-1), 3) := by decide +kernel
theorem dX3_solve_32 : decode cX3_solve 32 = .ok (.goto (-28), 3) := by decide +kernel
theorem dX3_solve_35 : decode cX3_solve 35 = .ok (.aload_n 0, 1) := by decide +kernel
theorem dX3_solve_36 : decode cX3_solve 36 = .ok (.getfield 34, 3) := by decide +kernel
theorem dX3_solve_39 : decode cX3_solve 39 = .ok (.iconst 0, 1) := by decide +kernel
theorem dX3_solve_40 : decode cX3_solve 40 = .ok (.aload_n 0, 1) := by decide +kernel
theorem dX3_solve_41 : decode cX3_solve 41 = .ok (.getfield 24, 3) := by decide +kernel
theorem dX3_solve_44 : decode cX3_solve 44 = .ok (.iconst 0, 1) := by decide +kernel
theorem dX3_solve_45 : decode cX3_solve 45 = .ok (.aaload, 1) := by decide +kernel
theorem dX3_solve_46 : decode cX3_solve 46 = .ok (.getfield 54, 3) := by decide +kernel
theorem dX3_solve_49 : decode cX3_solve 49 = .ok (.iastore, 1) := by decide +kernel
theorem dX3_solve_50 : decode cX3_solve 50 = .ok (.aload_n 0, 1) := by decide +kernel
theorem dX3_solve_51 : decode cX3_solve 51 = .ok (.getfield 34, 3) := by decide +kernel
theorem dX3_solve_54 : decode cX3_solve 54 = .ok (.iconst 0, 1) := by decide +kernel
theorem dX3_solve_55 : decode cX3_solve 55 = .ok (.iaload, 1) := by decide +kernel
theorem dX3_solve_56 : decode cX3_solve 56 = .ok (.ifCond .lt 135, 3) := by decide +kernel
theorem dX3_solve_59 : decode cX3_solve 59 = .ok (.aload_n 0, 1) := by decide +kernel
theorem dX3_solve_60 : decode cX3_solve 60 = .ok (.getfield 34, 3) := by decide +kernel
theorem dX3_solve_63 : decode cX3_solve 63 = .ok (.iconst 1, 1) := by decide +kernel
theorem dX3_solve_64 : decode cX3_solve 64 = .ok (.aload_n 0, 1) := by decide +kernel
theorem dX3_solve_65 : decode cX3_solve 65 = .ok (.getfield 24, 3) := by decide +kernel
theorem dX3_solve_68 : decode cX3_solve 68 = .ok (.iconst 1, 1) := by decide +kernel
theorem dX3_solve_69 : decode cX3_solve 69 = .ok (.aaload, 1) := by decide +kernel
theorem dX3_solve_70 : decode cX3_solve 70 = .ok (.getfield 54, 3) := by decide +kernel
theorem dX3_solve_73 : decode cX3_solve 73 = .ok (.iastore, 1) := by decide +kernel
theorem dX3_solve_74 : decode cX3_solve 74 = .ok (.aload_n 0, 1) := by decide +kernel
theorem dX3_solve_75 : decode cX3_solve 75 = .ok (.getfield 34, 3) := by decide +kernel
theorem dX3_solve_78 : decode cX3_solve 78 = .ok (.iconst 1, 1) := by decide +kernel
theorem dX3_solve_79 : decode cX3_solve 79 = .ok (.iaload, 1) := by decide +kernel
theorem dX3_solve_80 : decode cX3_solve 80 = .ok (.ifCond .lt 98, 3) := by decide +kernel
theorem dX3_solve_83 : decode cX3_solve 83 = .ok (.aload_n 0, 1) := by decide +kernel
theorem dX3_solve_84 : decode cX3_solve 84 = .ok (.getfield 34, 3) := by decide +kernel
theorem dX3_solve_87 : decode cX3_solve 87 = .ok (.iconst 2, 1) := by decide +kernel
theorem dX3_solve_88 : decode cX3_solve 88 = .ok (.aload_n 0, 1) := by decide +kernel
theorem dX3_solve_89 : decode cX3_solve 89 = .ok (.getfield 24, 3) := by decide +kernel
theorem dX3_solve_92 : decode cX3_solve 92 = .ok (.iconst 2, 1) := by decide +kernel
theorem dX3_solve_93 : decode cX3_solve 93 = .ok (.aaload, 1) := by decide +kernel
theorem dX3_solve_94 : decode cX3_solve 94 = .ok (.getfield 54, 3) := by decide +kernel
theorem dX3_solve_97 : decode cX3_solve 97 = .ok (.iastore, 1) := by decide +kernel
theorem dX3_solve_98 : decode cX3_solve 98 = .ok (.aload_n 0, 1) := by decide +kernel
theorem dX3_solve_99 : decode cX3_solve 99 = .ok (.getfield 34, 3) := by decide +kernel
theorem dX3_solve_102 : decode cX3_solve 102 = .ok (.iconst 2, 1) := by decide +kernel
theorem dX3_solve_103 : decode cX3_solve 103 = .ok (.iaload, 1) := by decide +kernel
theorem dX3_solve_104 : decode cX3_solve 104 = .ok (.ifCond .lt 61, 3) := by decide +kernel
theorem dX3_solve_107 : decode cX3_solve 107 = .ok (.aload_n 0, 1) := by decide +kernel
theorem dX3_solve_108 : decode cX3_solve 108 = .ok (.getfield 34, 3) := by decide +kernel
theorem dX3_solve_111 : decode cX3_solve 111 = .ok (.iconst 3, 1) := by decide +kernel
theorem dX3_solve_112 : decode cX3_solve 112 = .ok (.aload_n 0, 1) := by decide +kernel
theorem dX3_solve_113 : decode cX3_solve 113 = .ok (.getfield 24, 3) := by decide +kernel
theorem dX3_solve_116 : decode cX3_solve 116 = .ok (.iconst 3, 1) := by decide +kernel
theorem dX3_solve_117 : decode cX3_solve 117 = .ok (.aaload, 1) := by decide +kernel
theorem dX3_solve_118 : decode cX3_solve 118 = .ok (.getfield 54, 3) := by decide +kernel
theorem dX3_solve_121 : decode cX3_solve 121 = .ok (.iastore, 1) := by decide +kernel
theorem dX3_solve_122 : decode cX3_solve 122 = .ok (.aload_n 0, 1) := by decide +kernel
theorem dX3_solve_123 : decode cX3_solve 123 = .ok (.getfield 34, 3) := by decide +kernel
theorem dX3_solve_126 : decode cX3_solve 126 = .ok (.iconst 3, 1) := by decide +kernel
theorem dX3_solve_127 : decode cX3_solve 127 = .ok (.iaload, 1) := by decide +kernel
theorem dX3_solve_128 : decode cX3_solve 128 = .ok (.ifCond .lt 24, 3) := by decide +kernel
theorem dX3_solve_131 : decode cX3_solve 131 = .ok (.iinc 1 (-1), 3) := by decide +kernel
theorem dX3_solve_134 : decode cX3_solve 134 = .ok (.aload_n 0, 1) := by decide +kernel
theorem dX3_solve_135 : decode cX3_solve 135 = .ok (.iload_n 1, 1) := by decide +kernel
theorem dX3_solve_136 : decode cX3_solve 136 = .ok (.invokevirtual 57, 3) := by decide +kernel
theorem dX3_solve_139 : decode cX3_solve 139 = .ok (.aload_n 0, 1) := by decide +kernel
theorem dX3_solve_140 : decode cX3_solve 140 = .ok (.getfield 34, 3) := by decide +kernel
theorem dX3_solve_143 : decode cX3_solve 143 = .ok (.iconst 3, 1) := by decide +kernel
theorem dX3_solve_144 : decode cX3_solve 144 = .ok (.dup2, 1) := by decide +kernel
theorem dX3_solve_145 : decode cX3_solve 145 = .ok (.iaload, 1) := by decide +kernel
theorem dX3_solve_146 : decode cX3_solve 146 = .ok (.iconst 1, 1) := by decide +kernel
theorem dX3_solve_147 : decode cX3_solve 147 = .ok (.isub, 1) := by decide +kernel
theorem dX3_solve_148 : decode cX3_solve 148 = .ok (.iastore, 1) := by decide +kernel
theorem dX3_solve_149 : decode cX3_solve 149 = .ok (.goto (-27), 3) := by decide +kernel
theorem dX3_solve_152 : decode cX3_solve 152 = .ok (.aload_n 0, 1) := by decide +kernel
theorem dX3_solve_153 : decode cX3_solve 153 = .ok (.getfield 34, 3) := by decide +kernel
theorem dX3_solve_156 : decode cX3_solve 156 = .ok (.iconst 2, 1) := by decide +kernel
theorem dX3_solve_157 : decode cX3_solve 157 = .ok (.dup2, 1) := by decide +kernel
theorem dX3_solve_158 : decode cX3_solve 158 = .ok (.iaload, 1) := by decide +kernel
theorem dX3_solve_159 : decode cX3_solve 159 = .ok (.iconst 1, 1) := by decide +kernel
theorem dX3_solve_160 : decode cX3_solve 160 = .ok (.isub, 1) := by decide +kernel
theorem dX3_solve_161 : decode cX3_solve 161 = .ok (.iastore, 1) := by decide +kernel
theorem dX3_solve_162 : decode cX3_solve 162 = .ok (.goto (-64), 3) := by decide +kernel
theorem dX3_solve_165 : decode cX3_solve 165 = .ok (.aload_n 0, 1) := by decide +kernel
theorem dX3_solve_166 : decode cX3_solve 166 = .ok (.getfield 34, 3) := by decide +kernel
theorem dX3_solve_169 : decode cX3_solve 169 = .ok (.iconst 1, 1) := by decide +kernel
theorem dX3_solve_170 : decode cX3_solve 170 = .ok (.dup2, 1) := by decide +kernel
theorem dX3_solve_171 : decode cX3_solve 171 = .ok (.iaload, 1) := by decide +kernel
theorem dX3_solve_172 : decode cX3_solve 172 = .ok (.iconst 1, 1) := by decide +kernel
theorem dX3_solve_173 : decode cX3_solve 173 = .ok (.isub, 1) := by decide +kernel
theorem dX3_solve_174 : decode cX3_solve 174 = .ok (.iastore, 1) := by decide +kernel
theorem dX3_solve_175 : decode cX3_solve 175 = .ok (.goto (-101), 3) := by decide +kernel
theorem dX3_solve_178 : decode cX3_solve 178 = .ok (.aload_n 0, 1) := by decide +kernel
theorem dX3_solve_179 : decode cX3_solve 179 = .ok (.getfield 34, 3) := by decide +kernel
theorem dX3_solve_182 : decode cX3_solve 182 = .ok (.iconst 0, 1) := by decide +kernel
theorem dX3_solve_183 : decode cX3_solve 183 = .ok (.dup2, 1) := by decide +kernel
theorem dX3_solve_184 : decode cX3_solve 184 = .ok (.iaload, 1) := by decide +kernel
theorem dX3_solve_185 : decode cX3_solve 185 = .ok (.iconst 1, 1) := by decide +kernel
theorem dX3_solve_186 : decode cX3_solve 186 = .ok (.isub, 1) := by decide +kernel
theorem dX3_solve_187 : decode cX3_solve 187 = .ok (.iastore, 1) := by decide +kernel
theorem dX3_solve_188 : decode cX3_solve 188 = .ok (.goto (-138), 3) := by decide +kernel
theorem dX3_solve_191 : decode cX3_solve 191 = .ok (.aload_n 0, 1) := by decide +kernel
theorem dX3_solve_192 : decode cX3_solve 192 = .ok (.invokevirtual 60, 3) := by decide +kernel
theorem dX3_solve_195 : decode cX3_solve 195 = .ok (.return_, 1) := by decide +kernel
theorem dX3_takeLetter_0 : decode cX3_takeLetter 0 = .ok (.aload_n 0, 1) := by decide +kernel
theorem dX3_takeLetter_1 : decode cX3_takeLetter 1 = .ok (.getfield 41, 3) := by decide +kernel
theorem dX3_takeLetter_4 : decode cX3_takeLetter 4 = .ok (.iload_n 1, 1) := by decide +kernel
theorem dX3_takeLetter_5 : decode cX3_takeLetter 5 = .ok (.iaload, 1) := by decide +kernel
theorem dX3_takeLetter_6 : decode cX3_takeLetter 6 = .ok (.istore_n 2, 1) := by decide +kernel
theorem dX3_takeLetter_7 : decode cX3_takeLetter 7 = .ok (.iconst 0, 1) := by decide +kernel
theorem dX3_takeLetter_8 : decode cX3_takeLetter 8 = .ok (.istore_n 3, 1) := by decide +kernel
theorem dX3_takeLetter_9 : decode cX3_takeLetter 9 = .ok (.iload_n 1, 1) := by decide +kernel
theorem dX3_takeLetter_10 : decode cX3_takeLetter 10 = .ok (.istore 4, 2) := by decide +kernel
theorem dX3_takeLetter_12 : decode cX3_takeLetter 12 = .ok (.iload 4, 2) := by decide +kernel
theorem dX3_takeLetter_14 : decode cX3_takeLetter 14 = .ok (.iconst 4, 1) := by decide +kernel
theorem dX3_takeLetter_15 : decode cX3_takeLetter 15 = .ok (.if_icmp .ge 38, 3) := by decide +kernel
theorem dX3_takeLetter_18 : decode cX3_takeLetter 18 = .ok (.aload_n 0, 1) := by decide +kernel
theorem dX3_takeLetter_19 : decode cX3_takeLetter 19 = .ok (.getfield 41, 3) := by decide +kernel
theorem dX3_takeLetter_22 : decode cX3_takeLetter 22 = .ok (.iload 4, 2) := by decide +kernel
theorem dX3_takeLetter_24 : decode cX3_takeLetter 24 = .ok (.iaload, 1) := by decide +kernel
theorem dX3_takeLetter_25 : decode cX3_takeLetter 25 = .ok (.iload_n 2, 1) := by decide +kernel
theorem dX3_takeLetter_26 : decode cX3_takeLetter 26 = .ok (.if_icmp .ne 21, 3) := by decide +kernel
theorem dX3_takeLetter_29 : decode cX3_takeLetter 29 = .ok (.iload_n 3, 1) := by decide +kernel
theorem dX3_takeLetter_30 : decode cX3_takeLetter 30 = .ok (.aload_n 0, 1) := by decide +kernel
theorem dX3_takeLetter_31 : decode cX3_takeLetter 31 = .ok (.getfield 38, 3) := by decide +kernel
theorem dX3_takeLetter_34 : decode cX3_takeLetter 34 = .ok (.iload 4, 2) := by decide +kernel
theorem dX3_takeLetter_36 : decode cX3_takeLetter 36 = .ok (.iaload, 1) := by decide +kernel
theorem dX3_takeLetter_37 : decode cX3_takeLetter 37 = .ok (.iadd, 1) := by decide +kernel
theorem dX3_takeLetter_38 : decode cX3_takeLetter 38 = .ok (.istore_n 3, 1) := by decide +kernel
theorem dX3_takeLetter_39 : decode cX3_takeLetter 39 = .ok (.aload_n 0, 1) := by decide +kernel
theorem dX3_takeLetter_40 : decode cX3_takeLetter 40 = .ok (.getfield 41, 3) := by decide +kernel
theorem dX3_takeLetter_43 : decode cX3_takeLetter 43 = .ok (.iload 4, 2) := by decide +kernel
theorem dX3_takeLetter_45 : decode cX3_takeLetter 45 = .ok (.iconst (-1), 1) := by decide +kernel
theorem dX3_takeLetter_46 : decode cX3_takeLetter 46 = .ok (.iastore, 1) := by decide +kernel
theorem dX3_takeLetter_47 : decode cX3_takeLetter 47 = .ok (.iinc 4 1, 3) := by decide +kernel
theorem dX3_takeLetter_50 : decode cX3_takeLetter 50 = .ok (.goto (-38), 3) := by decide +kernel
theorem dX3_takeLetter_53 : decode cX3_takeLetter 53 = .ok (.iload_n 3, 1) := by decide +kernel
theorem dX3_takeLetter_54 : decode cX3_takeLetter 54 = .ok (.ireturn, 1) := by decide +kernel
theorem dX3_trace_0 : decode cX3_trace 0 = .ok (.aload_n 0, 1) := by decide +kernel
theorem dX3_trace_1 : decode cX3_trace 1 = .ok (.getfield 14, 3) := by decide +kernel
theorem dX3_trace_4 : decode cX3_trace 4 = .ok (.iconst 0, 1) := by decide +kernel
theorem dX3_trace_5 : decode cX3_trace 5 = .ok (.putfield 54, 3) := by decide +kernel
theorem dX3_trace_8 : decode cX3_trace 8 = .ok (.aload_n 0, 1) := by decide +kernel
theorem dX3_trace_9 : decode cX3_trace 9 = .ok (.getfield 34, 3) := by decide +kernel
theorem dX3_trace_12 : decode cX3_trace 12 = .ok (.iconst 0, 1) := by decide +kernel
theorem dX3_trace_13 : decode cX3_trace 13 = .ok (.invokestatic 73, 3) := by decide +kernel
theorem dX3_trace_16 : decode cX3_trace 16 = .ok (.iconst 0, 1) := by decide +kernel
theorem dX3_trace_17 : decode cX3_trace 17 = .ok (.istore_n 1, 1) := by decide +kernel
theorem dX3_trace_18 : decode cX3_trace 18 = .ok (.aload_n 0, 1) := by decide +kernel
theorem dX3_trace_19 : decode cX3_trace 19 = .ok (.getfield 44, 3) := by decide +kernel
theorem dX3_trace_22 : decode cX3_trace 22 = .ok (.iconst 0, 1) := by decide +kernel
theorem dX3_trace_23 : decode cX3_trace 23 = .ok (.iaload, 1) := by decide +kernel
theorem dX3_trace_24 : decode cX3_trace 24 = .ok (.istore_n 2, 1) := by decide +kernel
theorem dX3_trace_25 : decode cX3_trace 25 = .ok (.iload_n 2, 1) := by decide +kernel
theorem dX3_trace_26 : decode cX3_trace 26 = .ok (.ifCond .le 103, 3) := by decide +kernel
theorem dX3_trace_29 : decode cX3_trace 29 = .ok (.aload_n 0, 1) := by decide +kernel
theorem dX3_trace_30 : decode cX3_trace 30 = .ok (.invokevirtual 63, 3) := by decide +kernel
theorem dX3_trace_33 : decode cX3_trace 33 = .ok (.bipush 26, 2) := by decide +kernel
theorem dX3_trace_35 : decode cX3_trace 35 = .ok (.istore_n 3, 1) := by decide +kernel
theorem dX3_trace_36 : decode cX3_trace 36 = .ok (.iconst 0, 1) := by decide +kernel
theorem dX3_trace_37 : decode cX3_trace 37 = .ok (.istore 4, 2) := by decide +kernel
theorem dX3_trace_39 : decode cX3_trace 39 = .ok (.iconst 0, 1) := by decide +kernel
theorem dX3_trace_40 : decode cX3_trace 40 = .ok (.istore 5, 2) := by decide +kernel
theorem dX3_trace_42 : decode cX3_trace 42 = .ok (.iload 5, 2) := by decide +kernel
theorem dX3_trace_44 : decode cX3_trace 44 = .ok (.iconst 4, 1) := by decide +kernel
theorem dX3_trace_45 : decode cX3_trace 45 = .ok (.if_icmp .ge 60, 3) := by decide +kernel
theorem dX3_trace_48 : decode cX3_trace 48 = .ok (.aload_n 0, 1) := by decide +kernel
theorem dX3_trace_49 : decode cX3_trace 49 = .ok (.getfield 41, 3) := by decide +kernel
theorem dX3_trace_52 : decode cX3_trace 52 = .ok (.iload 5, 2) := by decide +kernel
theorem dX3_trace_54 : decode cX3_trace 54 = .ok (.iaload, 1) := by decide +kernel
theorem dX3_trace_55 : decode cX3_trace 55 = .ok (.istore 6, 2) := by decide +kernel
theorem dX3_trace_57 : decode cX3_trace 57 = .ok (.iload 6, 2) := by decide +kernel
theorem dX3_trace_59 : decode cX3_trace 59 = .ok (.iconst (-1), 1) := by decide +kernel
theorem dX3_trace_60 : decode cX3_trace 60 = .ok (.if_icmp .eq 39, 3) := by decide +kernel
theorem dX3_trace_63 : decode cX3_trace 63 = .ok (.aload_n 0, 1) := by decide +kernel
theorem dX3_trace_64 : decode cX3_trace 64 = .ok (.iload 5, 2) := by decide +kernel
theorem dX3_trace_66 : decode cX3_trace 66 = .ok (.invokevirtual 66, 3) := by decide +kernel
theorem dX3_trace_69 : decode cX3_trace 69 = .ok (.istore 7, 2) := by decide +kernel
theorem dX3_trace_71 : decode cX3_trace 71 = .ok (.iload 6, 2) := by decide +kernel
theorem dX3_trace_73 : decode cX3_trace 73 = .ok (.iload_n 3, 1) := by decide +kernel
theorem dX3_trace_74 : decode cX3_trace 74 = .ok (.if_icmp .ge 25, 3) := by decide +kernel
theorem dX3_trace_77 : decode cX3_trace 77 = .ok (.aload_n 0, 1) := by decide +kernel
theorem dX3_trace_78 : decode cX3_trace 78 = .ok (.getfield 44, 3) := by decide +kernel
theorem dX3_trace_81 : decode cX3_trace 81 = .ok (.iload_n 1, 1) := by decide +kernel
theorem dX3_trace_82 : decode cX3_trace 82 = .ok (.iload 7, 2) := by decide +kernel
theorem dX3_trace_84 : decode cX3_trace 84 = .ok (.iadd, 1) := by decide +kernel
theorem dX3_trace_85 : decode cX3_trace 85 = .ok (.iaload, 1) := by decide +kernel
theorem dX3_trace_86 : decode cX3_trace 86 = .ok (.iload_n 2, 1) := by decide +kernel
theorem dX3_trace_87 : decode cX3_trace 87 = .ok (.iconst 1, 1) := by decide +kernel
theorem dX3_trace_88 : decode cX3_trace 88 = .ok (.isub, 1) := by decide +kernel
theorem dX3_trace_89 : decode cX3_trace 89 = .ok (.if_icmp .ne 10, 3) := by decide +kernel
theorem dX3_trace_92 : decode cX3_trace 92 = .ok (.iload 6, 2) := by decide +kernel
theorem dX3_trace_94 : decode cX3_trace 94 = .ok (.istore_n 3, 1) := by decide +kernel
theorem dX3_trace_95 : decode cX3_trace 95 = .ok (.iload 7, 2) := by decide +kernel
theorem dX3_trace_97 : decode cX3_trace 97 = .ok (.istore 4, 2) := by decide +kernel
theorem dX3_trace_99 : decode cX3_trace 99 = .ok (.iinc 5 1, 3) := by decide +kernel
theorem dX3_trace_102 : decode cX3_trace 102 = .ok (.goto (-60), 3) := by decide +kernel
theorem dX3_trace_105 : decode cX3_trace 105 = .ok (.aload_n 0, 1) := by decide +kernel
theorem dX3_trace_106 : decode cX3_trace 106 = .ok (.getfield 14, 3) := by decide +kernel
theorem dX3_trace_109 : decode cX3_trace 109 = .ok (.iload_n 3, 1) := by decide +kernel
theorem dX3_trace_110 : decode cX3_trace 110 = .ok (.invokevirtual 79, 3) := by decide +kernel
theorem dX3_trace_113 : decode cX3_trace 113 = .ok (.iload_n 1, 1) := by decide +kernel
theorem dX3_trace_114 : decode cX3_trace 114 = .ok (.iload 4, 2) := by decide +kernel
theorem dX3_trace_116 : decode cX3_trace 116 = .ok (.iadd, 1) := by decide +kernel
theorem dX3_trace_117 : decode cX3_trace 117 = .ok (.istore_n 1, 1) := by decide +kernel
theorem dX3_trace_118 : decode cX3_trace 118 = .ok (.aload_n 0, 1) := by decide +kernel
theorem dX3_trace_119 : decode cX3_trace 119 = .ok (.iload_n 3, 1) := by decide +kernel
theorem dX3_trace_120 : decode cX3_trace 120 = .ok (.invokevirtual 82, 3) := by decide +kernel
theorem dX3_trace_123 : decode cX3_trace 123 = .ok (.iinc 2 (-1), 3) := by decide +kernel
theorem dX3_trace_126 : decode cX3_trace 126 = .ok (.goto (-101), 3) := by decide +kernel
theorem dX3_trace_129 : decode cX3_trace 129 = .ok (.return_, 1) := by decide +kernel
theorem dX4_evenChoices_0 : decode cX4_evenChoices 0 = .ok (.aload_n 0, 1) := by decide +kernel
theorem dX4_evenChoices_1 : decode cX4_evenChoices 1 = .ok (.getfield 15, 3) := by decide +kernel
theorem dX4_evenChoices_4 : decode cX4_evenChoices 4 = .ok (.lconst 0, 1) := by decide +kernel
theorem dX4_evenChoices_5 : decode cX4_evenChoices 5 = .ok (.invokestatic 47, 3) := by decide +kernel
theorem dX4_evenChoices_8 : decode cX4_evenChoices 8 = .ok (.aload_n 0, 1) := by decide +kernel
theorem dX4_evenChoices_9 : decode cX4_evenChoices 9 = .ok (.getfield 15, 3) := by decide +kernel
theorem dX4_evenChoices_12 : decode cX4_evenChoices 12 = .ok (.iconst 0, 1) := by decide +kernel
theorem dX4_evenChoices_13 : decode cX4_evenChoices 13 = .ok (.lconst 1, 1) := by decide +kernel
theorem dX4_evenChoices_14 : decode cX4_evenChoices 14 = .ok (.lastore, 1) := by decide +kernel
theorem dX4_evenChoices_15 : decode cX4_evenChoices 15 = .ok (.iconst 0, 1) := by decide +kernel
theorem dX4_evenChoices_16 : decode cX4_evenChoices 16 = .ok (.istore 4, 2) := by decide +kernel
theorem dX4_evenChoices_18 : decode cX4_evenChoices 18 = .ok (.iload 4, 2) := by decide +kernel
theorem dX4_evenChoices_20 : decode cX4_evenChoices 20 = .ok (.aload_n 2, 1) := by decide +kernel
theorem dX4_evenChoices_21 : decode cX4_evenChoices 21 = .ok (.getfield 26, 3) := by decide +kernel
theorem dX4_evenChoices_24 : decode cX4_evenChoices 24 = .ok (.if_icmp .ge 72, 3) := by decide +kernel
theorem dX4_evenChoices_27 : decode cX4_evenChoices 27 = .ok (.aload_n 1, 1) := by decide +kernel
theorem dX4_evenChoices_28 : decode cX4_evenChoices 28 = .ok (.getfield 26, 3) := by decide +kernel
theorem dX4_evenChoices_31 : decode cX4_evenChoices 31 = .ok (.iconst 1, 1) := by decide +kernel
theorem dX4_evenChoices_32 : decode cX4_evenChoices 32 = .ok (.isub, 1) := by decide +kernel
theorem dX4_evenChoices_33 : decode cX4_evenChoices 33 = .ok (.istore 5, 2) := by decide +kernel
theorem dX4_evenChoices_35 : decode cX4_evenChoices 35 = .ok (.iload 5, 2) := by decide +kernel
theorem dX4_evenChoices_37 : decode cX4_evenChoices 37 = .ok (.ifCond .lt 46, 3) := by decide +kernel
theorem dX4_evenChoices_40 : decode cX4_evenChoices 40 = .ok (.aload_n 0, 1) := by decide +kernel
theorem dX4_evenChoices_41 : decode cX4_evenChoices 41 = .ok (.getfield 15, 3) := by decide +kernel
theorem dX4_evenChoices_44 : decode cX4_evenChoices 44 = .ok (.iload 5, 2) := by decide +kernel
theorem dX4_evenChoices_46 : decode cX4_evenChoices 46 = .ok (.iconst 1, 1) := by decide +kernel
theorem dX4_evenChoices_47 : decode cX4_evenChoices 47 = .ok (.iadd, 1) := by decide +kernel
theorem dX4_evenChoices_48 : decode cX4_evenChoices 48 = .ok (.aload_n 1, 1) := by decide +kernel
theorem dX4_evenChoices_49 : decode cX4_evenChoices 49 = .ok (.getfield 32, 3) := by decide +kernel
theorem dX4_evenChoices_52 : decode cX4_evenChoices 52 = .ok (.iload 5, 2) := by decide +kernel
theorem dX4_evenChoices_54 : decode cX4_evenChoices 54 = .ok (.iaload, 1) := by decide +kernel
theorem dX4_evenChoices_55 : decode cX4_evenChoices 55 = .ok (.aload_n 2, 1) := by decide +kernel
theorem dX4_evenChoices_56 : decode cX4_evenChoices 56 = .ok (.getfield 32, 3) := by decide +kernel
theorem dX4_evenChoices_59 : decode cX4_evenChoices 59 = .ok (.iload 4, 2) := by decide +kernel
theorem dX4_evenChoices_61 : decode cX4_evenChoices 61 = .ok (.iaload, 1) := by decide +kernel
theorem dX4_evenChoices_62 : decode cX4_evenChoices 62 = .ok (.if_icmp .ne 13, 3) := by decide +kernel
theorem dX4_evenChoices_65 : decode cX4_evenChoices 65 = .ok (.aload_n 0, 1) := by decide +kernel
theorem dX4_evenChoices_66 : decode cX4_evenChoices 66 = .ok (.iload 5, 2) := by decide +kernel
theorem dX4_evenChoices_68 : decode cX4_evenChoices 68 = .ok (.iload_n 3, 1) := by decide +kernel
theorem dX4_evenChoices_69 : decode cX4_evenChoices 69 = .ok (.invokevirtual 50, 3) := by decide +kernel
theorem dX4_evenChoices_72 : decode cX4_evenChoices 72 = .ok (.goto 4, 3) := by decide +kernel
theorem dX4_evenChoices_75 : decode cX4_evenChoices 75 = .ok (.lconst 0, 1) := by decide +kernel
theorem dX4_evenChoices_76 : decode cX4_evenChoices 76 = .ok (.lastore, 1) := by decide +kernel
theorem dX4_evenChoices_77 : decode cX4_evenChoices 77 = .ok (.iinc 5 (-1), 3) := by decide +kernel
theorem dX4_evenChoices_80 : decode cX4_evenChoices 80 = .ok (.goto (-45), 3) := by decide +kernel
theorem dX4_evenChoices_83 : decode cX4_evenChoices 83 = .ok (.aload_n 0, 1) := by decide +kernel
theorem dX4_evenChoices_84 : decode cX4_evenChoices 84 = .ok (.getfield 15, 3) := by decide +kernel
theorem dX4_evenChoices_87 : decode cX4_evenChoices 87 = .ok (.iconst 0, 1) := by decide +kernel
theorem dX4_evenChoices_88 : decode cX4_evenChoices 88 = .ok (.lconst 0, 1) := by decide +kernel
theorem dX4_evenChoices_89 : decode cX4_evenChoices 89 = .ok (.lastore, 1) := by decide +kernel
theorem dX4_evenChoices_90 : decode cX4_evenChoices 90 = .ok (.iinc 4 1, 3) := by decide +kernel
theorem dX4_evenChoices_93 : decode cX4_evenChoices 93 = .ok (.goto (-75), 3) := by decide +kernel
theorem dX4_evenChoices_96 : decode cX4_evenChoices 96 = .ok (.aload_n 0, 1) := by decide +kernel
theorem dX4_evenChoices_97 : decode cX4_evenChoices 97 = .ok (.aload_n 1, 1) := by decide +kernel
theorem dX4_evenChoices_98 : decode cX4_evenChoices 98 = .ok (.getfield 26, 3) := by decide +kernel
theorem dX4_evenChoices_101 : decode cX4_evenChoices 101 = .ok (.iload_n 3, 1) := by decide +kernel
theorem dX4_evenChoices_102 : decode cX4_evenChoices 102 = .ok (.invokevirtual 50, 3) := by decide +kernel
theorem dX4_evenChoices_105 : decode cX4_evenChoices 105 = .ok (.lreturn, 1) := by decide +kernel
theorem dX4_fewestStrokes_0 : decode cX4_fewestStrokes 0 = .ok (.aload_n 0, 1) := by decide +kernel
theorem dX4_fewestStrokes_1 : decode cX4_fewestStrokes 1 = .ok (.getfield 9, 3) := by decide +kernel
theorem dX4_fewestStrokes_4 : decode cX4_fewestStrokes 4 = .ok (.ldc 19, 2) := by decide +kernel
theorem dX4_fewestStrokes_6 : decode cX4_fewestStrokes 6 = .ok (.invokestatic 20, 3) := by decide +kernel
theorem dX4_fewestStrokes_9 : decode cX4_fewestStrokes 9 = .ok (.aload_n 0, 1) := by decide +kernel
theorem dX4_fewestStrokes_10 : decode cX4_fewestStrokes 10 = .ok (.getfield 9, 3) := by decide +kernel
theorem dX4_fewestStrokes_13 : decode cX4_fewestStrokes 13 = .ok (.iconst 0, 1) := by decide +kernel
theorem dX4_fewestStrokes_14 : decode cX4_fewestStrokes 14 = .ok (.iconst 0, 1) := by decide +kernel
theorem dX4_fewestStrokes_15 : decode cX4_fewestStrokes 15 = .ok (.iastore, 1) := by decide +kernel
theorem dX4_fewestStrokes_16 : decode cX4_fewestStrokes 16 = .ok (.iconst 0, 1) := by decide +kernel
theorem dX4_fewestStrokes_17 : decode cX4_fewestStrokes 17 = .ok (.istore 4, 2) := by decide +kernel
theorem dX4_fewestStrokes_19 : decode cX4_fewestStrokes 19 = .ok (.iload 4, 2) := by decide +kernel
theorem dX4_fewestStrokes_21 : decode cX4_fewestStrokes 21 = .ok (.aload_n 2, 1) := by decide +kernel
theorem dX4_fewestStrokes_22 : decode cX4_fewestStrokes 22 = .ok (.getfield 26, 3) := by decide +kernel
theorem dX4_fewestStrokes_25 : decode cX4_fewestStrokes 25 = .ok (.if_icmp .ge 74, 3) := by decide +kernel
theorem dX4_fewestStrokes_28 : decode cX4_fewestStrokes 28 = .ok (.aload_n 1, 1) := by decide +kernel
theorem dX4_fewestStrokes_29 : decode cX4_fewestStrokes 29 = .ok (.getfield 26, 3) := by decide +kernel
theorem dX4_fewestStrokes_32 : decode cX4_fewestStrokes 32 = .ok (.iconst 1, 1) := by decide +kernel
theorem dX4_fewestStrokes_33 : decode cX4_fewestStrokes 33 = .ok (.isub, 1) := by decide +kernel
theorem dX4_fewestStrokes_34 : decode cX4_fewestStrokes 34 = .ok (.istore 5, 2) := by decide +kernel
theorem dX4_fewestStrokes_36 : decode cX4_fewestStrokes 36 = .ok (.iload 5, 2) := by decide +kernel
theorem dX4_fewestStrokes_38 : decode cX4_fewestStrokes 38 = .ok (.ifCond .lt 47, 3) := by decide +kernel
theorem dX4_fewestStrokes_41 : decode cX4_fewestStrokes 41 = .ok (.aload_n 0, 1) := by decide +kernel
theorem dX4_fewestStrokes_42 : decode cX4_fewestStrokes 42 = .ok (.getfield 9, 3) := by decide +kernel
theorem dX4_fewestStrokes_45 : decode cX4_fewestStrokes 45 = .ok (.iload 5, 2) := by decide +kernel
theorem dX4_fewestStrokes_47 : decode cX4_fewestStrokes 47 = .ok (.iconst 1, 1) := by decide +kernel
theorem dX4_fewestStrokes_48 : decode cX4_fewestStrokes 48 = .ok (.iadd, 1) := by decide +kernel
theorem dX4_fewestStrokes_49 : decode cX4_fewestStrokes 49 = .ok (.aload_n 1, 1) := by decide +kernel
theorem dX4_fewestStrokes_50 : decode cX4_fewestStrokes 50 = .ok (.getfield 32, 3) := by decide +kernel
theorem dX4_fewestStrokes_53 : decode cX4_fewestStrokes 53 = .ok (.iload 5, 2) := by decide +kernel
theorem dX4_fewestStrokes_55 : decode cX4_fewestStrokes 55 = .ok (.iaload, 1) := by decide +kernel
theorem dX4_fewestStrokes_56 : decode cX4_fewestStrokes 56 = .ok (.aload_n 2, 1) := by decide +kernel
theorem dX4_fewestStrokes_57 : decode cX4_fewestStrokes 57 = .ok (.getfield 32, 3) := by decide +kernel
theorem dX4_fewestStrokes_60 : decode cX4_fewestStrokes 60 = .ok (.iload 4, 2) := by decide +kernel
theorem dX4_fewestStrokes_62 : decode cX4_fewestStrokes 62 = .ok (.iaload, 1) := by decide +kernel
theorem dX4_fewestStrokes_63 : decode cX4_fewestStrokes 63 = .ok (.if_icmp .ne 13, 3) := by decide +kernel
theorem dX4_fewestStrokes_66 : decode cX4_fewestStrokes 66 = .ok (.aload_n 0, 1) := by decide +kernel
theorem dX4_fewestStrokes_67 : decode cX4_fewestStrokes 67 = .ok (.iload 5, 2) := by decide +kernel
theorem dX4_fewestStrokes_69 : decode cX4_fewestStrokes 69 = .ok (.iload_n 3, 1) := by decide +kernel
theorem dX4_fewestStrokes_70 : decode cX4_fewestStrokes 70 = .ok (.invokevirtual 35, 3) := by decide +kernel
theorem dX4_fewestStrokes_73 : decode cX4_fewestStrokes 73 = .ok (.goto 5, 3) := by decide +kernel
theorem dX4_fewestStrokes_76 : decode cX4_fewestStrokes 76 = .ok (.ldc 19, 2) := by decide +kernel
theorem dX4_fewestStrokes_78 : decode cX4_fewestStrokes 78 = .ok (.iastore, 1) := by decide +kernel
theorem dX4_fewestStrokes_79 : decode cX4_fewestStrokes 79 = .ok (.iinc 5 (-1), 3) := by decide +kernel
theorem dX4_fewestStrokes_82 : decode cX4_fewestStrokes 82 = .ok (.goto (-46), 3) := by decide +kernel
theorem dX4_fewestStrokes_85 : decode cX4_fewestStrokes 85 = .ok (.aload_n 0, 1) := by decide +kernel
theorem dX4_fewestStrokes_86 : decode cX4_fewestStrokes 86 = .ok (.getfield 9, 3) := by decide +kernel
theorem dX4_fewestStrokes_89 : decode cX4_fewestStrokes 89 = .ok (.iconst 0, 1) := by decide +kernel
theorem dX4_fewestStrokes_90 : decode cX4_fewestStrokes 90 = .ok (.ldc 19, 2) := by decide +kernel
theorem dX4_fewestStrokes_92 : decode cX4_fewestStrokes 92 = .ok (.iastore, 1) := by decide +kernel
theorem dX4_fewestStrokes_93 : decode cX4_fewestStrokes 93 = .ok (.iinc 4 1, 3) := by decide +kernel
theorem dX4_fewestStrokes_96 : decode cX4_fewestStrokes 96 = .ok (.goto (-77), 3) := by decide +kernel
theorem dX4_fewestStrokes_99 : decode cX4_fewestStrokes 99 = .ok (.aload_n 0, 1) := by decide +kernel
theorem dX4_fewestStrokes_100 : decode cX4_fewestStrokes 100 = .ok (.aload_n 1, 1) := by decide +kernel
theorem dX4_fewestStrokes_101 : decode cX4_fewestStrokes 101 = .ok (.getfield 26, 3) := by decide +kernel
theorem dX4_fewestStrokes_104 : decode cX4_fewestStrokes 104 = .ok (.iload_n 3, 1) := by decide +kernel
theorem dX4_fewestStrokes_105 : decode cX4_fewestStrokes 105 = .ok (.invokevirtual 35, 3) := by decide +kernel
theorem dX4_fewestStrokes_108 : decode cX4_fewestStrokes 108 = .ok (.ireturn, 1) := by decide +kernel
theorem dX4_fewestTo_0 : decode cX4_fewestTo 0 = .ok (.ldc 19, 2) := by decide +kernel
theorem dX4_fewestTo_2 : decode cX4_fewestTo 2 = .ok (.istore_n 3, 1) := by decide +kernel
theorem dX4_fewestTo_3 : decode cX4_fewestTo 3 = .ok (.iconst 0, 1) := by decide +kernel
theorem dX4_fewestTo_4 : decode cX4_fewestTo 4 = .ok (.istore 4, 2) := by decide +kernel
theorem dX4_fewestTo_6 : decode cX4_fewestTo 6 = .ok (.iload 4, 2) := by decide +kernel
theorem dX4_fewestTo_8 : decode cX4_fewestTo 8 = .ok (.iload_n 1, 1) := by decide +kernel
theorem dX4_fewestTo_9 : decode cX4_fewestTo 9 = .ok (.if_icmp .gt 42, 3) := by decide +kernel
theorem dX4_fewestTo_12 : decode cX4_fewestTo 12 = .ok (.aload_n 0, 1) := by decide +kernel
theorem dX4_fewestTo_13 : decode cX4_fewestTo 13 = .ok (.getfield 9, 3) := by decide +kernel
theorem dX4_fewestTo_16 : decode cX4_fewestTo 16 = .ok (.iload 4, 2) := by decide +kernel
theorem dX4_fewestTo_18 : decode cX4_fewestTo 18 = .ok (.iaload, 1) := by decide +kernel
theorem dX4_fewestTo_19 : decode cX4_fewestTo 19 = .ok (.ldc 19, 2) := by decide +kernel
theorem dX4_fewestTo_21 : decode cX4_fewestTo 21 = .ok (.if_icmp .ge 24, 3) := by decide +kernel
theorem dX4_fewestTo_24 : decode cX4_fewestTo 24 = .ok (.iload_n 3, 1) := by decide +kernel
theorem dX4_fewestTo_25 : decode cX4_fewestTo 25 = .ok (.aload_n 0, 1) := by decide +kernel
theorem dX4_fewestTo_26 : decode cX4_fewestTo 26 = .ok (.getfield 9, 3) := by decide +kernel
theorem dX4_fewestTo_29 : decode cX4_fewestTo 29 = .ok (.iload 4, 2) := by decide +kernel
theorem dX4_fewestTo_31 : decode cX4_fewestTo 31 = .ok (.iaload, 1) := by decide +kernel
theorem dX4_fewestTo_32 : decode cX4_fewestTo 32 = .ok (.iload_n 1, 1) := by decide +kernel
theorem dX4_fewestTo_33 : decode cX4_fewestTo 33 = .ok (.iload 4, 2) := by decide +kernel
theorem dX4_fewestTo_35 : decode cX4_fewestTo 35 = .ok (.isub, 1) := by decide +kernel
theorem dX4_fewestTo_36 : decode cX4_fewestTo 36 = .ok (.iload_n 2, 1) := by decide +kernel
theorem dX4_fewestTo_37 : decode cX4_fewestTo 37 = .ok (.invokestatic 39, 3) := by decide +kernel
theorem dX4_fewestTo_40 : decode cX4_fewestTo 40 = .ok (.iadd, 1) := by decide +kernel
theorem dX4_fewestTo_41 : decode cX4_fewestTo 41 = .ok (.invokestatic 42, 3) := by decide +kernel
theorem dX4_fewestTo_44 : decode cX4_fewestTo 44 = .ok (.istore_n 3, 1) := by decide +kernel
theorem dX4_fewestTo_45 : decode cX4_fewestTo 45 = .ok (.iinc 4 1, 3) := by decide +kernel
theorem dX4_fewestTo_48 : decode cX4_fewestTo 48 = .ok (.goto (-42), 3) := by decide +kernel
theorem dX4_fewestTo_51 : decode cX4_fewestTo 51 = .ok (.iload_n 3, 1) := by decide +kernel
theorem dX4_fewestTo_52 : decode cX4_fewestTo 52 = .ok (.ireturn, 1) := by decide +kernel
theorem dX4_init_0 : decode cX4_init 0 = .ok (.aload_n 0, 1) := by decide +kernel
theorem dX4_init_1 : decode cX4_init 1 = .ok (.invokespecial 3, 3) := by decide +kernel
theorem dX4_init_4 : decode cX4_init 4 = .ok (.aload_n 0, 1) := by decide +kernel
theorem dX4_init_5 : decode cX4_init 5 = .ok (.bipush 41, 2) := by decide +kernel
theorem dX4_init_7 : decode cX4_init 7 = .ok (.newarray .int, 2) := by decide +kernel
theorem dX4_init_9 : decode cX4_init 9 = .ok (.putfield 9, 3) := by decide +kernel
theorem dX4_init_12 : decode cX4_init 12 = .ok (.aload_n 0, 1) := by decide +kernel
theorem dX4_init_13 : decode cX4_init 13 = .ok (.bipush 41, 2) := by decide +kernel
theorem dX4_init_15 : decode cX4_init 15 = .ok (.newarray .long, 2) := by decide +kernel
theorem dX4_init_17 : decode cX4_init 17 = .ok (.putfield 15, 3) := by decide +kernel
theorem dX4_init_20 : decode cX4_init 20 = .ok (.return_, 1) := by decide +kernel
theorem dX4_manyTo_0 : decode cX4_manyTo 0 = .ok (.lconst 0, 1) := by decide +kernel
theorem dX4_manyTo_1 : decode cX4_manyTo 1 = .ok (.lstore_n 3, 1) := by decide +kernel
theorem dX4_manyTo_2 : decode cX4_manyTo 2 = .ok (.iload_n 2, 1) := by decide +kernel
theorem dX4_manyTo_3 : decode cX4_manyTo 3 = .ok (.iconst 1, 1) := by decide +kernel
theorem dX4_manyTo_4 : decode cX4_manyTo 4 = .ok (.invokestatic 54, 3) := by decide +kernel
theorem dX4_manyTo_7 : decode cX4_manyTo 7 = .ok (.istore 5, 2) := by decide +kernel
theorem dX4_manyTo_9 : decode cX4_manyTo 9 = .ok (.iload_n 1, 1) := by decide +kernel
theorem dX4_manyTo_10 : decode cX4_manyTo 10 = .ok (.istore 6, 2) := by decide +kernel
theorem dX4_manyTo_12 : decode cX4_manyTo 12 = .ok (.iload 6, 2) := by decide +kernel
theorem dX4_manyTo_14 : decode cX4_manyTo 14 = .ok (.ifCond .lt 23, 3) := by decide +kernel
theorem dX4_manyTo_17 : decode cX4_manyTo 17 = .ok (.lload_n 3, 1) := by decide +kernel
theorem dX4_manyTo_18 : decode cX4_manyTo 18 = .ok (.aload_n 0, 1) := by decide +kernel
theorem dX4_manyTo_19 : decode cX4_manyTo 19 = .ok (.getfield 15, 3) := by decide +kernel
theorem dX4_manyTo_22 : decode cX4_manyTo 22 = .ok (.iload 6, 2) := by decide +kernel
theorem dX4_manyTo_24 : decode cX4_manyTo 24 = .ok (.laload, 1) := by decide +kernel
theorem dX4_manyTo_25 : decode cX4_manyTo 25 = .ok (.ladd, 1) := by decide +kernel
theorem dX4_manyTo_26 : decode cX4_manyTo 26 = .ok (.lstore_n 3, 1) := by decide +kernel
theorem dX4_manyTo_27 : decode cX4_manyTo 27 = .ok (.iload 6, 2) := by decide +kernel
theorem dX4_manyTo_29 : decode cX4_manyTo 29 = .ok (.iload 5, 2) := by decide +kernel
theorem dX4_manyTo_31 : decode cX4_manyTo 31 = .ok (.isub, 1) := by decide +kernel
theorem dX4_manyTo_32 : decode cX4_manyTo 32 = .ok (.istore 6, 2) := by decide +kernel
theorem dX4_manyTo_34 : decode cX4_manyTo 34 = .ok (.goto (-22), 3) := by decide +kernel
theorem dX4_manyTo_37 : decode cX4_manyTo 37 = .ok (.lload_n 3, 1) := by decide +kernel
theorem dX4_manyTo_38 : decode cX4_manyTo 38 = .ok (.lreturn, 1) := by decide +kernel
theorem dX4_strokesFor_0 : decode cX4_strokesFor 0 = .ok (.iload_n 1, 1) := by decide +kernel
theorem dX4_strokesFor_1 : decode cX4_strokesFor 1 = .ok (.iconst 1, 1) := by decide +kernel
theorem dX4_strokesFor_2 : decode cX4_strokesFor 2 = .ok (.if_icmp .ge 8, 3) := by decide +kernel
theorem dX4_strokesFor_5 : decode cX4_strokesFor 5 = .ok (.ldc 19, 2) := by decide +kernel
theorem dX4_strokesFor_7 : decode cX4_strokesFor 7 = .ok (.goto 10, 3) := by decide +kernel
theorem dX4_strokesFor_10 : decode cX4_strokesFor 10 = .ok (.iload_n 0, 1) := by decide +kernel
theorem dX4_strokesFor_11 : decode cX4_strokesFor 11 = .ok (.iload_n 1, 1) := by decide +kernel
theorem dX4_strokesFor_12 : decode cX4_strokesFor 12 = .ok (.iadd, 1) := by decide +kernel
theorem dX4_strokesFor_13 : decode cX4_strokesFor 13 = .ok (.iconst 1, 1) := by decide +kernel
theorem dX4_strokesFor_14 : decode cX4_strokesFor 14 = .ok (.isub, 1) := by decide +kernel
theorem dX4_strokesFor_15 : decode cX4_strokesFor 15 = .ok (.iload_n 1, 1) := by decide +kernel
theorem dX4_strokesFor_16 : decode cX4_strokesFor 16 = .ok (.idiv, 1) := by decide +kernel
theorem dX4_strokesFor_17 : decode cX4_strokesFor 17 = .ok (.ireturn, 1) := by decide +kernel
theorem dX5_cell_0 : decode cX5_cell 0 = .ok (.iload_n 0, 1) := by decide +kernel
theorem dX5_cell_1 : decode cX5_cell 1 = .ok (.bipush 17, 2) := by decide +kernel
theorem dX5_cell_3 : decode cX5_cell 3 = .ok (.imul, 1) := by decide +kernel
theorem dX5_cell_4 : decode cX5_cell 4 = .ok (.iload_n 1, 1) := by decide +kernel
theorem dX5_cell_5 : decode cX5_cell 5 = .ok (.iadd, 1) := by decide +kernel
theorem dX5_cell_6 : decode cX5_cell 6 = .ok (.bipush 17, 2) := by decide +kernel
theorem dX5_cell_8 : decode cX5_cell 8 = .ok (.imul, 1) := by decide +kernel
theorem dX5_cell_9 : decode cX5_cell 9 = .ok (.iload_n 2, 1) := by decide +kernel
theorem dX5_cell_10 : decode cX5_cell 10 = .ok (.iadd, 1) := by decide +kernel
theorem dX5_cell_11 : decode cX5_cell 11 = .ok (.ireturn, 1) := by decide +kernel
theorem dX5_init_0 : decode cX5_init 0 = .ok (.aload_n 0, 1) := by decide +kernel
theorem dX5_init_1 : decode cX5_init 1 = .ok (.invokespecial 3, 3) := by decide +kernel
theorem dX5_init_4 : decode cX5_init 4 = .ok (.aload_n 0, 1) := by decide +kernel
theorem dX5_init_5 : decode cX5_init 5 = .ok (.new 9, 3) := by decide +kernel
theorem dX5_init_8 : decode cX5_init 8 = .ok (.dup, 1) := by decide +kernel
theorem dX5_init_9 : decode cX5_init 9 = .ok (.bipush 16, 2) := by decide +kernel
theorem dX5_init_11 : decode cX5_init 11 = .ok (.invokespecial 11, 3) := by decide +kernel
theorem dX5_init_14 : decode cX5_init 14 = .ok (.putfield 14, 3) := by decide +kernel
theorem dX5_init_17 : decode cX5_init 17 = .ok (.aload_n 0, 1) := by decide +kernel
theorem dX5_init_18 : decode cX5_init 18 = .ok (.iconst 0, 1) := by decide +kernel
