theorem dX11_cheapest_50 : decode cX11_cheapest 50 = .ok (.aload_n 0, 1) := by decide +kernel
theorem dX11_cheapest_51 : decode cX11_cheapest 51 = .ok (.getfield 18, 3) := by decide +kernel
theorem dX11_cheapest_54 : decode cX11_cheapest 54 = .ok (.iload_n 1, 1) := by decide +kernel
theorem dX11_cheapest_55 : decode cX11_cheapest 55 = .ok (.aaload, 1) := by decide +kernel
theorem dX11_cheapest_56 : decode cX11_cheapest 56 = .ok (.getfield 147, 3) := by decide +kernel
theorem dX11_cheapest_59 : decode cX11_cheapest 59 = .ok (.getfield 171, 3) := by decide +kernel
theorem dX11_cheapest_62 : decode cX11_cheapest 62 = .ok (.iload_n 3, 1) := by decide +kernel
theorem dX11_cheapest_63 : decode cX11_cheapest 63 = .ok (.invokevirtual 160, 3) := by decide +kernel
theorem dX11_cheapest_66 : decode cX11_cheapest 66 = .ok (.aload_n 0, 1) := by decide +kernel
theorem dX11_cheapest_67 : decode cX11_cheapest 67 = .ok (.getfield 73, 3) := by decide +kernel
theorem dX11_cheapest_70 : decode cX11_cheapest 70 = .ok (.aload_n 0, 1) := by decide +kernel
theorem dX11_cheapest_71 : decode cX11_cheapest 71 = .ok (.getfield 18, 3) := by decide +kernel
theorem dX11_cheapest_74 : decode cX11_cheapest 74 = .ok (.iload_n 1, 1) := by decide +kernel
theorem dX11_cheapest_75 : decode cX11_cheapest 75 = .ok (.aaload, 1) := by decide +kernel
theorem dX11_cheapest_76 : decode cX11_cheapest 76 = .ok (.getfield 147, 3) := by decide +kernel
theorem dX11_cheapest_79 : decode cX11_cheapest 79 = .ok (.aload_n 0, 1) := by decide +kernel
theorem dX11_cheapest_80 : decode cX11_cheapest 80 = .ok (.getfield 29, 3) := by decide +kernel
theorem dX11_cheapest_83 : decode cX11_cheapest 83 = .ok (.iload_n 2, 1) := by decide +kernel
theorem dX11_cheapest_84 : decode cX11_cheapest 84 = .ok (.aaload, 1) := by decide +kernel
theorem dX11_cheapest_85 : decode cX11_cheapest 85 = .ok (.invokevirtual 209, 3) := by decide +kernel
theorem dX11_cheapest_88 : decode cX11_cheapest 88 = .ok (.istore 5, 2) := by decide +kernel
theorem dX11_cheapest_90 : decode cX11_cheapest 90 = .ok (.iload 5, 2) := by decide +kernel
theorem dX11_cheapest_92 : decode cX11_cheapest 92 = .ok (.iconst (-1), 1) := by decide +kernel
theorem dX11_cheapest_93 : decode cX11_cheapest 93 = .ok (.if_icmp .ne 6, 3) := by decide +kernel
theorem dX11_cheapest_96 : decode cX11_cheapest 96 = .ok (.bipush (-2), 2) := by decide +kernel
theorem dX11_cheapest_98 : decode cX11_cheapest 98 = .ok (.ireturn, 1) := by decide +kernel
theorem dX11_cheapest_99 : decode cX11_cheapest 99 = .ok (.iload 4, 2) := by decide +kernel
theorem dX11_cheapest_101 : decode cX11_cheapest 101 = .ok (.iconst (-1), 1) := by decide +kernel
theorem dX11_cheapest_102 : decode cX11_cheapest 102 = .ok (.if_icmp .ne 8, 3) := by decide +kernel
theorem dX11_cheapest_105 : decode cX11_cheapest 105 = .ok (.iload 5, 2) := by decide +kernel
theorem dX11_cheapest_107 : decode cX11_cheapest 107 = .ok (.goto 13, 3) := by decide +kernel
theorem dX11_cheapest_110 : decode cX11_cheapest 110 = .ok (.aload_n 0, 1) := by decide +kernel
theorem dX11_cheapest_111 : decode cX11_cheapest 111 = .ok (.getfield 73, 3) := by decide +kernel
theorem dX11_cheapest_114 : decode cX11_cheapest 114 = .ok (.getfield 213, 3) := by decide +kernel
theorem dX11_cheapest_117 : decode cX11_cheapest 117 = .ok (.iload 4, 2) := by decide +kernel
theorem dX11_cheapest_119 : decode cX11_cheapest 119 = .ok (.iaload, 1) := by decide +kernel
theorem dX11_cheapest_120 : decode cX11_cheapest 120 = .ok (.ireturn, 1) := by decide +kernel
theorem dX11_check_0 : decode cX11_check 0 = .ok (.aload_n 0, 1) := by decide +kernel
theorem dX11_check_1 : decode cX11_check 1 = .ok (.iload_n 1, 1) := by decide +kernel
theorem dX11_check_2 : decode cX11_check 2 = .ok (.invokevirtual 180, 3) := by decide +kernel
theorem dX11_check_5 : decode cX11_check 5 = .ok (.ifCond .eq 20, 3) := by decide +kernel
theorem dX11_check_8 : decode cX11_check 8 = .ok (.iload_n 2, 1) := by decide +kernel
theorem dX11_check_9 : decode cX11_check 9 = .ok (.ifCond .lt 16, 3) := by decide +kernel
theorem dX11_check_12 : decode cX11_check 12 = .ok (.iload_n 2, 1) := by decide +kernel
theorem dX11_check_13 : decode cX11_check 13 = .ok (.aload_n 0, 1) := by decide +kernel
theorem dX11_check_14 : decode cX11_check 14 = .ok (.getfield 10, 3) := by decide +kernel
theorem dX11_check_17 : decode cX11_check 17 = .ok (.getfield 112, 3) := by decide +kernel
theorem dX11_check_20 : decode cX11_check 20 = .ok (.iconst 4, 1) := by decide +kernel
theorem dX11_check_21 : decode cX11_check 21 = .ok (.idiv, 1) := by decide +kernel
theorem dX11_check_22 : decode cX11_check 22 = .ok (.if_icmp .le 6, 3) := by decide +kernel
theorem dX11_check_25 : decode cX11_check 25 = .ok (.bipush (-2), 2) := by decide +kernel
theorem dX11_check_27 : decode cX11_check 27 = .ok (.ireturn, 1) := by decide +kernel
theorem dX11_check_28 : decode cX11_check 28 = .ok (.aload_n 0, 1) := by decide +kernel
theorem dX11_check_29 : decode cX11_check 29 = .ok (.getfield 18, 3) := by decide +kernel
theorem dX11_check_32 : decode cX11_check 32 = .ok (.iload_n 1, 1) := by decide +kernel
theorem dX11_check_33 : decode cX11_check 33 = .ok (.aaload, 1) := by decide +kernel
theorem dX11_check_34 : decode cX11_check 34 = .ok (.getfield 147, 3) := by decide +kernel
theorem dX11_check_37 : decode cX11_check 37 = .ok (.astore_n 3, 1) := by decide +kernel
theorem dX11_check_38 : decode cX11_check 38 = .ok (.iconst 0, 1) := by decide +kernel
theorem dX11_check_39 : decode cX11_check 39 = .ok (.istore 4, 2) := by decide +kernel
theorem dX11_check_41 : decode cX11_check 41 = .ok (.iload 4, 2) := by decide +kernel
theorem dX11_check_43 : decode cX11_check 43 = .ok (.iload_n 2, 1) := by decide +kernel
theorem dX11_check_44 : decode cX11_check 44 = .ok (.if_icmp .ge 36, 3) := by decide +kernel
theorem dX11_check_47 : decode cX11_check 47 = .ok (.iload 4, 2) := by decide +kernel
theorem dX11_check_49 : decode cX11_check 49 = .ok (.aload_n 3, 1) := by decide +kernel
theorem dX11_check_50 : decode cX11_check 50 = .ok (.getfield 171, 3) := by decide +kernel
theorem dX11_check_53 : decode cX11_check 53 = .ok (.if_icmp .ge 27, 3) := by decide +kernel
theorem dX11_check_56 : decode cX11_check 56 = .ok (.aload_n 0, 1) := by decide +kernel
theorem dX11_check_57 : decode cX11_check 57 = .ok (.getfield 10, 3) := by decide +kernel
theorem dX11_check_60 : decode cX11_check 60 = .ok (.iload 4, 2) := by decide +kernel
theorem dX11_check_62 : decode cX11_check 62 = .ok (.invokevirtual 313, 3) := by decide +kernel
theorem dX11_check_65 : decode cX11_check 65 = .ok (.aload_n 3, 1) := by decide +kernel
theorem dX11_check_66 : decode cX11_check 66 = .ok (.iload 4, 2) := by decide +kernel
theorem dX11_check_68 : decode cX11_check 68 = .ok (.invokevirtual 150, 3) := by decide +kernel
theorem dX11_check_71 : decode cX11_check 71 = .ok (.if_icmp .ne 9, 3) := by decide +kernel
theorem dX11_check_74 : decode cX11_check 74 = .ok (.iinc 4 1, 3) := by decide +kernel
theorem dX11_check_77 : decode cX11_check 77 = .ok (.goto (-36), 3) := by decide +kernel
theorem dX11_check_80 : decode cX11_check 80 = .ok (.aload_n 0, 1) := by decide +kernel
theorem dX11_check_81 : decode cX11_check 81 = .ok (.getfield 10, 3) := by decide +kernel
theorem dX11_check_84 : decode cX11_check 84 = .ok (.iconst 0, 1) := by decide +kernel
theorem dX11_check_85 : decode cX11_check 85 = .ok (.putfield 112, 3) := by decide +kernel
theorem dX11_check_88 : decode cX11_check 88 = .ok (.iload 4, 2) := by decide +kernel
theorem dX11_check_90 : decode cX11_check 90 = .ok (.iload_n 2, 1) := by decide +kernel
theorem dX11_check_91 : decode cX11_check 91 = .ok (.if_icmp .ne 16, 3) := by decide +kernel
theorem dX11_check_94 : decode cX11_check 94 = .ok (.iload 4, 2) := by decide +kernel
theorem dX11_check_96 : decode cX11_check 96 = .ok (.aload_n 3, 1) := by decide +kernel
theorem dX11_check_97 : decode cX11_check 97 = .ok (.getfield 171, 3) := by decide +kernel
theorem dX11_check_100 : decode cX11_check 100 = .ok (.if_icmp .ne 7, 3) := by decide +kernel
theorem dX11_check_103 : decode cX11_check 103 = .ok (.iconst (-1), 1) := by decide +kernel
theorem dX11_check_104 : decode cX11_check 104 = .ok (.goto 5, 3) := by decide +kernel
theorem dX11_check_107 : decode cX11_check 107 = .ok (.iload 4, 2) := by decide +kernel
theorem dX11_check_109 : decode cX11_check 109 = .ok (.ireturn, 1) := by decide +kernel
theorem dX11_count_0 : decode cX11_count 0 = .ok (.iload_n 1, 1) := by decide +kernel
theorem dX11_count_1 : decode cX11_count 1 = .ok (.bipush 10, 2) := by decide +kernel
theorem dX11_count_3 : decode cX11_count 3 = .ok (.if_icmp .lt 40, 3) := by decide +kernel
theorem dX11_count_6 : decode cX11_count 6 = .ok (.iload_n 1, 1) := by decide +kernel
theorem dX11_count_7 : decode cX11_count 7 = .ok (.bipush 18, 2) := by decide +kernel
theorem dX11_count_9 : decode cX11_count 9 = .ok (.if_icmp .ge 34, 3) := by decide +kernel
theorem dX11_count_12 : decode cX11_count 12 = .ok (.aload_n 0, 1) := by decide +kernel
theorem dX11_count_13 : decode cX11_count 13 = .ok (.iload_n 1, 1) := by decide +kernel
theorem dX11_count_14 : decode cX11_count 14 = .ok (.bipush 10, 2) := by decide +kernel
theorem dX11_count_16 : decode cX11_count 16 = .ok (.isub, 1) := by decide +kernel
theorem dX11_count_17 : decode cX11_count 17 = .ok (.invokevirtual 180, 3) := by decide +kernel
theorem dX11_count_20 : decode cX11_count 20 = .ok (.ifCond .eq 21, 3) := by decide +kernel
theorem dX11_count_23 : decode cX11_count 23 = .ok (.aload_n 0, 1) := by decide +kernel
theorem dX11_count_24 : decode cX11_count 24 = .ok (.getfield 18, 3) := by decide +kernel
theorem dX11_count_27 : decode cX11_count 27 = .ok (.iload_n 1, 1) := by decide +kernel
theorem dX11_count_28 : decode cX11_count 28 = .ok (.bipush 10, 2) := by decide +kernel
theorem dX11_count_30 : decode cX11_count 30 = .ok (.isub, 1) := by decide +kernel
theorem dX11_count_31 : decode cX11_count 31 = .ok (.aaload, 1) := by decide +kernel
theorem dX11_count_32 : decode cX11_count 32 = .ok (.getfield 147, 3) := by decide +kernel
theorem dX11_count_35 : decode cX11_count 35 = .ok (.getfield 171, 3) := by decide +kernel
theorem dX11_count_38 : decode cX11_count 38 = .ok (.goto 4, 3) := by decide +kernel
theorem dX11_count_41 : decode cX11_count 41 = .ok (.iconst (-1), 1) := by decide +kernel
theorem dX11_count_42 : decode cX11_count 42 = .ok (.ireturn, 1) := by decide +kernel
theorem dX11_count_43 : decode cX11_count 43 = .ok (.iload_n 1, 1) := by decide +kernel
theorem dX11_count_44 : decode cX11_count 44 = .ok (.bipush 20, 2) := by decide +kernel
theorem dX11_count_46 : decode cX11_count 46 = .ok (.if_icmp .lt 22, 3) := by decide +kernel
theorem dX11_count_49 : decode cX11_count 49 = .ok (.iload_n 1, 1) := by decide +kernel
theorem dX11_count_50 : decode cX11_count 50 = .ok (.bipush 28, 2) := by decide +kernel
theorem dX11_count_52 : decode cX11_count 52 = .ok (.if_icmp .ge 16, 3) := by decide +kernel
theorem dX11_count_55 : decode cX11_count 55 = .ok (.aload_n 0, 1) := by decide +kernel
theorem dX11_count_56 : decode cX11_count 56 = .ok (.getfield 29, 3) := by decide +kernel
theorem dX11_count_59 : decode cX11_count 59 = .ok (.iload_n 1, 1) := by decide +kernel
theorem dX11_count_60 : decode cX11_count 60 = .ok (.bipush 20, 2) := by decide +kernel
theorem dX11_count_62 : decode cX11_count 62 = .ok (.isub, 1) := by decide +kernel
theorem dX11_count_63 : decode cX11_count 63 = .ok (.aaload, 1) := by decide +kernel
theorem dX11_count_64 : decode cX11_count 64 = .ok (.getfield 171, 3) := by decide +kernel
theorem dX11_count_67 : decode cX11_count 67 = .ok (.ireturn, 1) := by decide +kernel
theorem dX11_count_68 : decode cX11_count 68 = .ok (.iload_n 1, 1) := by decide +kernel
theorem dX11_count_69 : decode cX11_count 69 = .ok (.tableswitch 99 0 7 #[47, 52, 57, 65, 73, 78, 86, 91], 47) := by decide +kernel
theorem dX11_count_116 : decode cX11_count 116 = .ok (.aload_n 0, 1) := by decide +kernel
theorem dX11_count_117 : decode cX11_count 117 = .ok (.getfield 23, 3) := by decide +kernel
theorem dX11_count_120 : decode cX11_count 120 = .ok (.ireturn, 1) := by decide +kernel
theorem dX11_count_121 : decode cX11_count 121 = .ok (.aload_n 0, 1) := by decide +kernel
theorem dX11_count_122 : decode cX11_count 122 = .ok (.invokevirtual 316, 3) := by decide +kernel
theorem dX11_count_125 : decode cX11_count 125 = .ok (.ireturn, 1) := by decide +kernel
theorem dX11_count_126 : decode cX11_count 126 = .ok (.aload_n 0, 1) := by decide +kernel
theorem dX11_count_127 : decode cX11_count 127 = .ok (.getfield 39, 3) := by decide +kernel
theorem dX11_count_130 : decode cX11_count 130 = .ok (.getfield 320, 3) := by decide +kernel
theorem dX11_count_133 : decode cX11_count 133 = .ok (.ireturn, 1) := by decide +kernel
theorem dX11_count_134 : decode cX11_count 134 = .ok (.aload_n 0, 1) := by decide +kernel
theorem dX11_count_135 : decode cX11_count 135 = .ok (.getfield 10, 3) := by decide +kernel
theorem dX11_count_138 : decode cX11_count 138 = .ok (.getfield 112, 3) := by decide +kernel
theorem dX11_count_141 : decode cX11_count 141 = .ok (.ireturn, 1) := by decide +kernel
theorem dX11_count_142 : decode cX11_count 142 = .ok (.aload_n 0, 1) := by decide +kernel
theorem dX11_count_143 : decode cX11_count 143 = .ok (.getfield 57, 3) := by decide +kernel
theorem dX11_count_146 : decode cX11_count 146 = .ok (.ireturn, 1) := by decide +kernel
theorem dX11_count_147 : decode cX11_count 147 = .ok (.aload_n 0, 1) := by decide +kernel
theorem dX11_count_148 : decode cX11_count 148 = .ok (.getfield 53, 3) := by decide +kernel
theorem dX11_count_151 : decode cX11_count 151 = .ok (.getfield 323, 3) := by decide +kernel
theorem dX11_count_154 : decode cX11_count 154 = .ok (.ireturn, 1) := by decide +kernel
theorem dX11_count_155 : decode cX11_count 155 = .ok (.aload_n 0, 1) := by decide +kernel
theorem dX11_count_156 : decode cX11_count 156 = .ok (.getfield 60, 3) := by decide +kernel
theorem dX11_count_159 : decode cX11_count 159 = .ok (.ireturn, 1) := by decide +kernel
theorem dX11_count_160 : decode cX11_count 160 = .ok (.aload_n 0, 1) := by decide +kernel
theorem dX11_count_161 : decode cX11_count 161 = .ok (.getfield 53, 3) := by decide +kernel
theorem dX11_count_164 : decode cX11_count 164 = .ok (.invokevirtual 324, 3) := by decide +kernel
theorem dX11_count_167 : decode cX11_count 167 = .ok (.ireturn, 1) := by decide +kernel
theorem dX11_count_168 : decode cX11_count 168 = .ok (.iconst (-1), 1) := by decide +kernel
theorem dX11_count_169 : decode cX11_count 169 = .ok (.ireturn, 1) := by decide +kernel
theorem dX11_countGapStrokes_0 : decode cX11_countGapStrokes 0 = .ok (.iconst 0, 1) := by decide +kernel
theorem dX11_countGapStrokes_1 : decode cX11_countGapStrokes 1 = .ok (.istore_n 3, 1) := by decide +kernel
theorem dX11_countGapStrokes_2 : decode cX11_countGapStrokes 2 = .ok (.iconst 0, 1) := by decide +kernel
theorem dX11_countGapStrokes_3 : decode cX11_countGapStrokes 3 = .ok (.istore 4, 2) := by decide +kernel
theorem dX11_countGapStrokes_5 : decode cX11_countGapStrokes 5 = .ok (.iconst 0, 1) := by decide +kernel
theorem dX11_countGapStrokes_6 : decode cX11_countGapStrokes 6 = .ok (.istore 5, 2) := by decide +kernel
theorem dX11_countGapStrokes_8 : decode cX11_countGapStrokes 8 = .ok (.iload 5, 2) := by decide +kernel
theorem dX11_countGapStrokes_10 : decode cX11_countGapStrokes 10 = .ok (.iload_n 1, 1) := by decide +kernel
theorem dX11_countGapStrokes_11 : decode cX11_countGapStrokes 11 = .ok (.if_icmp .ge 44, 3) := by decide +kernel
theorem dX11_countGapStrokes_14 : decode cX11_countGapStrokes 14 = .ok (.iload_n 3, 1) := by decide +kernel
theorem dX11_countGapStrokes_15 : decode cX11_countGapStrokes 15 = .ok (.aload_n 0, 1) := by decide +kernel
theorem dX11_countGapStrokes_16 : decode cX11_countGapStrokes 16 = .ok (.getfield 73, 3) := by decide +kernel
theorem dX11_countGapStrokes_19 : decode cX11_countGapStrokes 19 = .ok (.getfield 213, 3) := by decide +kernel
theorem dX11_countGapStrokes_22 : decode cX11_countGapStrokes 22 = .ok (.iload 5, 2) := by decide +kernel
theorem dX11_countGapStrokes_24 : decode cX11_countGapStrokes 24 = .ok (.iaload, 1) := by decide +kernel
theorem dX11_countGapStrokes_25 : decode cX11_countGapStrokes 25 = .ok (.iload 4, 2) := by decide +kernel
theorem dX11_countGapStrokes_27 : decode cX11_countGapStrokes 27 = .ok (.isub, 1) := by decide +kernel
theorem dX11_countGapStrokes_28 : decode cX11_countGapStrokes 28 = .ok (.bipush 9, 2) := by decide +kernel
theorem dX11_countGapStrokes_30 : decode cX11_countGapStrokes 30 = .ok (.invokestatic 350, 3) := by decide +kernel
theorem dX11_countGapStrokes_33 : decode cX11_countGapStrokes 33 = .ok (.iadd, 1) := by decide +kernel
theorem dX11_countGapStrokes_34 : decode cX11_countGapStrokes 34 = .ok (.istore_n 3, 1) := by decide +kernel
theorem dX11_countGapStrokes_35 : decode cX11_countGapStrokes 35 = .ok (.aload_n 0, 1) := by decide +kernel
theorem dX11_countGapStrokes_36 : decode cX11_countGapStrokes 36 = .ok (.getfield 73, 3) := by decide +kernel
theorem dX11_countGapStrokes_39 : decode cX11_countGapStrokes 39 = .ok (.getfield 213, 3) := by decide +kernel
theorem dX11_countGapStrokes_42 : decode cX11_countGapStrokes 42 = .ok (.iload 5, 2) := by decide +kernel
theorem dX11_countGapStrokes_44 : decode cX11_countGapStrokes 44 = .ok (.iaload, 1) := by decide +kernel
theorem dX11_countGapStrokes_45 : decode cX11_countGapStrokes 45 = .ok (.iconst 1, 1) := by decide +kernel
theorem dX11_countGapStrokes_46 : decode cX11_countGapStrokes 46 = .ok (.iadd, 1) := by decide +kernel
theorem dX11_countGapStrokes_47 : decode cX11_countGapStrokes 47 = .ok (.istore 4, 2) := by decide +kernel
theorem dX11_countGapStrokes_49 : decode cX11_countGapStrokes 49 = .ok (.iinc 5 1, 3) := by decide +kernel
theorem dX11_countGapStrokes_52 : decode cX11_countGapStrokes 52 = .ok (.goto (-44), 3) := by decide +kernel
theorem dX11_countGapStrokes_55 : decode cX11_countGapStrokes 55 = .ok (.iload_n 3, 1) := by decide +kernel
theorem dX11_countGapStrokes_56 : decode cX11_countGapStrokes 56 = .ok (.iload_n 2, 1) := by decide +kernel
theorem dX11_countGapStrokes_57 : decode cX11_countGapStrokes 57 = .ok (.iload 4, 2) := by decide +kernel
theorem dX11_countGapStrokes_59 : decode cX11_countGapStrokes 59 = .ok (.isub, 1) := by decide +kernel
theorem dX11_countGapStrokes_60 : decode cX11_countGapStrokes 60 = .ok (.bipush 9, 2) := by decide +kernel
theorem dX11_countGapStrokes_62 : decode cX11_countGapStrokes 62 = .ok (.invokestatic 350, 3) := by decide +kernel
theorem dX11_countGapStrokes_65 : decode cX11_countGapStrokes 65 = .ok (.iadd, 1) := by decide +kernel
theorem dX11_countGapStrokes_66 : decode cX11_countGapStrokes 66 = .ok (.ireturn, 1) := by decide +kernel
theorem dX11_coverFor_0 : decode cX11_coverFor 0 = .ok (.aload_n 0, 1) := by decide +kernel
theorem dX11_coverFor_1 : decode cX11_coverFor 1 = .ok (.getfield 84, 3) := by decide +kernel
theorem dX11_coverFor_4 : decode cX11_coverFor 4 = .ok (.ifnonnull 13, 3) := by decide +kernel
theorem dX11_coverFor_7 : decode cX11_coverFor 7 = .ok (.new 260, 3) := by decide +kernel
theorem dX11_coverFor_10 : decode cX11_coverFor 10 = .ok (.dup, 1) := by decide +kernel
theorem dX11_coverFor_11 : decode cX11_coverFor 11 = .ok (.invokespecial 354, 3) := by decide +kernel
theorem dX11_coverFor_14 : decode cX11_coverFor 14 = .ok (.goto 7, 3) := by decide +kernel
theorem dX11_coverFor_17 : decode cX11_coverFor 17 = .ok (.aload_n 0, 1) := by decide +kernel
theorem dX11_coverFor_18 : decode cX11_coverFor 18 = .ok (.getfield 84, 3) := by decide +kernel
theorem dX11_coverFor_21 : decode cX11_coverFor 21 = .ok (.astore_n 2, 1) := by decide +kernel
theorem dX11_coverFor_22 : decode cX11_coverFor 22 = .ok (.aload_n 0, 1) := by decide +kernel
theorem dX11_coverFor_23 : decode cX11_coverFor 23 = .ok (.aload_n 2, 1) := by decide +kernel
theorem dX11_coverFor_24 : decode cX11_coverFor 24 = .ok (.putfield 84, 3) := by decide +kernel
theorem dX11_coverFor_27 : decode cX11_coverFor 27 = .ok (.aload_n 2, 1) := by decide +kernel
theorem dX11_coverFor_28 : decode cX11_coverFor 28 = .ok (.getfield 353, 3) := by decide +kernel
theorem dX11_coverFor_31 : decode cX11_coverFor 31 = .ok (.iload_n 1, 1) := by decide +kernel
theorem dX11_coverFor_32 : decode cX11_coverFor 32 = .ok (.if_icmp .eq 48, 3) := by decide +kernel
theorem dX11_coverFor_35 : decode cX11_coverFor 35 = .ok (.aload_n 2, 1) := by decide +kernel
theorem dX11_coverFor_36 : decode cX11_coverFor 36 = .ok (.invokevirtual 355, 3) := by decide +kernel
theorem dX11_coverFor_39 : decode cX11_coverFor 39 = .ok (.iconst 0, 1) := by decide +kernel
theorem dX11_coverFor_40 : decode cX11_coverFor 40 = .ok (.istore_n 3, 1) := by decide +kernel
theorem dX11_coverFor_41 : decode cX11_coverFor 41 = .ok (.iload_n 3, 1) := by decide +kernel
theorem dX11_coverFor_42 : decode cX11_coverFor 42 = .ok (.bipush 8, 2) := by decide +kernel
theorem dX11_coverFor_44 : decode cX11_coverFor 44 = .ok (.if_icmp .ge 27, 3) := by decide +kernel
theorem dX11_coverFor_47 : decode cX11_coverFor 47 = .ok (.iload_n 1, 1) := by decide +kernel
theorem dX11_coverFor_48 : decode cX11_coverFor 48 = .ok (.iload_n 3, 1) := by decide +kernel
theorem dX11_coverFor_49 : decode cX11_coverFor 49 = .ok (.invokestatic 268, 3) := by decide +kernel
theorem dX11_coverFor_52 : decode cX11_coverFor 52 = .ok (.ifCond .eq 13, 3) := by decide +kernel
theorem dX11_coverFor_55 : decode cX11_coverFor 55 = .ok (.aload_n 2, 1) := by decide +kernel
theorem dX11_coverFor_56 : decode cX11_coverFor 56 = .ok (.aload_n 0, 1) := by decide +kernel
theorem dX11_coverFor_57 : decode cX11_coverFor 57 = .ok (.getfield 29, 3) := by decide +kernel
theorem dX11_coverFor_60 : decode cX11_coverFor 60 = .ok (.iload_n 3, 1) := by decide +kernel
theorem dX11_coverFor_61 : decode cX11_coverFor 61 = .ok (.aaload, 1) := by decide +kernel
theorem dX11_coverFor_62 : decode cX11_coverFor 62 = .ok (.invokevirtual 358, 3) := by decide +kernel
theorem dX11_coverFor_65 : decode cX11_coverFor 65 = .ok (.iinc 3 1, 3) := by decide +kernel
theorem dX11_coverFor_68 : decode cX11_coverFor 68 = .ok (.goto (-27), 3) := by decide +kernel
theorem dX11_coverFor_71 : decode cX11_coverFor 71 = .ok (.aload_n 2, 1) := by decide +kernel
theorem dX11_coverFor_72 : decode cX11_coverFor 72 = .ok (.invokevirtual 362, 3) := by decide +kernel
theorem dX11_coverFor_75 : decode cX11_coverFor 75 = .ok (.aload_n 2, 1) := by decide +kernel
theorem dX11_coverFor_76 : decode cX11_coverFor 76 = .ok (.iload_n 1, 1) := by decide +kernel
theorem dX11_coverFor_77 : decode cX11_coverFor 77 = .ok (.putfield 353, 3) := by decide +kernel
theorem dX11_coverFor_80 : decode cX11_coverFor 80 = .ok (.aload_n 2, 1) := by decide +kernel
theorem dX11_coverFor_81 : decode cX11_coverFor 81 = .ok (.areturn, 1) := by decide +kernel
theorem dX11_day_0 : decode cX11_day 0 = .ok (.iload_n 1, 1) := by decide +kernel
theorem dX11_day_1 : decode cX11_day 1 = .ok (.aload_n 0, 1) := by decide +kernel
theorem dX11_day_2 : decode cX11_day 2 = .ok (.getfield 57, 3) := by decide +kernel
theorem dX11_day_5 : decode cX11_day 5 = .ok (.if_icmp .lt 10, 3) := by decide +kernel
theorem dX11_day_8 : decode cX11_day 8 = .ok (.iload_n 1, 1) := by decide +kernel
theorem dX11_day_9 : decode cX11_day 9 = .ok (.sipush 1000, 3) := by decide +kernel
theorem dX11_day_12 : decode cX11_day 12 = .ok (.if_icmp .lt 5, 3) := by decide +kernel
theorem dX11_day_15 : decode cX11_day 15 = .ok (.iconst 0, 1) := by decide +kernel
theorem dX11_day_16 : decode cX11_day 16 = .ok (.ireturn, 1) := by decide +kernel
theorem dX11_day_17 : decode cX11_day 17 = .ok (.aload_n 0, 1) := by decide +kernel
theorem dX11_day_18 : decode cX11_day 18 = .ok (.iload_n 1, 1) := by decide +kernel
theorem dX11_day_19 : decode cX11_day 19 = .ok (.putfield 57, 3) := by decide +kernel
theorem dX11_day_22 : decode cX11_day 22 = .ok (.iconst 1, 1) := by decide +kernel
theorem dX11_day_23 : decode cX11_day 23 = .ok (.ireturn, 1) := by decide +kernel
theorem dX11_dayEnd_0 : decode cX11_dayEnd 0 = .ok (.aload_n 0, 1) := by decide +kernel
theorem dX11_dayEnd_1 : decode cX11_dayEnd 1 = .ok (.iload_n 1, 1) := by decide +kernel
theorem dX11_dayEnd_2 : decode cX11_dayEnd 2 = .ok (.invokevirtual 235, 3) := by decide +kernel
theorem dX11_dayEnd_5 : decode cX11_dayEnd 5 = .ok (.ifCond .eq 7, 3) := by decide +kernel
theorem dX11_dayEnd_8 : decode cX11_dayEnd 8 = .ok (.iload_n 1, 1) := by decide +kernel
theorem dX11_dayEnd_9 : decode cX11_dayEnd 9 = .ok (.ifCond .ne 5, 3) := by decide +kernel
theorem dX11_dayEnd_12 : decode cX11_dayEnd 12 = .ok (.iconst (-1), 1) := by decide +kernel
theorem dX11_dayEnd_13 : decode cX11_dayEnd 13 = .ok (.ireturn, 1) := by decide +kernel
theorem dX11_dayEnd_14 : decode cX11_dayEnd 14 = .ok (.iload_n 2, 1) := by decide +kernel
theorem dX11_dayEnd_15 : decode cX11_dayEnd 15 = .ok (.iconst (-1), 1) := by decide +kernel
theorem dX11_dayEnd_16 : decode cX11_dayEnd 16 = .ok (.if_icmp .lt 15, 3) := by decide +kernel
theorem dX11_dayEnd_19 : decode cX11_dayEnd 19 = .ok (.iload_n 2, 1) := by decide +kernel
theorem dX11_dayEnd_20 : decode cX11_dayEnd 20 = .ok (.bipush 8, 2) := by decide +kernel
theorem dX11_dayEnd_22 : decode cX11_dayEnd 22 = .ok (.if_icmp .lt 11, 3) := by decide +kernel
theorem dX11_dayEnd_25 : decode cX11_dayEnd 25 = .ok (.iload_n 2, 1) := by decide +kernel
theorem dX11_dayEnd_26 : decode cX11_dayEnd 26 = .ok (.bipush 10, 2) := by decide +kernel
theorem dX11_dayEnd_28 : decode cX11_dayEnd 28 = .ok (.if_icmp .eq 5, 3) := by decide +kernel
theorem dX11_dayEnd_31 : decode cX11_dayEnd 31 = .ok (.iconst (-1), 1) := by decide +kernel
theorem dX11_dayEnd_32 : decode cX11_dayEnd 32 = .ok (.ireturn, 1) := by decide +kernel
theorem dX11_dayEnd_33 : decode cX11_dayEnd 33 = .ok (.iload_n 2, 1) := by decide +kernel
theorem dX11_dayEnd_34 : decode cX11_dayEnd 34 = .ok (.ifCond .lt 20, 3) := by decide +kernel
theorem dX11_dayEnd_37 : decode cX11_dayEnd 37 = .ok (.iload_n 2, 1) := by decide +kernel
theorem dX11_dayEnd_38 : decode cX11_dayEnd 38 = .ok (.bipush 8, 2) := by decide +kernel
theorem dX11_dayEnd_40 : decode cX11_dayEnd 40 = .ok (.if_icmp .ge 14, 3) := by decide +kernel
theorem dX11_dayEnd_43 : decode cX11_dayEnd 43 = .ok (.iload_n 1, 1) := by decide +kernel
theorem dX11_dayEnd_44 : decode cX11_dayEnd 44 = .ok (.iload_n 2, 1) := by decide +kernel
theorem dX11_dayEnd_45 : decode cX11_dayEnd 45 = .ok (.invokestatic 268, 3) := by decide +kernel
theorem dX11_dayEnd_48 : decode cX11_dayEnd 48 = .ok (.ifCond .ne 6, 3) := by decide +kernel
theorem dX11_dayEnd_51 : decode cX11_dayEnd 51 = .ok (.bipush (-2), 2) := by decide +kernel
theorem dX11_dayEnd_53 : decode cX11_dayEnd 53 = .ok (.ireturn, 1) := by decide +kernel
theorem dX11_dayEnd_54 : decode cX11_dayEnd 54 = .ok (.aload_n 0, 1) := by decide +kernel
theorem dX11_dayEnd_55 : decode cX11_dayEnd 55 = .ok (.iload_n 1, 1) := by decide +kernel
theorem dX11_dayEnd_56 : decode cX11_dayEnd 56 = .ok (.invokevirtual 286, 3) := by decide +kernel
theorem dX11_dayEnd_59 : decode cX11_dayEnd 59 = .ok (.aload_n 0, 1) := by decide +kernel
theorem dX11_dayEnd_60 : decode cX11_dayEnd 60 = .ok (.getfield 91, 3) := by decide +kernel
theorem dX11_dayEnd_63 : decode cX11_dayEnd 63 = .ok (.iconst 0, 1) := by decide +kernel
theorem dX11_dayEnd_64 : decode cX11_dayEnd 64 = .ok (.invokevirtual 289, 3) := by decide +kernel
theorem dX11_dayEnd_67 : decode cX11_dayEnd 67 = .ok (.iload_n 2, 1) := by decide +kernel
theorem dX11_dayEnd_68 : decode cX11_dayEnd 68 = .ok (.iconst (-1), 1) := by decide +kernel
theorem dX11_dayEnd_69 : decode cX11_dayEnd 69 = .ok (.if_icmp .ne 11, 3) := by decide +kernel
theorem dX11_dayEnd_72 : decode cX11_dayEnd 72 = .ok (.aload_n 0, 1) := by decide +kernel
theorem dX11_dayEnd_73 : decode cX11_dayEnd 73 = .ok (.getfield 91, 3) := by decide +kernel
theorem dX11_dayEnd_76 : decode cX11_dayEnd 76 = .ok (.getfield 292, 3) := by decide +kernel
theorem dX11_dayEnd_79 : decode cX11_dayEnd 79 = .ok (.ireturn, 1) := by decide +kernel
theorem dX11_dayEnd_80 : decode cX11_dayEnd 80 = .ok (.iload_n 2, 1) := by decide +kernel
theorem dX11_dayEnd_81 : decode cX11_dayEnd 81 = .ok (.bipush 10, 2) := by decide +kernel
theorem dX11_dayEnd_83 : decode cX11_dayEnd 83 = .ok (.if_icmp .ne 13, 3) := by decide +kernel
theorem dX11_dayEnd_86 : decode cX11_dayEnd 86 = .ok (.aload_n 0, 1) := by decide +kernel
theorem dX11_dayEnd_87 : decode cX11_dayEnd 87 = .ok (.getfield 91, 3) := by decide +kernel
theorem dX11_dayEnd_90 : decode cX11_dayEnd 90 = .ok (.getfield 295, 3) := by decide +kernel
theorem dX11_dayEnd_93 : decode cX11_dayEnd 93 = .ok (.goto 12, 3) := by decide +kernel
theorem dX11_dayEnd_96 : decode cX11_dayEnd 96 = .ok (.aload_n 0, 1) := by decide +kernel
theorem dX11_dayEnd_97 : decode cX11_dayEnd 97 = .ok (.getfield 91, 3) := by decide +kernel
theorem dX11_dayEnd_100 : decode cX11_dayEnd 100 = .ok (.getfield 298, 3) := by decide +kernel
theorem dX11_dayEnd_103 : decode cX11_dayEnd 103 = .ok (.iload_n 2, 1) := by decide +kernel
theorem dX11_dayEnd_104 : decode cX11_dayEnd 104 = .ok (.iaload, 1) := by decide +kernel
theorem dX11_dayEnd_105 : decode cX11_dayEnd 105 = .ok (.ireturn, 1) := by decide +kernel
theorem dX11_deed_0 : decode cX11_deed 0 = .ok (.iload_n 1, 1) := by decide +kernel
theorem dX11_deed_1 : decode cX11_deed 1 = .ok (.ifCond .lt 31, 3) := by decide +kernel
theorem dX11_deed_4 : decode cX11_deed 4 = .ok (.iload_n 1, 1) := by decide +kernel
theorem dX11_deed_5 : decode cX11_deed 5 = .ok (.bipush 8, 2) := by decide +kernel
theorem dX11_deed_7 : decode cX11_deed 7 = .ok (.if_icmp .ge 25, 3) := by decide +kernel
theorem dX11_deed_10 : decode cX11_deed 10 = .ok (.iload_n 2, 1) := by decide +kernel
theorem dX11_deed_11 : decode cX11_deed 11 = .ok (.iconst 1, 1) := by decide +kernel
theorem dX11_deed_12 : decode cX11_deed 12 = .ok (.if_icmp .lt 20, 3) := by decide +kernel
theorem dX11_deed_15 : decode cX11_deed 15 = .ok (.iload_n 2, 1) := by decide +kernel
theorem dX11_deed_16 : decode cX11_deed 16 = .ok (.bipush 16, 2) := by decide +kernel
theorem dX11_deed_18 : decode cX11_deed 18 = .ok (.if_icmp .gt 14, 3) := by decide +kernel
theorem dX11_deed_21 : decode cX11_deed 21 = .ok (.iload_n 2, 1) := by decide +kernel
theorem dX11_deed_22 : decode cX11_deed 22 = .ok (.aload_n 0, 1) := by decide +kernel
theorem dX11_deed_23 : decode cX11_deed 23 = .ok (.getfield 10, 3) := by decide +kernel
theorem dX11_deed_26 : decode cX11_deed 26 = .ok (.getfield 112, 3) := by decide +kernel
theorem dX11_deed_29 : decode cX11_deed 29 = .ok (.if_icmp .le 5, 3) := by decide +kernel
theorem dX11_deed_32 : decode cX11_deed 32 = .ok (.iconst (-1), 1) := by decide +kernel
theorem dX11_deed_33 : decode cX11_deed 33 = .ok (.ireturn, 1) := by decide +kernel
theorem dX11_deed_34 : decode cX11_deed 34 = .ok (.aload_n 0, 1) := by decide +kernel
theorem dX11_deed_35 : decode cX11_deed 35 = .ok (.getfield 10, 3) := by decide +kernel
theorem dX11_deed_38 : decode cX11_deed 38 = .ok (.iload_n 2, 1) := by decide +kernel
theorem dX11_deed_39 : decode cX11_deed 39 = .ok (.invokevirtual 115, 3) := by decide +kernel
theorem dX11_deed_42 : decode cX11_deed 42 = .ok (.istore_n 3, 1) := by decide +kernel
theorem dX11_deed_43 : decode cX11_deed 43 = .ok (.iload_n 3, 1) := by decide +kernel
theorem dX11_deed_44 : decode cX11_deed 44 = .ok (.ifCond .eq 21, 3) := by decide +kernel
theorem dX11_deed_47 : decode cX11_deed 47 = .ok (.aload_n 0, 1) := by decide +kernel
theorem dX11_deed_48 : decode cX11_deed 48 = .ok (.getfield 10, 3) := by decide +kernel
theorem dX11_deed_51 : decode cX11_deed 51 = .ok (.iload_n 2, 1) := by decide +kernel
theorem dX11_deed_52 : decode cX11_deed 52 = .ok (.aload_n 0, 1) := by decide +kernel
theorem dX11_deed_53 : decode cX11_deed 53 = .ok (.getfield 29, 3) := by decide +kernel
theorem dX11_deed_56 : decode cX11_deed 56 = .ok (.iload_n 1, 1) := by decide +kernel
theorem dX11_deed_57 : decode cX11_deed 57 = .ok (.aaload, 1) := by decide +kernel
theorem dX11_deed_58 : decode cX11_deed 58 = .ok (.invokevirtual 122, 3) := by decide +kernel
theorem dX11_deed_61 : decode cX11_deed 61 = .ok (.aload_n 0, 1) := by decide +kernel
theorem dX11_deed_62 : decode cX11_deed 62 = .ok (.invokevirtual 129, 3) := by decide +kernel
theorem dX11_deed_65 : decode cX11_deed 65 = .ok (.aload_n 0, 1) := by decide +kernel
theorem dX11_deed_66 : decode cX11_deed 66 = .ok (.getfield 10, 3) := by decide +kernel
theorem dX11_deed_69 : decode cX11_deed 69 = .ok (.iconst 0, 1) := by decide +kernel
theorem dX11_deed_70 : decode cX11_deed 70 = .ok (.putfield 112, 3) := by decide +kernel
theorem dX11_deed_73 : decode cX11_deed 73 = .ok (.iload_n 3, 1) := by decide +kernel
theorem dX11_deed_74 : decode cX11_deed 74 = .ok (.ifCond .eq 7, 3) := by decide +kernel
theorem dX11_deed_77 : decode cX11_deed 77 = .ok (.iload_n 2, 1) := by decide +kernel
theorem dX11_deed_78 : decode cX11_deed 78 = .ok (.goto 5, 3) := by decide +kernel
theorem dX11_deed_81 : decode cX11_deed 81 = .ok (.bipush (-2), 2) := by decide +kernel
theorem dX11_deed_83 : decode cX11_deed 83 = .ok (.ireturn, 1) := by decide +kernel
theorem dX11_deedAmong_0 : decode cX11_deedAmong 0 = .ok (.iconst 0, 1) := by decide +kernel
theorem dX11_deedAmong_1 : decode cX11_deedAmong 1 = .ok (.istore_n 3, 1) := by decide +kernel
theorem dX11_deedAmong_2 : decode cX11_deedAmong 2 = .ok (.iconst 0, 1) := by decide +kernel
theorem dX11_deedAmong_3 : decode cX11_deedAmong 3 = .ok (.istore 4, 2) := by decide +kernel
theorem dX11_deedAmong_5 : decode cX11_deedAmong 5 = .ok (.iconst 0, 1) := by decide +kernel
theorem dX11_deedAmong_6 : decode cX11_deedAmong 6 = .ok (.istore 5, 2) := by decide +kernel
theorem dX11_deedAmong_8 : decode cX11_deedAmong 8 = .ok (.iload 5, 2) := by decide +kernel
theorem dX11_deedAmong_10 : decode cX11_deedAmong 10 = .ok (.bipush 8, 2) := by decide +kernel
theorem dX11_deedAmong_12 : decode cX11_deedAmong 12 = .ok (.if_icmp .ge 30, 3) := by decide +kernel
theorem dX11_deedAmong_15 : decode cX11_deedAmong 15 = .ok (.iload 4, 2) := by decide +kernel
theorem dX11_deedAmong_17 : decode cX11_deedAmong 17 = .ok (.iload_n 2, 1) := by decide +kernel
theorem dX11_deedAmong_18 : decode cX11_deedAmong 18 = .ok (.if_icmp .gt 24, 3) := by decide +kernel
theorem dX11_deedAmong_21 : decode cX11_deedAmong 21 = .ok (.iload_n 1, 1) := by decide +kernel
theorem dX11_deedAmong_22 : decode cX11_deedAmong 22 = .ok (.iload 5, 2) := by decide +kernel
theorem dX11_deedAmong_24 : decode cX11_deedAmong 24 = .ok (.invokestatic 268, 3) := by decide +kernel
theorem dX11_deedAmong_27 : decode cX11_deedAmong 27 = .ok (.ifCond .eq 9, 3) := by decide +kernel
theorem dX11_deedAmong_30 : decode cX11_deedAmong 30 = .ok (.iload 5, 2) := by decide +kernel
theorem dX11_deedAmong_32 : decode cX11_deedAmong 32 = .ok (.istore_n 3, 1) := by decide +kernel
theorem dX11_deedAmong_33 : decode cX11_deedAmong 33 = .ok (.iinc 4 1, 3) := by decide +kernel
theorem dX11_deedAmong_36 : decode cX11_deedAmong 36 = .ok (.iinc 5 1, 3) := by decide +kernel
theorem dX11_deedAmong_39 : decode cX11_deedAmong 39 = .ok (.goto (-31), 3) := by decide +kernel
theorem dX11_deedAmong_42 : decode cX11_deedAmong 42 = .ok (.aload_n 0, 1) := by decide +kernel
theorem dX11_deedAmong_43 : decode cX11_deedAmong 43 = .ok (.getfield 29, 3) := by decide +kernel
theorem dX11_deedAmong_46 : decode cX11_deedAmong 46 = .ok (.iload_n 3, 1) := by decide +kernel
theorem dX11_deedAmong_47 : decode cX11_deedAmong 47 = .ok (.aaload, 1) := by decide +kernel
theorem dX11_deedAmong_48 : decode cX11_deedAmong 48 = .ok (.areturn, 1) := by decide +kernel
theorem dX11_descends_0 : decode cX11_descends 0 = .ok (.aload_n 0, 1) := by decide +kernel
theorem dX11_descends_1 : decode cX11_descends 1 = .ok (.getfield 29, 3) := by decide +kernel
theorem dX11_descends_4 : decode cX11_descends 4 = .ok (.iload_n 2, 1) := by decide +kernel
theorem dX11_descends_5 : decode cX11_descends 5 = .ok (.aaload, 1) := by decide +kernel
theorem dX11_descends_6 : decode cX11_descends 6 = .ok (.getfield 171, 3) := by decide +kernel
theorem dX11_descends_9 : decode cX11_descends 9 = .ok (.aload_n 0, 1) := by decide +kernel
theorem dX11_descends_10 : decode cX11_descends 10 = .ok (.getfield 29, 3) := by decide +kernel
theorem dX11_descends_13 : decode cX11_descends 13 = .ok (.iload_n 1, 1) := by decide +kernel
theorem dX11_descends_14 : decode cX11_descends 14 = .ok (.aaload, 1) := by decide +kernel
theorem dX11_descends_15 : decode cX11_descends 15 = .ok (.getfield 171, 3) := by decide +kernel
theorem dX11_descends_18 : decode cX11_descends 18 = .ok (.isub, 1) := by decide +kernel
theorem dX11_descends_19 : decode cX11_descends 19 = .ok (.istore_n 3, 1) := by decide +kernel
theorem dX11_descends_20 : decode cX11_descends 20 = .ok (.iload_n 3, 1) := by decide +kernel
theorem dX11_descends_21 : decode cX11_descends 21 = .ok (.ifCond .lt 12, 3) := by decide +kernel
theorem dX11_descends_24 : decode cX11_descends 24 = .ok (.iload_n 3, 1) := by decide +kernel
theorem dX11_descends_25 : decode cX11_descends 25 = .ok (.ifCond .ne 10, 3) := by decide +kernel
theorem dX11_descends_28 : decode cX11_descends 28 = .ok (.iload_n 2, 1) := by decide +kernel
theorem dX11_descends_29 : decode cX11_descends 29 = .ok (.iload_n 1, 1) := by decide +kernel
theorem dX11_descends_30 : decode cX11_descends 30 = .ok (.if_icmp .lt 5, 3) := by decide +kernel
theorem dX11_descends_33 : decode cX11_descends 33 = .ok (.iconst 0, 1) := by decide +kernel
theorem dX11_descends_34 : decode cX11_descends 34 = .ok (.ireturn, 1) := by decide +kernel
theorem dX11_descends_35 : decode cX11_descends 35 = .ok (.aload_n 0, 1) := by decide +kernel
theorem dX11_descends_36 : decode cX11_descends 36 = .ok (.getfield 29, 3) := by decide +kernel
theorem dX11_descends_39 : decode cX11_descends 39 = .ok (.iload_n 1, 1) := by decide +kernel
theorem dX11_descends_40 : decode cX11_descends 40 = .ok (.aaload, 1) := by decide +kernel
theorem dX11_descends_41 : decode cX11_descends 41 = .ok (.aload_n 0, 1) := by decide +kernel
theorem dX11_descends_42 : decode cX11_descends 42 = .ok (.getfield 29, 3) := by decide +kernel
theorem dX11_descends_45 : decode cX11_descends 45 = .ok (.iload_n 2, 1) := by decide +kernel
theorem dX11_descends_46 : decode cX11_descends 46 = .ok (.aaload, 1) := by decide +kernel
theorem dX11_descends_47 : decode cX11_descends 47 = .ok (.invokevirtual 276, 3) := by decide +kernel
theorem dX11_descends_50 : decode cX11_descends 50 = .ok (.ireturn, 1) := by decide +kernel
theorem dX11_done_0 : decode cX11_done 0 = .ok (.aload_n 0, 1) := by decide +kernel
theorem dX11_done_1 : decode cX11_done 1 = .ok (.iload_n 1, 1) := by decide +kernel
theorem dX11_done_2 : decode cX11_done 2 = .ok (.invokevirtual 180, 3) := by decide +kernel
theorem dX11_done_5 : decode cX11_done 5 = .ok (.ifCond .eq 18, 3) := by decide +kernel
theorem dX11_done_8 : decode cX11_done 8 = .ok (.aload_n 0, 1) := by decide +kernel
theorem dX11_done_9 : decode cX11_done 9 = .ok (.iload_n 2, 1) := by decide +kernel
theorem dX11_done_10 : decode cX11_done 10 = .ok (.invokevirtual 200, 3) := by decide +kernel
theorem dX11_done_13 : decode cX11_done 13 = .ok (.ifCond .eq 10, 3) := by decide +kernel
theorem dX11_done_16 : decode cX11_done 16 = .ok (.iload_n 3, 1) := by decide +kernel
theorem dX11_done_17 : decode cX11_done 17 = .ok (.invokestatic 157, 3) := by decide +kernel
theorem dX11_done_20 : decode cX11_done 20 = .ok (.ifCond .ne 5, 3) := by decide +kernel
theorem dX11_done_23 : decode cX11_done 23 = .ok (.iconst (-1), 1) := by decide +kernel
theorem dX11_done_24 : decode cX11_done 24 = .ok (.ireturn, 1) := by decide +kernel
theorem dX11_done_25 : decode cX11_done 25 = .ok (.aload_n 0, 1) := by decide +kernel
theorem dX11_done_26 : decode cX11_done 26 = .ok (.getfield 18, 3) := by decide +kernel
theorem dX11_done_29 : decode cX11_done 29 = .ok (.iload_n 1, 1) := by decide +kernel
theorem dX11_done_30 : decode cX11_done 30 = .ok (.aaload, 1) := by decide +kernel
theorem dX11_done_31 : decode cX11_done 31 = .ok (.getfield 147, 3) := by decide +kernel
theorem dX11_done_34 : decode cX11_done 34 = .ok (.getfield 171, 3) := by decide +kernel
theorem dX11_done_37 : decode cX11_done 37 = .ok (.istore 4, 2) := by decide +kernel
theorem dX11_done_39 : decode cX11_done 39 = .ok (.aload_n 0, 1) := by decide +kernel
theorem dX11_done_40 : decode cX11_done 40 = .ok (.iload_n 1, 1) := by decide +kernel
theorem dX11_done_41 : decode cX11_done 41 = .ok (.iconst 0, 1) := by decide +kernel
theorem dX11_done_42 : decode cX11_done 42 = .ok (.iload 4, 2) := by decide +kernel
theorem dX11_done_44 : decode cX11_done 44 = .ok (.iload_n 3, 1) := by decide +kernel
theorem dX11_done_45 : decode cX11_done 45 = .ok (.invokevirtual 160, 3) := by decide +kernel
theorem dX11_done_48 : decode cX11_done 48 = .ok (.aload_n 0, 1) := by decide +kernel
theorem dX11_done_49 : decode cX11_done 49 = .ok (.getfield 73, 3) := by decide +kernel
theorem dX11_done_52 : decode cX11_done 52 = .ok (.aload_n 0, 1) := by decide +kernel
theorem dX11_done_53 : decode cX11_done 53 = .ok (.getfield 18, 3) := by decide +kernel
theorem dX11_done_56 : decode cX11_done 56 = .ok (.iload_n 1, 1) := by decide +kernel
theorem dX11_done_57 : decode cX11_done 57 = .ok (.aaload, 1) := by decide +kernel
theorem dX11_done_58 : decode cX11_done 58 = .ok (.getfield 147, 3) := by decide +kernel
theorem dX11_done_61 : decode cX11_done 61 = .ok (.aload_n 0, 1) := by decide +kernel
theorem dX11_done_62 : decode cX11_done 62 = .ok (.getfield 29, 3) := by decide +kernel
theorem dX11_done_65 : decode cX11_done 65 = .ok (.iload_n 2, 1) := by decide +kernel
theorem dX11_done_66 : decode cX11_done 66 = .ok (.aaload, 1) := by decide +kernel
theorem dX11_done_67 : decode cX11_done 67 = .ok (.invokevirtual 209, 3) := by decide +kernel
theorem dX11_done_70 : decode cX11_done 70 = .ok (.iconst (-1), 1) := by decide +kernel
theorem dX11_done_71 : decode cX11_done 71 = .ok (.if_icmp .ne 6, 3) := by decide +kernel
theorem dX11_done_74 : decode cX11_done 74 = .ok (.bipush (-2), 2) := by decide +kernel
theorem dX11_done_76 : decode cX11_done 76 = .ok (.ireturn, 1) := by decide +kernel
theorem dX11_done_77 : decode cX11_done 77 = .ok (.aload_n 0, 1) := by decide +kernel
theorem dX11_done_78 : decode cX11_done 78 = .ok (.getfield 29, 3) := by decide +kernel
theorem dX11_done_81 : decode cX11_done 81 = .ok (.iload_n 2, 1) := by decide +kernel
theorem dX11_done_82 : decode cX11_done 82 = .ok (.aaload, 1) := by decide +kernel
theorem dX11_done_83 : decode cX11_done 83 = .ok (.getfield 171, 3) := by decide +kernel
theorem dX11_done_86 : decode cX11_done 86 = .ok (.istore 5, 2) := by decide +kernel
theorem dX11_done_88 : decode cX11_done 88 = .ok (.aload_n 0, 1) := by decide +kernel
theorem dX11_done_89 : decode cX11_done 89 = .ok (.iload 5, 2) := by decide +kernel
theorem dX11_done_91 : decode cX11_done 91 = .ok (.iload 4, 2) := by decide +kernel
theorem dX11_done_93 : decode cX11_done 93 = .ok (.invokevirtual 216, 3) := by decide +kernel
theorem dX11_done_96 : decode cX11_done 96 = .ok (.istore 6, 2) := by decide +kernel
theorem dX11_done_98 : decode cX11_done 98 = .ok (.aload_n 0, 1) := by decide +kernel
theorem dX11_done_99 : decode cX11_done 99 = .ok (.getfield 53, 3) := by decide +kernel
theorem dX11_done_102 : decode cX11_done 102 = .ok (.iload 6, 2) := by decide +kernel
theorem dX11_done_104 : decode cX11_done 104 = .ok (.invokevirtual 172, 3) := by decide +kernel
theorem dX11_done_107 : decode cX11_done 107 = .ok (.ifCond .ne 6, 3) := by decide +kernel
theorem dX11_done_110 : decode cX11_done 110 = .ok (.bipush (-3), 2) := by decide +kernel
theorem dX11_done_112 : decode cX11_done 112 = .ok (.ireturn, 1) := by decide +kernel
theorem dX11_done_113 : decode cX11_done 113 = .ok (.iload 5, 2) := by decide +kernel
theorem dX11_done_115 : decode cX11_done 115 = .ok (.iconst 1, 1) := by decide +kernel
theorem dX11_done_116 : decode cX11_done 116 = .ok (.isub, 1) := by decide +kernel
theorem dX11_done_117 : decode cX11_done 117 = .ok (.istore 7, 2) := by decide +kernel
theorem dX11_done_119 : decode cX11_done 119 = .ok (.iload 7, 2) := by decide +kernel
theorem dX11_done_121 : decode cX11_done 121 = .ok (.ifCond .lt 41, 3) := by decide +kernel
theorem dX11_done_124 : decode cX11_done 124 = .ok (.aload_n 0, 1) := by decide +kernel
theorem dX11_done_125 : decode cX11_done 125 = .ok (.iload_n 1, 1) := by decide +kernel
theorem dX11_done_126 : decode cX11_done 126 = .ok (.aload_n 0, 1) := by decide +kernel
theorem dX11_done_127 : decode cX11_done 127 = .ok (.getfield 73, 3) := by decide +kernel
theorem dX11_done_130 : decode cX11_done 130 = .ok (.getfield 213, 3) := by decide +kernel
theorem dX11_done_133 : decode cX11_done 133 = .ok (.iload 7, 2) := by decide +kernel
theorem dX11_done_135 : decode cX11_done 135 = .ok (.iaload, 1) := by decide +kernel
theorem dX11_done_136 : decode cX11_done 136 = .ok (.iconst 1, 1) := by decide +kernel
theorem dX11_done_137 : decode cX11_done 137 = .ok (.iadd, 1) := by decide +kernel
theorem dX11_done_138 : decode cX11_done 138 = .ok (.iload 4, 2) := by decide +kernel
theorem dX11_done_140 : decode cX11_done 140 = .ok (.iload_n 3, 1) := by decide +kernel
theorem dX11_done_141 : decode cX11_done 141 = .ok (.invokevirtual 219, 3) := by decide +kernel
theorem dX11_done_144 : decode cX11_done 144 = .ok (.aload_n 0, 1) := by decide +kernel
theorem dX11_done_145 : decode cX11_done 145 = .ok (.getfield 73, 3) := by decide +kernel
theorem dX11_done_148 : decode cX11_done 148 = .ok (.getfield 213, 3) := by decide +kernel
theorem dX11_done_151 : decode cX11_done 151 = .ok (.iload 7, 2) := by decide +kernel
theorem dX11_done_153 : decode cX11_done 153 = .ok (.iaload, 1) := by decide +kernel
theorem dX11_done_154 : decode cX11_done 154 = .ok (.istore 4, 2) := by decide +kernel
theorem dX11_done_156 : decode cX11_done 156 = .ok (.iinc 7 (-1), 3) := by decide +kernel
theorem dX11_done_159 : decode cX11_done 159 = .ok (.goto (-40), 3) := by decide +kernel
theorem dX11_done_162 : decode cX11_done 162 = .ok (.aload_n 0, 1) := by decide +kernel
theorem dX11_done_163 : decode cX11_done 163 = .ok (.iload_n 1, 1) := by decide +kernel
theorem dX11_done_164 : decode cX11_done 164 = .ok (.iconst 0, 1) := by decide +kernel
theorem dX11_done_165 : decode cX11_done 165 = .ok (.iload 4, 2) := by decide +kernel
theorem dX11_done_167 : decode cX11_done 167 = .ok (.iload_n 3, 1) := by decide +kernel
theorem dX11_done_168 : decode cX11_done 168 = .ok (.invokevirtual 219, 3) := by decide +kernel
theorem dX11_done_171 : decode cX11_done 171 = .ok (.iload 6, 2) := by decide +kernel
theorem dX11_done_173 : decode cX11_done 173 = .ok (.ireturn, 1) := by decide +kernel
theorem dX11_draw_0 : decode cX11_draw 0 = .ok (.aload_n 0, 1) := by decide +kernel
theorem dX11_draw_1 : decode cX11_draw 1 = .ok (.iload_n 1, 1) := by decide +kernel
theorem dX11_draw_2 : decode cX11_draw 2 = .ok (.invokevirtual 180, 3) := by decide +kernel
theorem dX11_draw_5 : decode cX11_draw 5 = .ok (.ifCond .eq 14, 3) := by decide +kernel
theorem dX11_draw_8 : decode cX11_draw 8 = .ok (.iload_n 2, 1) := by decide +kernel
theorem dX11_draw_9 : decode cX11_draw 9 = .ok (.iconst 1, 1) := by decide +kernel
theorem dX11_draw_10 : decode cX11_draw 10 = .ok (.if_icmp .lt 9, 3) := by decide +kernel
theorem dX11_draw_13 : decode cX11_draw 13 = .ok (.iload_n 2, 1) := by decide +kernel
theorem dX11_draw_14 : decode cX11_draw 14 = .ok (.bipush 40, 2) := by decide +kernel
theorem dX11_draw_16 : decode cX11_draw 16 = .ok (.if_icmp .le 5, 3) := by decide +kernel
theorem dX11_draw_19 : decode cX11_draw 19 = .ok (.iconst (-1), 1) := by decide +kernel
theorem dX11_draw_20 : decode cX11_draw 20 = .ok (.ireturn, 1) := by decide +kernel
theorem dX11_draw_21 : decode cX11_draw 21 = .ok (.iconst 0, 1) := by decide +kernel
theorem dX11_draw_22 : decode cX11_draw 22 = .ok (.istore_n 3, 1) := by decide +kernel
theorem dX11_draw_23 : decode cX11_draw 23 = .ok (.iconst 0, 1) := by decide +kernel
theorem dX11_draw_24 : decode cX11_draw 24 = .ok (.istore 4, 2) := by decide +kernel
theorem dX11_draw_26 : decode cX11_draw 26 = .ok (.iload 4, 2) := by decide +kernel
theorem dX11_draw_28 : decode cX11_draw 28 = .ok (.iload_n 2, 1) := by decide +kernel
theorem dX11_draw_29 : decode cX11_draw 29 = .ok (.if_icmp .ge 124, 3) := by decide +kernel
theorem dX11_draw_32 : decode cX11_draw 32 = .ok (.aload_n 0, 1) := by decide +kernel
theorem dX11_draw_33 : decode cX11_draw 33 = .ok (.getfield 18, 3) := by decide +kernel
theorem dX11_draw_36 : decode cX11_draw 36 = .ok (.iload_n 1, 1) := by decide +kernel
theorem dX11_draw_37 : decode cX11_draw 37 = .ok (.aaload, 1) := by decide +kernel
theorem dX11_draw_38 : decode cX11_draw 38 = .ok (.getfield 147, 3) := by decide +kernel
theorem dX11_draw_41 : decode cX11_draw 41 = .ok (.getfield 171, 3) := by decide +kernel
theorem dX11_draw_44 : decode cX11_draw 44 = .ok (.iconst 1, 1) := by decide +kernel
theorem dX11_draw_45 : decode cX11_draw 45 = .ok (.if_icmp .le 108, 3) := by decide +kernel
theorem dX11_draw_48 : decode cX11_draw 48 = .ok (.aload_n 0, 1) := by decide +kernel
theorem dX11_draw_49 : decode cX11_draw 49 = .ok (.sipush 25173, 3) := by decide +kernel
theorem dX11_draw_52 : decode cX11_draw 52 = .ok (.aload_n 0, 1) := by decide +kernel
theorem dX11_draw_53 : decode cX11_draw 53 = .ok (.getfield 60, 3) := by decide +kernel
theorem dX11_draw_56 : decode cX11_draw 56 = .ok (.imul, 1) := by decide +kernel
theorem dX11_draw_57 : decode cX11_draw 57 = .ok (.sipush 13849, 3) := by decide +kernel
theorem dX11_draw_60 : decode cX11_draw 60 = .ok (.iadd, 1) := by decide +kernel
theorem dX11_draw_61 : decode cX11_draw 61 = .ok (.ldc_w 312, 3) := by decide +kernel
theorem dX11_draw_64 : decode cX11_draw 64 = .ok (.iand, 1) := by decide +kernel
theorem dX11_draw_65 : decode cX11_draw 65 = .ok (.putfield 60, 3) := by decide +kernel
theorem dX11_draw_68 : decode cX11_draw 68 = .ok (.aload_n 0, 1) := by decide +kernel
theorem dX11_draw_69 : decode cX11_draw 69 = .ok (.getfield 60, 3) := by decide +kernel
theorem dX11_draw_72 : decode cX11_draw 72 = .ok (.aload_n 0, 1) := by decide +kernel
theorem dX11_draw_73 : decode cX11_draw 73 = .ok (.getfield 18, 3) := by decide +kernel
theorem dX11_draw_76 : decode cX11_draw 76 = .ok (.iload_n 1, 1) := by decide +kernel
theorem dX11_draw_77 : decode cX11_draw 77 = .ok (.aaload, 1) := by decide +kernel
theorem dX11_draw_78 : decode cX11_draw 78 = .ok (.getfield 147, 3) := by decide +kernel
theorem dX11_draw_81 : decode cX11_draw 81 = .ok (.getfield 171, 3) := by decide +kernel
theorem dX11_draw_84 : decode cX11_draw 84 = .ok (.irem, 1) := by decide +kernel
theorem dX11_draw_85 : decode cX11_draw 85 = .ok (.istore 5, 2) := by decide +kernel
theorem dX11_draw_87 : decode cX11_draw 87 = .ok (.aload_n 0, 1) := by decide +kernel
theorem dX11_draw_88 : decode cX11_draw 88 = .ok (.getfield 60, 3) := by decide +kernel
theorem dX11_draw_91 : decode cX11_draw 91 = .ok (.bipush 8, 2) := by decide +kernel
theorem dX11_draw_93 : decode cX11_draw 93 = .ok (.irem, 1) := by decide +kernel
theorem dX11_draw_94 : decode cX11_draw 94 = .ok (.istore 6, 2) := by decide +kernel
theorem dX11_draw_96 : decode cX11_draw 96 = .ok (.aload_n 0, 1) := by decide +kernel
theorem dX11_draw_97 : decode cX11_draw 97 = .ok (.iload_n 1, 1) := by decide +kernel
theorem dX11_draw_98 : decode cX11_draw 98 = .ok (.iload 5, 2) := by decide +kernel
theorem dX11_draw_100 : decode cX11_draw 100 = .ok (.iload 5, 2) := by decide +kernel
theorem dX11_draw_102 : decode cX11_draw 102 = .ok (.iconst 1, 1) := by decide +kernel
theorem dX11_draw_103 : decode cX11_draw 103 = .ok (.iadd, 1) := by decide +kernel
theorem dX11_draw_104 : decode cX11_draw 104 = .ok (.iload 6, 2) := by decide +kernel
theorem dX11_draw_106 : decode cX11_draw 106 = .ok (.invokevirtual 160, 3) := by decide +kernel
theorem dX11_draw_109 : decode cX11_draw 109 = .ok (.aload_n 0, 1) := by decide +kernel
theorem dX11_draw_110 : decode cX11_draw 110 = .ok (.getfield 73, 3) := by decide +kernel
theorem dX11_draw_113 : decode cX11_draw 113 = .ok (.getfield 164, 3) := by decide +kernel
theorem dX11_draw_116 : decode cX11_draw 116 = .ok (.iload 5, 2) := by decide +kernel
theorem dX11_draw_118 : decode cX11_draw 118 = .ok (.baload, 1) := by decide +kernel
theorem dX11_draw_119 : decode cX11_draw 119 = .ok (.ifCond .eq 28, 3) := by decide +kernel
theorem dX11_draw_122 : decode cX11_draw 122 = .ok (.aload_n 0, 1) := by decide +kernel
theorem dX11_draw_123 : decode cX11_draw 123 = .ok (.getfield 53, 3) := by decide +kernel
theorem dX11_draw_126 : decode cX11_draw 126 = .ok (.iconst 1, 1) := by decide +kernel
theorem dX11_draw_127 : decode cX11_draw 127 = .ok (.invokevirtual 172, 3) := by decide +kernel
theorem dX11_draw_130 : decode cX11_draw 130 = .ok (.ifCond .eq 17, 3) := by decide +kernel
theorem dX11_draw_133 : decode cX11_draw 133 = .ok (.aload_n 0, 1) := by decide +kernel
theorem dX11_draw_134 : decode cX11_draw 134 = .ok (.iload_n 1, 1) := by decide +kernel
theorem dX11_draw_135 : decode cX11_draw 135 = .ok (.iload 5, 2) := by decide +kernel
theorem dX11_draw_137 : decode cX11_draw 137 = .ok (.iconst 1, 1) := by decide +kernel
theorem dX11_draw_138 : decode cX11_draw 138 = .ok (.iload 6, 2) := by decide +kernel
theorem dX11_draw_140 : decode cX11_draw 140 = .ok (.invokevirtual 173, 3) := by decide +kernel
theorem dX11_draw_143 : decode cX11_draw 143 = .ok (.pop, 1) := by decide +kernel
theorem dX11_draw_144 : decode cX11_draw 144 = .ok (.iinc 3 1, 3) := by decide +kernel
theorem dX11_draw_147 : decode cX11_draw 147 = .ok (.iinc 4 1, 3) := by decide +kernel
theorem dX11_draw_150 : decode cX11_draw 150 = .ok (.goto (-124), 3) := by decide +kernel
theorem dX11_draw_153 : decode cX11_draw 153 = .ok (.iload_n 3, 1) := by decide +kernel
theorem dX11_draw_154 : decode cX11_draw 154 = .ok (.ireturn, 1) := by decide +kernel
theorem dX11_even_0 : decode cX11_even 0 = .ok (.aload_n 0, 1) := by decide +kernel
theorem dX11_even_1 : decode cX11_even 1 = .ok (.iload_n 1, 1) := by decide +kernel
theorem dX11_even_2 : decode cX11_even 2 = .ok (.invokevirtual 180, 3) := by decide +kernel
theorem dX11_even_5 : decode cX11_even 5 = .ok (.ifCond .eq 18, 3) := by decide +kernel
theorem dX11_even_8 : decode cX11_even 8 = .ok (.aload_n 0, 1) := by decide +kernel
theorem dX11_even_9 : decode cX11_even 9 = .ok (.iload_n 2, 1) := by decide +kernel
theorem dX11_even_10 : decode cX11_even 10 = .ok (.invokevirtual 200, 3) := by decide +kernel
theorem dX11_even_13 : decode cX11_even 13 = .ok (.ifCond .eq 10, 3) := by decide +kernel
theorem dX11_even_16 : decode cX11_even 16 = .ok (.iload_n 3, 1) := by decide +kernel
theorem dX11_even_17 : decode cX11_even 17 = .ok (.invokestatic 222, 3) := by decide +kernel
theorem dX11_even_20 : decode cX11_even 20 = .ok (.ifCond .ne 7, 3) := by decide +kernel
theorem dX11_even_23 : decode cX11_even 23 = .ok (.ldc2_w 203, 3) := by decide +kernel
theorem dX11_even_26 : decode cX11_even 26 = .ok (.lreturn, 1) := by decide +kernel
theorem dX11_even_27 : decode cX11_even 27 = .ok (.aload_n 0, 1) := by decide +kernel
theorem dX11_even_28 : decode cX11_even 28 = .ok (.getfield 66, 3) := by decide +kernel
theorem dX11_even_31 : decode cX11_even 31 = .ok (.aload_n 0, 1) := by decide +kernel
theorem dX11_even_32 : decode cX11_even 32 = .ok (.getfield 18, 3) := by decide +kernel
theorem dX11_even_35 : decode cX11_even 35 = .ok (.iload_n 1, 1) := by decide +kernel
theorem dX11_even_36 : decode cX11_even 36 = .ok (.aaload, 1) := by decide +kernel
theorem dX11_even_37 : decode cX11_even 37 = .ok (.getfield 147, 3) := by decide +kernel
theorem dX11_even_40 : decode cX11_even 40 = .ok (.aload_n 0, 1) := by decide +kernel
theorem dX11_even_41 : decode cX11_even 41 = .ok (.getfield 29, 3) := by decide +kernel
theorem dX11_even_44 : decode cX11_even 44 = .ok (.iload_n 2, 1) := by decide +kernel
theorem dX11_even_45 : decode cX11_even 45 = .ok (.aaload, 1) := by decide +kernel
theorem dX11_even_46 : decode cX11_even 46 = .ok (.iload_n 3, 1) := by decide +kernel
theorem dX11_even_47 : decode cX11_even 47 = .ok (.invokevirtual 205, 3) := by decide +kernel
theorem dX11_even_50 : decode cX11_even 50 = .ok (.lreturn, 1) := by decide +kernel
theorem dX11_family_0 : decode cX11_family 0 = .ok (.aload_n 0, 1) := by decide +kernel
theorem dX11_family_1 : decode cX11_family 1 = .ok (.iload_n 1, 1) := by decide +kernel
theorem dX11_family_2 : decode cX11_family 2 = .ok (.invokevirtual 180, 3) := by decide +kernel
theorem dX11_family_5 : decode cX11_family 5 = .ok (.ifCond .eq 18, 3) := by decide +kernel
theorem dX11_family_8 : decode cX11_family 8 = .ok (.aload_n 0, 1) := by decide +kernel
theorem dX11_family_9 : decode cX11_family 9 = .ok (.iload_n 2, 1) := by decide +kernel
theorem dX11_family_10 : decode cX11_family 10 = .ok (.invokevirtual 235, 3) := by decide +kernel
theorem dX11_family_13 : decode cX11_family 13 = .ok (.ifCond .eq 10, 3) := by decide +kernel
theorem dX11_family_16 : decode cX11_family 16 = .ok (.iload_n 3, 1) := by decide +kernel
theorem dX11_family_17 : decode cX11_family 17 = .ok (.invokestatic 222, 3) := by decide +kernel
theorem dX11_family_20 : decode cX11_family 20 = .ok (.ifCond .ne 5, 3) := by decide +kernel
theorem dX11_family_23 : decode cX11_family 23 = .ok (.iconst (-1), 1) := by decide +kernel
theorem dX11_family_24 : decode cX11_family 24 = .ok (.ireturn, 1) := by decide +kernel
theorem dX11_family_25 : decode cX11_family 25 = .ok (.iload 4, 2) := by decide +kernel
theorem dX11_family_27 : decode cX11_family 27 = .ok (.iconst (-1), 1) := by decide +kernel
theorem dX11_family_28 : decode cX11_family 28 = .ok (.if_icmp .lt 10, 3) := by decide +kernel
theorem dX11_family_31 : decode cX11_family 31 = .ok (.iload 4, 2) := by decide +kernel
theorem dX11_family_33 : decode cX11_family 33 = .ok (.bipush 8, 2) := by decide +kernel
theorem dX11_family_35 : decode cX11_family 35 = .ok (.if_icmp .lt 5, 3) := by decide +kernel
theorem dX11_family_38 : decode cX11_family 38 = .ok (.iconst (-1), 1) := by decide +kernel
theorem dX11_family_39 : decode cX11_family 39 = .ok (.ireturn, 1) := by decide +kernel
theorem dX11_family_40 : decode cX11_family 40 = .ok (.aload_n 0, 1) := by decide +kernel
theorem dX11_family_41 : decode cX11_family 41 = .ok (.iload_n 2, 1) := by decide +kernel
theorem dX11_family_42 : decode cX11_family 42 = .ok (.aload_n 0, 1) := by decide +kernel
theorem dX11_family_43 : decode cX11_family 43 = .ok (.getfield 18, 3) := by decide +kernel
theorem dX11_family_46 : decode cX11_family 46 = .ok (.iload_n 1, 1) := by decide +kernel
theorem dX11_family_47 : decode cX11_family 47 = .ok (.aaload, 1) := by decide +kernel
theorem dX11_family_48 : decode cX11_family 48 = .ok (.getfield 118, 3) := by decide +kernel
theorem dX11_family_51 : decode cX11_family 51 = .ok (.iconst (-1), 1) := by decide +kernel
theorem dX11_family_52 : decode cX11_family 52 = .ok (.invokevirtual 280, 3) := by decide +kernel
theorem dX11_family_55 : decode cX11_family 55 = .ok (.ifCond .ne 6, 3) := by decide +kernel
theorem dX11_family_58 : decode cX11_family 58 = .ok (.bipush (-2), 2) := by decide +kernel
theorem dX11_family_60 : decode cX11_family 60 = .ok (.ireturn, 1) := by decide +kernel
theorem dX11_family_61 : decode cX11_family 61 = .ok (.iload 4, 2) := by decide +kernel
theorem dX11_family_63 : decode cX11_family 63 = .ok (.iconst (-1), 1) := by decide +kernel
theorem dX11_family_64 : decode cX11_family 64 = .ok (.if_icmp .eq 15, 3) := by decide +kernel
theorem dX11_family_67 : decode cX11_family 67 = .ok (.iload_n 2, 1) := by decide +kernel
theorem dX11_family_68 : decode cX11_family 68 = .ok (.iload 4, 2) := by decide +kernel
theorem dX11_family_70 : decode cX11_family 70 = .ok (.invokestatic 268, 3) := by decide +kernel
theorem dX11_family_73 : decode cX11_family 73 = .ok (.ifCond .ne 6, 3) := by decide +kernel
theorem dX11_family_76 : decode cX11_family 76 = .ok (.bipush (-2), 2) := by decide +kernel
theorem dX11_family_78 : decode cX11_family 78 = .ok (.ireturn, 1) := by decide +kernel
theorem dX11_family_79 : decode cX11_family 79 = .ok (.iconst 0, 1) := by decide +kernel
theorem dX11_family_80 : decode cX11_family 80 = .ok (.istore 5, 2) := by decide +kernel
theorem dX11_family_82 : decode cX11_family 82 = .ok (.iconst 0, 1) := by decide +kernel
theorem dX11_family_83 : decode cX11_family 83 = .ok (.istore 6, 2) := by decide +kernel
theorem dX11_family_85 : decode cX11_family 85 = .ok (.iload 6, 2) := by decide +kernel
theorem dX11_family_87 : decode cX11_family 87 = .ok (.bipush 8, 2) := by decide +kernel
theorem dX11_family_89 : decode cX11_family 89 = .ok (.if_icmp .ge 32, 3) := by decide +kernel
theorem dX11_family_92 : decode cX11_family 92 = .ok (.iload_n 2, 1) := by decide +kernel
theorem dX11_family_93 : decode cX11_family 93 = .ok (.iload 6, 2) := by decide +kernel
theorem dX11_family_95 : decode cX11_family 95 = .ok (.invokestatic 268, 3) := by decide +kernel
theorem dX11_family_98 : decode cX11_family 98 = .ok (.ifCond .eq 17, 3) := by decide +kernel
theorem dX11_family_101 : decode cX11_family 101 = .ok (.iload 5, 2) := by decide +kernel
theorem dX11_family_103 : decode cX11_family 103 = .ok (.aload_n 0, 1) := by decide +kernel
theorem dX11_family_104 : decode cX11_family 104 = .ok (.iload 6, 2) := by decide +kernel
theorem dX11_family_106 : decode cX11_family 106 = .ok (.iload_n 1, 1) := by decide +kernel
theorem dX11_family_107 : decode cX11_family 107 = .ok (.iload_n 2, 1) := by decide +kernel
theorem dX11_family_108 : decode cX11_family 108 = .ok (.iload_n 3, 1) := by decide +kernel
theorem dX11_family_109 : decode cX11_family 109 = .ok (.invokevirtual 301, 3) := by decide +kernel
theorem dX11_family_112 : decode cX11_family 112 = .ok (.iadd, 1) := by decide +kernel
theorem dX11_family_113 : decode cX11_family 113 = .ok (.istore 5, 2) := by decide +kernel
theorem dX11_family_115 : decode cX11_family 115 = .ok (.iinc 6 1, 3) := by decide +kernel
theorem dX11_family_118 : decode cX11_family 118 = .ok (.goto (-33), 3) := by decide +kernel
theorem dX11_family_121 : decode cX11_family 121 = .ok (.iload 4, 2) := by decide +kernel
theorem dX11_family_123 : decode cX11_family 123 = .ok (.iconst (-1), 1) := by decide +kernel
theorem dX11_family_124 : decode cX11_family 124 = .ok (.if_icmp .ne 8, 3) := by decide +kernel
theorem dX11_family_127 : decode cX11_family 127 = .ok (.iload 5, 2) := by decide +kernel
theorem dX11_family_129 : decode cX11_family 129 = .ok (.goto 10, 3) := by decide +kernel
theorem dX11_family_132 : decode cX11_family 132 = .ok (.aload_n 0, 1) := by decide +kernel
theorem dX11_family_133 : decode cX11_family 133 = .ok (.getfield 95, 3) := by decide +kernel
theorem dX11_family_136 : decode cX11_family 136 = .ok (.iload 4, 2) := by decide +kernel
theorem dX11_family_138 : decode cX11_family 138 = .ok (.iaload, 1) := by decide +kernel
theorem dX11_family_139 : decode cX11_family 139 = .ok (.ireturn, 1) := by decide +kernel
theorem dX11_feed_0 : decode cX11_feed 0 = .ok (.aload_n 0, 1) := by decide +kernel
theorem dX11_feed_1 : decode cX11_feed 1 = .ok (.getfield 10, 3) := by decide +kernel
theorem dX11_feed_4 : decode cX11_feed 4 = .ok (.bipush 20, 2) := by decide +kernel
theorem dX11_feed_6 : decode cX11_feed 6 = .ok (.invokevirtual 105, 3) := by decide +kernel
theorem dX11_feed_9 : decode cX11_feed 9 = .ok (.ifCond .ne 5, 3) := by decide +kernel
theorem dX11_feed_12 : decode cX11_feed 12 = .ok (.iconst (-1), 1) := by decide +kernel
theorem dX11_feed_13 : decode cX11_feed 13 = .ok (.ireturn, 1) := by decide +kernel
theorem dX11_feed_14 : decode cX11_feed 14 = .ok (.aload_n 0, 1) := by decide +kernel
theorem dX11_feed_15 : decode cX11_feed 15 = .ok (.getfield 10, 3) := by decide +kernel
theorem dX11_feed_18 : decode cX11_feed 18 = .ok (.iload_n 1, 1) := by decide +kernel
theorem dX11_feed_19 : decode cX11_feed 19 = .ok (.invokevirtual 109, 3) := by decide +kernel
theorem dX11_feed_22 : decode cX11_feed 22 = .ok (.aload_n 0, 1) := by decide +kernel
theorem dX11_feed_23 : decode cX11_feed 23 = .ok (.getfield 10, 3) := by decide +kernel
theorem dX11_feed_26 : decode cX11_feed 26 = .ok (.iload_n 2, 1) := by decide +kernel
theorem dX11_feed_27 : decode cX11_feed 27 = .ok (.invokevirtual 109, 3) := by decide +kernel
theorem dX11_feed_30 : decode cX11_feed 30 = .ok (.aload_n 0, 1) := by decide +kernel
theorem dX11_feed_31 : decode cX11_feed 31 = .ok (.getfield 10, 3) := by decide +kernel
theorem dX11_feed_34 : decode cX11_feed 34 = .ok (.iload_n 3, 1) := by decide +kernel
theorem dX11_feed_35 : decode cX11_feed 35 = .ok (.invokevirtual 109, 3) := by decide +kernel
theorem dX11_feed_38 : decode cX11_feed 38 = .ok (.aload_n 0, 1) := by decide +kernel
theorem dX11_feed_39 : decode cX11_feed 39 = .ok (.getfield 10, 3) := by decide +kernel
theorem dX11_feed_42 : decode cX11_feed 42 = .ok (.iload 4, 2) := by decide +kernel
theorem dX11_feed_44 : decode cX11_feed 44 = .ok (.invokevirtual 109, 3) := by decide +kernel
theorem dX11_feed_47 : decode cX11_feed 47 = .ok (.aload_n 0, 1) := by decide +kernel
theorem dX11_feed_48 : decode cX11_feed 48 = .ok (.getfield 10, 3) := by decide +kernel
theorem dX11_feed_51 : decode cX11_feed 51 = .ok (.iload 5, 2) := by decide +kernel
theorem dX11_feed_53 : decode cX11_feed 53 = .ok (.invokevirtual 109, 3) := by decide +kernel
theorem dX11_feed_56 : decode cX11_feed 56 = .ok (.aload_n 0, 1) := by decide +kernel
theorem dX11_feed_57 : decode cX11_feed 57 = .ok (.getfield 10, 3) := by decide +kernel
theorem dX11_feed_60 : decode cX11_feed 60 = .ok (.getfield 112, 3) := by decide +kernel
theorem dX11_feed_63 : decode cX11_feed 63 = .ok (.ireturn, 1) := by decide +kernel
theorem dX11_findParent_0 : decode cX11_findParent 0 = .ok (.aload_n 0, 1) := by decide +kernel
theorem dX11_findParent_1 : decode cX11_findParent 1 = .ok (.getfield 66, 3) := by decide +kernel
theorem dX11_findParent_4 : decode cX11_findParent 4 = .ok (.aload_n 0, 1) := by decide +kernel
theorem dX11_findParent_5 : decode cX11_findParent 5 = .ok (.getfield 18, 3) := by decide +kernel
theorem dX11_findParent_8 : decode cX11_findParent 8 = .ok (.iload_n 2, 1) := by decide +kernel
theorem dX11_findParent_9 : decode cX11_findParent 9 = .ok (.aaload, 1) := by decide +kernel
theorem dX11_findParent_10 : decode cX11_findParent 10 = .ok (.getfield 118, 3) := by decide +kernel
theorem dX11_findParent_13 : decode cX11_findParent 13 = .ok (.aload_n 0, 1) := by decide +kernel
theorem dX11_findParent_14 : decode cX11_findParent 14 = .ok (.getfield 29, 3) := by decide +kernel
theorem dX11_findParent_17 : decode cX11_findParent 17 = .ok (.iload_n 1, 1) := by decide +kernel
theorem dX11_findParent_18 : decode cX11_findParent 18 = .ok (.aaload, 1) := by decide +kernel
theorem dX11_findParent_19 : decode cX11_findParent 19 = .ok (.iload 4, 2) := by decide +kernel
theorem dX11_findParent_21 : decode cX11_findParent 21 = .ok (.invokevirtual 225, 3) := by decide +kernel
theorem dX11_findParent_24 : decode cX11_findParent 24 = .ok (.istore 5, 2) := by decide +kernel
theorem dX11_findParent_26 : decode cX11_findParent 26 = .ok (.aload_n 0, 1) := by decide +kernel
theorem dX11_findParent_27 : decode cX11_findParent 27 = .ok (.getfield 95, 3) := by decide +kernel
theorem dX11_findParent_30 : decode cX11_findParent 30 = .ok (.iload_n 1, 1) := by decide +kernel
theorem dX11_findParent_31 : decode cX11_findParent 31 = .ok (.bipush 8, 2) := by decide +kernel
theorem dX11_findParent_33 : decode cX11_findParent 33 = .ok (.iastore, 1) := by decide +kernel
theorem dX11_findParent_34 : decode cX11_findParent 34 = .ok (.iconst 0, 1) := by decide +kernel
theorem dX11_findParent_35 : decode cX11_findParent 35 = .ok (.istore 6, 2) := by decide +kernel
theorem dX11_findParent_37 : decode cX11_findParent 37 = .ok (.iload 6, 2) := by decide +kernel
theorem dX11_findParent_39 : decode cX11_findParent 39 = .ok (.bipush 8, 2) := by decide +kernel
theorem dX11_findParent_41 : decode cX11_findParent 41 = .ok (.if_icmp .ge 71, 3) := by decide +kernel
theorem dX11_findParent_44 : decode cX11_findParent 44 = .ok (.iload_n 3, 1) := by decide +kernel
theorem dX11_findParent_45 : decode cX11_findParent 45 = .ok (.iload 6, 2) := by decide +kernel
theorem dX11_findParent_47 : decode cX11_findParent 47 = .ok (.invokestatic 268, 3) := by decide +kernel
theorem dX11_findParent_50 : decode cX11_findParent 50 = .ok (.ifCond .eq 56, 3) := by decide +kernel
theorem dX11_findParent_53 : decode cX11_findParent 53 = .ok (.aload_n 0, 1) := by decide +kernel
theorem dX11_findParent_54 : decode cX11_findParent 54 = .ok (.iload_n 1, 1) := by decide +kernel
theorem dX11_findParent_55 : decode cX11_findParent 55 = .ok (.iload 6, 2) := by decide +kernel
theorem dX11_findParent_57 : decode cX11_findParent 57 = .ok (.invokevirtual 369, 3) := by decide +kernel
theorem dX11_findParent_60 : decode cX11_findParent 60 = .ok (.ifCond .eq 46, 3) := by decide +kernel
theorem dX11_findParent_63 : decode cX11_findParent 63 = .ok (.aload_n 0, 1) := by decide +kernel
theorem dX11_findParent_64 : decode cX11_findParent 64 = .ok (.getfield 66, 3) := by decide +kernel
theorem dX11_findParent_67 : decode cX11_findParent 67 = .ok (.aload_n 0, 1) := by decide +kernel
theorem dX11_findParent_68 : decode cX11_findParent 68 = .ok (.getfield 29, 3) := by decide +kernel
theorem dX11_findParent_71 : decode cX11_findParent 71 = .ok (.iload 6, 2) := by decide +kernel
theorem dX11_findParent_73 : decode cX11_findParent 73 = .ok (.aaload, 1) := by decide +kernel
theorem dX11_findParent_74 : decode cX11_findParent 74 = .ok (.aload_n 0, 1) := by decide +kernel
theorem dX11_findParent_75 : decode cX11_findParent 75 = .ok (.getfield 29, 3) := by decide +kernel
theorem dX11_findParent_78 : decode cX11_findParent 78 = .ok (.iload_n 1, 1) := by decide +kernel
theorem dX11_findParent_79 : decode cX11_findParent 79 = .ok (.aaload, 1) := by decide +kernel
theorem dX11_findParent_80 : decode cX11_findParent 80 = .ok (.iload 4, 2) := by decide +kernel
theorem dX11_findParent_82 : decode cX11_findParent 82 = .ok (.invokevirtual 225, 3) := by decide +kernel
theorem dX11_findParent_85 : decode cX11_findParent 85 = .ok (.istore 7, 2) := by decide +kernel
theorem dX11_findParent_87 : decode cX11_findParent 87 = .ok (.iload 7, 2) := by decide +kernel
theorem dX11_findParent_89 : decode cX11_findParent 89 = .ok (.iload 5, 2) := by decide +kernel
theorem dX11_findParent_91 : decode cX11_findParent 91 = .ok (.if_icmp .ge 15, 3) := by decide +kernel
theorem dX11_findParent_94 : decode cX11_findParent 94 = .ok (.iload 7, 2) := by decide +kernel
theorem dX11_findParent_96 : decode cX11_findParent 96 = .ok (.istore 5, 2) := by decide +kernel
theorem dX11_findParent_98 : decode cX11_findParent 98 = .ok (.aload_n 0, 1) := by decide +kernel
theorem dX11_findParent_99 : decode cX11_findParent 99 = .ok (.getfield 95, 3) := by decide +kernel
theorem dX11_findParent_102 : decode cX11_findParent 102 = .ok (.iload_n 1, 1) := by decide +kernel
theorem dX11_findParent_103 : decode cX11_findParent 103 = .ok (.iload 6, 2) := by decide +kernel
theorem dX11_findParent_105 : decode cX11_findParent 105 = .ok (.iastore, 1) := by decide +kernel
theorem dX11_findParent_106 : decode cX11_findParent 106 = .ok (.iinc 6 1, 3) := by decide +kernel
theorem dX11_findParent_109 : decode cX11_findParent 109 = .ok (.goto (-72), 3) := by decide +kernel
theorem dX11_findParent_112 : decode cX11_findParent 112 = .ok (.iload 5, 2) := by decide +kernel
theorem dX11_findParent_114 : decode cX11_findParent 114 = .ok (.ireturn, 1) := by decide +kernel
theorem dX11_forged_0 : decode cX11_forged 0 = .ok (.aload_n 0, 1) := by decide +kernel
theorem dX11_forged_1 : decode cX11_forged 1 = .ok (.iload_n 1, 1) := by decide +kernel
theorem dX11_forged_2 : decode cX11_forged 2 = .ok (.invokevirtual 200, 3) := by decide +kernel
theorem dX11_forged_5 : decode cX11_forged 5 = .ok (.ifCond .ne 5, 3) := by decide +kernel
theorem dX11_forged_8 : decode cX11_forged 8 = .ok (.iconst (-1), 1) := by decide +kernel
theorem dX11_forged_9 : decode cX11_forged 9 = .ok (.ireturn, 1) := by decide +kernel
theorem dX11_forged_10 : decode cX11_forged 10 = .ok (.iconst 0, 1) := by decide +kernel
theorem dX11_forged_11 : decode cX11_forged 11 = .ok (.istore_n 2, 1) := by decide +kernel
theorem dX11_forged_12 : decode cX11_forged 12 = .ok (.iload_n 2, 1) := by decide +kernel
theorem dX11_forged_13 : decode cX11_forged 13 = .ok (.aload_n 0, 1) := by decide +kernel
theorem dX11_forged_14 : decode cX11_forged 14 = .ok (.getfield 23, 3) := by decide +kernel
theorem dX11_forged_17 : decode cX11_forged 17 = .ok (.if_icmp .ge 32, 3) := by decide +kernel
theorem dX11_forged_20 : decode cX11_forged 20 = .ok (.aload_n 0, 1) := by decide +kernel
theorem dX11_forged_21 : decode cX11_forged 21 = .ok (.getfield 29, 3) := by decide +kernel
theorem dX11_forged_24 : decode cX11_forged 24 = .ok (.iload_n 1, 1) := by decide +kernel
theorem dX11_forged_25 : decode cX11_forged 25 = .ok (.aaload, 1) := by decide +kernel
theorem dX11_forged_26 : decode cX11_forged 26 = .ok (.aload_n 0, 1) := by decide +kernel
theorem dX11_forged_27 : decode cX11_forged 27 = .ok (.getfield 18, 3) := by decide +kernel
theorem dX11_forged_30 : decode cX11_forged 30 = .ok (.iload_n 2, 1) := by decide +kernel
theorem dX11_forged_31 : decode cX11_forged 31 = .ok (.aaload, 1) := by decide +kernel
theorem dX11_forged_32 : decode cX11_forged 32 = .ok (.getfield 118, 3) := by decide +kernel
theorem dX11_forged_35 : decode cX11_forged 35 = .ok (.invokevirtual 276, 3) := by decide +kernel
theorem dX11_forged_38 : decode cX11_forged 38 = .ok (.ifCond .eq 5, 3) := by decide +kernel
theorem dX11_forged_41 : decode cX11_forged 41 = .ok (.iconst 0, 1) := by decide +kernel
theorem dX11_forged_42 : decode cX11_forged 42 = .ok (.ireturn, 1) := by decide +kernel
theorem dX11_forged_43 : decode cX11_forged 43 = .ok (.iinc 2 1, 3) := by decide +kernel
theorem dX11_forged_46 : decode cX11_forged 46 = .ok (.goto (-34), 3) := by decide +kernel
theorem dX11_forged_49 : decode cX11_forged 49 = .ok (.iconst 1, 1) := by decide +kernel
theorem dX11_forged_50 : decode cX11_forged 50 = .ok (.ireturn, 1) := by decide +kernel
theorem dX11_forgetSolved_0 : decode cX11_forgetSolved 0 = .ok (.aload_n 0, 1) := by decide +kernel
theorem dX11_forgetSolved_1 : decode cX11_forgetSolved 1 = .ok (.getfield 80, 3) := by decide +kernel
theorem dX11_forgetSolved_4 : decode cX11_forgetSolved 4 = .ok (.iconst 0, 1) := by decide +kernel
theorem dX11_forgetSolved_5 : decode cX11_forgetSolved 5 = .ok (.putfield 238, 3) := by decide +kernel
theorem dX11_forgetSolved_8 : decode cX11_forgetSolved 8 = .ok (.aload_n 0, 1) := by decide +kernel
theorem dX11_forgetSolved_9 : decode cX11_forgetSolved 9 = .ok (.getfield 84, 3) := by decide +kernel
theorem dX11_forgetSolved_12 : decode cX11_forgetSolved 12 = .ok (.ifnull 11, 3) := by decide +kernel
theorem dX11_forgetSolved_15 : decode cX11_forgetSolved 15 = .ok (.aload_n 0, 1) := by decide +kernel
theorem dX11_forgetSolved_16 : decode cX11_forgetSolved 16 = .ok (.getfield 84, 3) := by decide +kernel
theorem dX11_forgetSolved_19 : decode cX11_forgetSolved 19 = .ok (.iconst 0, 1) := by decide +kernel
theorem dX11_forgetSolved_20 : decode cX11_forgetSolved 20 = .ok (.putfield 353, 3) := by decide +kernel
theorem dX11_forgetSolved_23 : decode cX11_forgetSolved 23 = .ok (.return_, 1) := by decide +kernel
theorem dX11_hidden_0 : decode cX11_hidden 0 = .ok (.iload_n 1, 1) := by decide +kernel
theorem dX11_hidden_1 : decode cX11_hidden 1 = .ok (.invokestatic 230, 3) := by decide +kernel
theorem dX11_hidden_4 : decode cX11_hidden 4 = .ok (.istore_n 3, 1) := by decide +kernel
theorem dX11_hidden_5 : decode cX11_hidden 5 = .ok (.aload_n 0, 1) := by decide +kernel
theorem dX11_hidden_6 : decode cX11_hidden 6 = .ok (.iload_n 1, 1) := by decide +kernel
theorem dX11_hidden_7 : decode cX11_hidden 7 = .ok (.invokevirtual 235, 3) := by decide +kernel
theorem dX11_hidden_10 : decode cX11_hidden 10 = .ok (.ifCond .eq 18, 3) := by decide +kernel
theorem dX11_hidden_13 : decode cX11_hidden 13 = .ok (.iload_n 3, 1) := by decide +kernel
theorem dX11_hidden_14 : decode cX11_hidden 14 = .ok (.iconst 2, 1) := by decide +kernel
theorem dX11_hidden_15 : decode cX11_hidden 15 = .ok (.if_icmp .lt 13, 3) := by decide +kernel
theorem dX11_hidden_18 : decode cX11_hidden 18 = .ok (.iload_n 3, 1) := by decide +kernel
theorem dX11_hidden_19 : decode cX11_hidden 19 = .ok (.iconst 3, 1) := by decide +kernel
theorem dX11_hidden_20 : decode cX11_hidden 20 = .ok (.if_icmp .gt 8, 3) := by decide +kernel
theorem dX11_hidden_23 : decode cX11_hidden 23 = .ok (.iload_n 2, 1) := by decide +kernel
theorem dX11_hidden_24 : decode cX11_hidden 24 = .ok (.iconst (-1), 1) := by decide +kernel
theorem dX11_hidden_25 : decode cX11_hidden 25 = .ok (.if_icmp .ge 5, 3) := by decide +kernel
theorem dX11_hidden_28 : decode cX11_hidden 28 = .ok (.iconst (-1), 1) := by decide +kernel
theorem dX11_hidden_29 : decode cX11_hidden 29 = .ok (.ireturn, 1) := by decide +kernel
theorem dX11_hidden_30 : decode cX11_hidden 30 = .ok (.aload_n 0, 1) := by decide +kernel
theorem dX11_hidden_31 : decode cX11_hidden 31 = .ok (.getfield 80, 3) := by decide +kernel
theorem dX11_hidden_34 : decode cX11_hidden 34 = .ok (.getfield 238, 3) := by decide +kernel
theorem dX11_hidden_37 : decode cX11_hidden 37 = .ok (.iload_n 1, 1) := by decide +kernel
theorem dX11_hidden_38 : decode cX11_hidden 38 = .ok (.if_icmp .eq 50, 3) := by decide +kernel
theorem dX11_hidden_41 : decode cX11_hidden 41 = .ok (.aload_n 0, 1) := by decide +kernel
theorem dX11_hidden_42 : decode cX11_hidden 42 = .ok (.iload_n 1, 1) := by decide +kernel
theorem dX11_hidden_43 : decode cX11_hidden 43 = .ok (.iconst 0, 1) := by decide +kernel
theorem dX11_hidden_44 : decode cX11_hidden 44 = .ok (.invokevirtual 241, 3) := by decide +kernel
theorem dX11_hidden_47 : decode cX11_hidden 47 = .ok (.astore 4, 2) := by decide +kernel
theorem dX11_hidden_49 : decode cX11_hidden 49 = .ok (.aload_n 0, 1) := by decide +kernel
theorem dX11_hidden_50 : decode cX11_hidden 50 = .ok (.getfield 80, 3) := by decide +kernel
theorem dX11_hidden_53 : decode cX11_hidden 53 = .ok (.aload 4, 2) := by decide +kernel
theorem dX11_hidden_55 : decode cX11_hidden 55 = .ok (.aload_n 0, 1) := by decide +kernel
theorem dX11_hidden_56 : decode cX11_hidden 56 = .ok (.iload_n 1, 1) := by decide +kernel
theorem dX11_hidden_57 : decode cX11_hidden 57 = .ok (.iconst 1, 1) := by decide +kernel
theorem dX11_hidden_58 : decode cX11_hidden 58 = .ok (.invokevirtual 241, 3) := by decide +kernel
theorem dX11_hidden_61 : decode cX11_hidden 61 = .ok (.iload_n 3, 1) := by decide +kernel
theorem dX11_hidden_62 : decode cX11_hidden 62 = .ok (.iconst 3, 1) := by decide +kernel
theorem dX11_hidden_63 : decode cX11_hidden 63 = .ok (.if_icmp .ne 12, 3) := by decide +kernel
theorem dX11_hidden_66 : decode cX11_hidden 66 = .ok (.aload_n 0, 1) := by decide +kernel
theorem dX11_hidden_67 : decode cX11_hidden 67 = .ok (.iload_n 1, 1) := by decide +kernel
theorem dX11_hidden_68 : decode cX11_hidden 68 = .ok (.iconst 2, 1) := by decide +kernel
theorem dX11_hidden_69 : decode cX11_hidden 69 = .ok (.invokevirtual 241, 3) := by decide +kernel
theorem dX11_hidden_72 : decode cX11_hidden 72 = .ok (.goto 5, 3) := by decide +kernel
theorem dX11_hidden_75 : decode cX11_hidden 75 = .ok (.aload 4, 2) := by decide +kernel
theorem dX11_hidden_77 : decode cX11_hidden 77 = .ok (.invokevirtual 245, 3) := by decide +kernel
theorem dX11_hidden_80 : decode cX11_hidden 80 = .ok (.aload_n 0, 1) := by decide +kernel
theorem dX11_hidden_81 : decode cX11_hidden 81 = .ok (.getfield 80, 3) := by decide +kernel
theorem dX11_hidden_84 : decode cX11_hidden 84 = .ok (.iload_n 1, 1) := by decide +kernel
theorem dX11_hidden_85 : decode cX11_hidden 85 = .ok (.putfield 238, 3) := by decide +kernel
theorem dX11_hidden_88 : decode cX11_hidden 88 = .ok (.iload_n 2, 1) := by decide +kernel
theorem dX11_hidden_89 : decode cX11_hidden 89 = .ok (.iconst (-1), 1) := by decide +kernel
theorem dX11_hidden_90 : decode cX11_hidden 90 = .ok (.if_icmp .ne 16, 3) := by decide +kernel
theorem dX11_hidden_93 : decode cX11_hidden 93 = .ok (.aload_n 0, 1) := by decide +kernel
theorem dX11_hidden_94 : decode cX11_hidden 94 = .ok (.getfield 80, 3) := by decide +kernel
theorem dX11_hidden_97 : decode cX11_hidden 97 = .ok (.getfield 249, 3) := by decide +kernel
theorem dX11_hidden_100 : decode cX11_hidden 100 = .ok (.getfield 171, 3) := by decide +kernel
theorem dX11_hidden_103 : decode cX11_hidden 103 = .ok (.goto 14, 3) := by decide +kernel
theorem dX11_hidden_106 : decode cX11_hidden 106 = .ok (.aload_n 0, 1) := by decide +kernel
theorem dX11_hidden_107 : decode cX11_hidden 107 = .ok (.getfield 80, 3) := by decide +kernel
theorem dX11_hidden_110 : decode cX11_hidden 110 = .ok (.getfield 249, 3) := by decide +kernel
theorem dX11_hidden_113 : decode cX11_hidden 113 = .ok (.iload_n 2, 1) := by decide +kernel
theorem dX11_hidden_114 : decode cX11_hidden 114 = .ok (.invokevirtual 150, 3) := by decide +kernel
theorem dX11_hidden_117 : decode cX11_hidden 117 = .ok (.ireturn, 1) := by decide +kernel
theorem dX11_init_0 : decode cX11_init 0 = .ok (.aload_n 0, 1) := by decide +kernel
theorem dX11_init_1 : decode cX11_init 1 = .ok (.invokespecial 1, 3) := by decide +kernel
theorem dX11_init_4 : decode cX11_init 4 = .ok (.aload_n 0, 1) := by decide +kernel
theorem dX11_init_5 : decode cX11_init 5 = .ok (.new 7, 3) := by decide +kernel
theorem dX11_init_8 : decode cX11_init 8 = .ok (.dup, 1) := by decide +kernel
theorem dX11_init_9 : decode cX11_init 9 = .ok (.invokespecial 9, 3) := by decide +kernel
theorem dX11_init_12 : decode cX11_init 12 = .ok (.putfield 10, 3) := by decide +kernel
theorem dX11_init_15 : decode cX11_init 15 = .ok (.aload_n 0, 1) := by decide +kernel
theorem dX11_init_16 : decode cX11_init 16 = .ok (.bipush 8, 2) := by decide +kernel
theorem dX11_init_18 : decode cX11_init 18 = .ok (.anewarray 16, 3) := by decide +kernel
theorem dX11_init_21 : decode cX11_init 21 = .ok (.putfield 18, 3) := by decide +kernel
theorem dX11_init_24 : decode cX11_init 24 = .ok (.iconst 0, 1) := by decide +kernel
theorem dX11_init_25 : decode cX11_init 25 = .ok (.istore_n 1, 1) := by decide +kernel
theorem dX11_init_26 : decode cX11_init 26 = .ok (.iload_n 1, 1) := by decide +kernel
theorem dX11_init_27 : decode cX11_init 27 = .ok (.bipush 8, 2) := by decide +kernel
theorem dX11_init_29 : decode cX11_init 29 = .ok (.if_icmp .ge 22, 3) := by decide +kernel
theorem dX11_init_32 : decode cX11_init 32 = .ok (.aload_n 0, 1) := by decide +kernel
theorem dX11_init_33 : decode cX11_init 33 = .ok (.getfield 18, 3) := by decide +kernel
theorem dX11_init_36 : decode cX11_init 36 = .ok (.iload_n 1, 1) := by decide +kernel
theorem dX11_init_37 : decode cX11_init 37 = .ok (.new 16, 3) := by decide +kernel
theorem dX11_init_40 : decode cX11_init 40 = .ok (.dup, 1) := by decide +kernel
theorem dX11_init_41 : decode cX11_init 41 = .ok (.invokespecial 22, 3) := by decide +kernel
theorem dX11_init_44 : decode cX11_init 44 = .ok (.aastore, 1) := by decide +kernel
theorem dX11_init_45 : decode cX11_init 45 = .ok (.iinc 1 1, 3) := by decide +kernel
theorem dX11_init_48 : decode cX11_init 48 = .ok (.goto (-22), 3) := by decide +kernel
theorem dX11_init_51 : decode cX11_init 51 = .ok (.aload_n 0, 1) := by decide +kernel
theorem dX11_init_52 : decode cX11_init 52 = .ok (.iconst 0, 1) := by decide +kernel
theorem dX11_init_53 : decode cX11_init 53 = .ok (.putfield 23, 3) := by decide +kernel
theorem dX11_init_56 : decode cX11_init 56 = .ok (.aload_n 0, 1) := by decide +kernel
theorem dX11_init_57 : decode cX11_init 57 = .ok (.bipush 8, 2) := by decide +kernel
theorem dX11_init_59 : decode cX11_init 59 = .ok (.anewarray 27, 3) := by decide +kernel
theorem dX11_init_62 : decode cX11_init 62 = .ok (.putfield 29, 3) := by decide +kernel
theorem dX11_init_65 : decode cX11_init 65 = .ok (.iconst 0, 1) := by decide +kernel
theorem dX11_init_66 : decode cX11_init 66 = .ok (.istore_n 1, 1) := by decide +kernel
theorem dX11_init_67 : decode cX11_init 67 = .ok (.iload_n 1, 1) := by decide +kernel
theorem dX11_init_68 : decode cX11_init 68 = .ok (.bipush 8, 2) := by decide +kernel
theorem dX11_init_70 : decode cX11_init 70 = .ok (.if_icmp .ge 24, 3) := by decide +kernel
theorem dX11_init_73 : decode cX11_init 73 = .ok (.aload_n 0, 1) := by decide +kernel
theorem dX11_init_74 : decode cX11_init 74 = .ok (.getfield 29, 3) := by decide +kernel
theorem dX11_init_77 : decode cX11_init 77 = .ok (.iload_n 1, 1) := by decide +kernel
theorem dX11_init_78 : decode cX11_init 78 = .ok (.new 27, 3) := by decide +kernel
theorem dX11_init_81 : decode cX11_init 81 = .ok (.dup, 1) := by decide +kernel
theorem dX11_init_82 : decode cX11_init 82 = .ok (.bipush 16, 2) := by decide +kernel
theorem dX11_init_84 : decode cX11_init 84 = .ok (.invokespecial 33, 3) := by decide +kernel
theorem dX11_init_87 : decode cX11_init 87 = .ok (.aastore, 1) := by decide +kernel
theorem dX11_init_88 : decode cX11_init 88 = .ok (.iinc 1 1, 3) := by decide +kernel
theorem dX11_init_91 : decode cX11_init 91 = .ok (.goto (-24), 3) := by decide +kernel
theorem dX11_init_94 : decode cX11_init 94 = .ok (.aload_n 0, 1) := by decide +kernel
theorem dX11_init_95 : decode cX11_init 95 = .ok (.new 36, 3) := by decide +kernel
theorem dX11_init_98 : decode cX11_init 98 = .ok (.dup, 1) := by decide +kernel
theorem dX11_init_99 : decode cX11_init 99 = .ok (.invokespecial 38, 3) := by decide +kernel
theorem dX11_init_102 : decode cX11_init 102 = .ok (.putfield 39, 3) := by decide +kernel
theorem dX11_init_105 : decode cX11_init 105 = .ok (.aload_n 0, 1) := by decide +kernel
theorem dX11_init_106 : decode cX11_init 106 = .ok (.new 43, 3) := by decide +kernel
theorem dX11_init_109 : decode cX11_init 109 = .ok (.dup, 1) := by decide +kernel
theorem dX11_init_110 : decode cX11_init 110 = .ok (.invokespecial 45, 3) := by decide +kernel
theorem dX11_init_113 : decode cX11_init 113 = .ok (.putfield 46, 3) := by decide +kernel
theorem dX11_init_116 : decode cX11_init 116 = .ok (.aload_n 0, 1) := by decide +kernel
theorem dX11_init_117 : decode cX11_init 117 = .ok (.new 50, 3) := by decide +kernel
theorem dX11_init_120 : decode cX11_init 120 = .ok (.dup, 1) := by decide +kernel
theorem dX11_init_121 : decode cX11_init 121 = .ok (.invokespecial 52, 3) := by decide +kernel
theorem dX11_init_124 : decode cX11_init 124 = .ok (.putfield 53, 3) := by decide +kernel
theorem dX11_init_127 : decode cX11_init 127 = .ok (.aload_n 0, 1) := by decide +kernel
theorem dX11_init_128 : decode cX11_init 128 = .ok (.iconst 0, 1) := by decide +kernel
theorem dX11_init_129 : decode cX11_init 129 = .ok (.putfield 57, 3) := by decide +kernel
theorem dX11_init_132 : decode cX11_init 132 = .ok (.aload_n 0, 1) := by decide +kernel
theorem dX11_init_133 : decode cX11_init 133 = .ok (.iconst 1, 1) := by decide +kernel
theorem dX11_init_134 : decode cX11_init 134 = .ok (.putfield 60, 3) := by decide +kernel
theorem dX11_init_137 : decode cX11_init 137 = .ok (.aload_n 0, 1) := by decide +kernel
theorem dX11_init_138 : decode cX11_init 138 = .ok (.new 63, 3) := by decide +kernel
theorem dX11_init_141 : decode cX11_init 141 = .ok (.dup, 1) := by decide +kernel
theorem dX11_init_142 : decode cX11_init 142 = .ok (.invokespecial 65, 3) := by decide +kernel
theorem dX11_init_145 : decode cX11_init 145 = .ok (.putfield 66, 3) := by decide +kernel
theorem dX11_init_148 : decode cX11_init 148 = .ok (.aload_n 0, 1) := by decide +kernel
theorem dX11_init_149 : decode cX11_init 149 = .ok (.new 70, 3) := by decide +kernel
theorem dX11_init_152 : decode cX11_init 152 = .ok (.dup, 1) := by decide +kernel
theorem dX11_init_153 : decode cX11_init 153 = .ok (.invokespecial 72, 3) := by decide +kernel
theorem dX11_init_156 : decode cX11_init 156 = .ok (.putfield 73, 3) := by decide +kernel
theorem dX11_init_159 : decode cX11_init 159 = .ok (.aload_n 0, 1) := by decide +kernel
theorem dX11_init_160 : decode cX11_init 160 = .ok (.new 77, 3) := by decide +kernel
theorem dX11_init_163 : decode cX11_init 163 = .ok (.dup, 1) := by decide +kernel
theorem dX11_init_164 : decode cX11_init 164 = .ok (.invokespecial 79, 3) := by decide +kernel
theorem dX11_init_167 : decode cX11_init 167 = .ok (.putfield 80, 3) := by decide +kernel
theorem dX11_init_170 : decode cX11_init 170 = .ok (.aload_n 0, 1) := by decide +kernel
theorem dX11_init_171 : decode cX11_init 171 = .ok (.aconst_null, 1) := by decide +kernel
theorem dX11_init_172 : decode cX11_init 172 = .ok (.putfield 84, 3) := by decide +kernel
theorem dX11_init_175 : decode cX11_init 175 = .ok (.aload_n 0, 1) := by decide +kernel
theorem dX11_init_176 : decode cX11_init 176 = .ok (.new 88, 3) := by decide +kernel
theorem dX11_init_179 : decode cX11_init 179 = .ok (.dup, 1) := by decide +kernel
theorem dX11_init_180 : decode cX11_init 180 = .ok (.invokespecial 90, 3) := by decide +kernel
theorem dX11_init_183 : decode cX11_init 183 = .ok (.putfield 91, 3) := by decide +kernel
theorem dX11_init_186 : decode cX11_init 186 = .ok (.aload_n 0, 1) := by decide +kernel
theorem dX11_init_187 : decode cX11_init 187 = .ok (.bipush 8, 2) := by decide +kernel
theorem dX11_init_189 : decode cX11_init 189 = .ok (.newarray .int, 2) := by decide +kernel
theorem dX11_init_191 : decode cX11_init 191 = .ok (.putfield 95, 3) := by decide +kernel
theorem dX11_init_194 : decode cX11_init 194 = .ok (.aload_n 0, 1) := by decide +kernel
theorem dX11_init_195 : decode cX11_init 195 = .ok (.bipush 8, 2) := by decide +kernel
theorem dX11_init_197 : decode cX11_init 197 = .ok (.newarray .int, 2) := by decide +kernel
theorem dX11_init_199 : decode cX11_init 199 = .ok (.putfield 99, 3) := by decide +kernel
theorem dX11_init_202 : decode cX11_init 202 = .ok (.aload_n 0, 1) := by decide +kernel
theorem dX11_init_203 : decode cX11_init 203 = .ok (.bipush 8, 2) := by decide +kernel
theorem dX11_init_205 : decode cX11_init 205 = .ok (.newarray .int, 2) := by decide +kernel
theorem dX11_init_207 : decode cX11_init 207 = .ok (.putfield 102, 3) := by decide +kernel
theorem dX11_init_210 : decode cX11_init 210 = .ok (.return_, 1) := by decide +kernel
theorem dX11_isAmong_0 : decode cX11_isAmong 0 = .ok (.iload_n 0, 1) := by decide +kernel
theorem dX11_isAmong_1 : decode cX11_isAmong 1 = .ok (.iload_n 1, 1) := by decide +kernel
theorem dX11_isAmong_2 : decode cX11_isAmong 2 = .ok (.ishr, 1) := by decide +kernel
theorem dX11_isAmong_3 : decode cX11_isAmong 3 = .ok (.iconst 1, 1) := by decide +kernel
theorem dX11_isAmong_4 : decode cX11_isAmong 4 = .ok (.iand, 1) := by decide +kernel
theorem dX11_isAmong_5 : decode cX11_isAmong 5 = .ok (.iconst 1, 1) := by decide +kernel
theorem dX11_isAmong_6 : decode cX11_isAmong 6 = .ok (.if_icmp .ne 7, 3) := by decide +kernel
theorem dX11_isAmong_9 : decode cX11_isAmong 9 = .ok (.iconst 1, 1) := by decide +kernel
theorem dX11_isAmong_10 : decode cX11_isAmong 10 = .ok (.goto 4, 3) := by decide +kernel
theorem dX11_isAmong_13 : decode cX11_isAmong 13 = .ok (.iconst 0, 1) := by decide +kernel
theorem dX11_isAmong_14 : decode cX11_isAmong 14 = .ok (.ireturn, 1) := by decide +kernel
theorem dX11_isBlank_0 : decode cX11_isBlank 0 = .ok (.iload_n 1, 1) := by decide +kernel
theorem dX11_isBlank_1 : decode cX11_isBlank 1 = .ok (.ifCond .lt 15, 3) := by decide +kernel
theorem dX11_isBlank_4 : decode cX11_isBlank 4 = .ok (.iload_n 1, 1) := by decide +kernel
theorem dX11_isBlank_5 : decode cX11_isBlank 5 = .ok (.aload_n 0, 1) := by decide +kernel
theorem dX11_isBlank_6 : decode cX11_isBlank 6 = .ok (.getfield 23, 3) := by decide +kernel
theorem dX11_isBlank_9 : decode cX11_isBlank 9 = .ok (.if_icmp .ge 7, 3) := by decide +kernel
theorem dX11_isBlank_12 : decode cX11_isBlank 12 = .ok (.iconst 1, 1) := by decide +kernel
theorem dX11_isBlank_13 : decode cX11_isBlank 13 = .ok (.goto 4, 3) := by decide +kernel
theorem dX11_isBlank_16 : decode cX11_isBlank 16 = .ok (.iconst 0, 1) := by decide +kernel
theorem dX11_isBlank_17 : decode cX11_isBlank 17 = .ok (.ireturn, 1) := by decide +kernel
theorem dX11_isClerk_0 : decode cX11_isClerk 0 = .ok (.iload_n 0, 1) := by decide +kernel
theorem dX11_isClerk_1 : decode cX11_isClerk 1 = .ok (.ifCond .lt 13, 3) := by decide +kernel
theorem dX11_isClerk_4 : decode cX11_isClerk 4 = .ok (.iload_n 0, 1) := by decide +kernel
theorem dX11_isClerk_5 : decode cX11_isClerk 5 = .ok (.bipush 8, 2) := by decide +kernel
theorem dX11_isClerk_7 : decode cX11_isClerk 7 = .ok (.if_icmp .ge 7, 3) := by decide +kernel
theorem dX11_isClerk_10 : decode cX11_isClerk 10 = .ok (.iconst 1, 1) := by decide +kernel
theorem dX11_isClerk_11 : decode cX11_isClerk 11 = .ok (.goto 4, 3) := by decide +kernel
theorem dX11_isClerk_14 : decode cX11_isClerk 14 = .ok (.iconst 0, 1) := by decide +kernel
theorem dX11_isClerk_15 : decode cX11_isClerk 15 = .ok (.ireturn, 1) := by decide +kernel
theorem dX11_isDeed_0 : decode cX11_isDeed 0 = .ok (.iload_n 1, 1) := by decide +kernel
theorem dX11_isDeed_1 : decode cX11_isDeed 1 = .ok (.ifCond .lt 25, 3) := by decide +kernel
theorem dX11_isDeed_4 : decode cX11_isDeed 4 = .ok (.iload_n 1, 1) := by decide +kernel
theorem dX11_isDeed_5 : decode cX11_isDeed 5 = .ok (.bipush 8, 2) := by decide +kernel
theorem dX11_isDeed_7 : decode cX11_isDeed 7 = .ok (.if_icmp .ge 19, 3) := by decide +kernel
theorem dX11_isDeed_10 : decode cX11_isDeed 10 = .ok (.aload_n 0, 1) := by decide +kernel
theorem dX11_isDeed_11 : decode cX11_isDeed 11 = .ok (.getfield 29, 3) := by decide +kernel
theorem dX11_isDeed_14 : decode cX11_isDeed 14 = .ok (.iload_n 1, 1) := by decide +kernel
theorem dX11_isDeed_15 : decode cX11_isDeed 15 = .ok (.aaload, 1) := by decide +kernel
theorem dX11_isDeed_16 : decode cX11_isDeed 16 = .ok (.getfield 171, 3) := by decide +kernel
theorem dX11_isDeed_19 : decode cX11_isDeed 19 = .ok (.ifCond .le 7, 3) := by decide +kernel
theorem dX11_isDeed_22 : decode cX11_isDeed 22 = .ok (.iconst 1, 1) := by decide +kernel
theorem dX11_isDeed_23 : decode cX11_isDeed 23 = .ok (.goto 4, 3) := by decide +kernel
theorem dX11_isDeed_26 : decode cX11_isDeed 26 = .ok (.iconst 0, 1) := by decide +kernel
theorem dX11_isDeed_27 : decode cX11_isDeed 27 = .ok (.ireturn, 1) := by decide +kernel
theorem dX11_isPlace_0 : decode cX11_isPlace 0 = .ok (.aload_n 0, 1) := by decide +kernel
theorem dX11_isPlace_1 : decode cX11_isPlace 1 = .ok (.iload_n 1, 1) := by decide +kernel
theorem dX11_isPlace_2 : decode cX11_isPlace 2 = .ok (.invokevirtual 180, 3) := by decide +kernel
theorem dX11_isPlace_5 : decode cX11_isPlace 5 = .ok (.ifCond .eq 27, 3) := by decide +kernel
theorem dX11_isPlace_8 : decode cX11_isPlace 8 = .ok (.iload_n 2, 1) := by decide +kernel
theorem dX11_isPlace_9 : decode cX11_isPlace 9 = .ok (.ifCond .lt 23, 3) := by decide +kernel
theorem dX11_isPlace_12 : decode cX11_isPlace 12 = .ok (.iload_n 2, 1) := by decide +kernel
theorem dX11_isPlace_13 : decode cX11_isPlace 13 = .ok (.aload_n 0, 1) := by decide +kernel
theorem dX11_isPlace_14 : decode cX11_isPlace 14 = .ok (.getfield 18, 3) := by decide +kernel
theorem dX11_isPlace_17 : decode cX11_isPlace 17 = .ok (.iload_n 1, 1) := by decide +kernel
theorem dX11_isPlace_18 : decode cX11_isPlace 18 = .ok (.aaload, 1) := by decide +kernel
theorem dX11_isPlace_19 : decode cX11_isPlace 19 = .ok (.getfield 147, 3) := by decide +kernel
theorem dX11_isPlace_22 : decode cX11_isPlace 22 = .ok (.getfield 171, 3) := by decide +kernel
theorem dX11_isPlace_25 : decode cX11_isPlace 25 = .ok (.if_icmp .ge 7, 3) := by decide +kernel
theorem dX11_isPlace_28 : decode cX11_isPlace 28 = .ok (.iconst 1, 1) := by decide +kernel
theorem dX11_isPlace_29 : decode cX11_isPlace 29 = .ok (.goto 4, 3) := by decide +kernel
theorem dX11_isPlace_32 : decode cX11_isPlace 32 = .ok (.iconst 0, 1) := by decide +kernel
theorem dX11_isPlace_33 : decode cX11_isPlace 33 = .ok (.ireturn, 1) := by decide +kernel
theorem dX11_isWidth_0 : decode cX11_isWidth 0 = .ok (.iload_n 0, 1) := by decide +kernel
theorem dX11_isWidth_1 : decode cX11_isWidth 1 = .ok (.iconst 1, 1) := by decide +kernel
theorem dX11_isWidth_2 : decode cX11_isWidth 2 = .ok (.if_icmp .lt 13, 3) := by decide +kernel
theorem dX11_isWidth_5 : decode cX11_isWidth 5 = .ok (.iload_n 0, 1) := by decide +kernel
theorem dX11_isWidth_6 : decode cX11_isWidth 6 = .ok (.bipush 9, 2) := by decide +kernel
theorem dX11_isWidth_8 : decode cX11_isWidth 8 = .ok (.if_icmp .gt 7, 3) := by decide +kernel
theorem dX11_isWidth_11 : decode cX11_isWidth 11 = .ok (.iconst 1, 1) := by decide +kernel
theorem dX11_isWidth_12 : decode cX11_isWidth 12 = .ok (.goto 4, 3) := by decide +kernel
theorem dX11_isWidth_15 : decode cX11_isWidth 15 = .ok (.iconst 0, 1) := by decide +kernel
theorem dX11_isWidth_16 : decode cX11_isWidth 16 = .ok (.ireturn, 1) := by decide +kernel
theorem dX11_law_0 : decode cX11_law 0 = .ok (.iload_n 1, 1) := by decide +kernel
theorem dX11_law_1 : decode cX11_law 1 = .ok (.iconst 1, 1) := by decide +kernel
theorem dX11_law_2 : decode cX11_law 2 = .ok (.if_icmp .lt 21, 3) := by decide +kernel
theorem dX11_law_5 : decode cX11_law 5 = .ok (.iload_n 1, 1) := by decide +kernel
theorem dX11_law_6 : decode cX11_law 6 = .ok (.sipush 160, 3) := by decide +kernel
theorem dX11_law_9 : decode cX11_law 9 = .ok (.if_icmp .gt 14, 3) := by decide +kernel
theorem dX11_law_12 : decode cX11_law 12 = .ok (.iload_n 1, 1) := by decide +kernel
theorem dX11_law_13 : decode cX11_law 13 = .ok (.aload_n 0, 1) := by decide +kernel
theorem dX11_law_14 : decode cX11_law 14 = .ok (.getfield 10, 3) := by decide +kernel
theorem dX11_law_17 : decode cX11_law 17 = .ok (.getfield 112, 3) := by decide +kernel
theorem dX11_law_20 : decode cX11_law 20 = .ok (.if_icmp .le 5, 3) := by decide +kernel
theorem dX11_law_23 : decode cX11_law 23 = .ok (.iconst (-1), 1) := by decide +kernel
theorem dX11_law_24 : decode cX11_law 24 = .ok (.ireturn, 1) := by decide +kernel
theorem dX11_law_25 : decode cX11_law 25 = .ok (.aload_n 0, 1) := by decide +kernel
theorem dX11_law_26 : decode cX11_law 26 = .ok (.getfield 46, 3) := by decide +kernel
theorem dX11_law_29 : decode cX11_law 29 = .ok (.aload_n 0, 1) := by decide +kernel
theorem dX11_law_30 : decode cX11_law 30 = .ok (.getfield 10, 3) := by decide +kernel
theorem dX11_law_33 : decode cX11_law 33 = .ok (.getfield 132, 3) := by decide +kernel
theorem dX11_law_36 : decode cX11_law 36 = .ok (.iload_n 1, 1) := by decide +kernel
theorem dX11_law_37 : decode cX11_law 37 = .ok (.invokevirtual 135, 3) := by decide +kernel
theorem dX11_law_40 : decode cX11_law 40 = .ok (.istore_n 2, 1) := by decide +kernel
theorem dX11_law_41 : decode cX11_law 41 = .ok (.aload_n 0, 1) := by decide +kernel
theorem dX11_law_42 : decode cX11_law 42 = .ok (.getfield 10, 3) := by decide +kernel
theorem dX11_law_45 : decode cX11_law 45 = .ok (.iconst 0, 1) := by decide +kernel
theorem dX11_law_46 : decode cX11_law 46 = .ok (.putfield 112, 3) := by decide +kernel
theorem dX11_law_49 : decode cX11_law 49 = .ok (.iload_n 2, 1) := by decide +kernel
theorem dX11_law_50 : decode cX11_law 50 = .ok (.ifCond .lt 18, 3) := by decide +kernel
theorem dX11_law_53 : decode cX11_law 53 = .ok (.aload_n 0, 1) := by decide +kernel
theorem dX11_law_54 : decode cX11_law 54 = .ok (.aload_n 0, 1) := by decide +kernel
theorem dX11_law_55 : decode cX11_law 55 = .ok (.getfield 46, 3) := by decide +kernel
theorem dX11_law_58 : decode cX11_law 58 = .ok (.aload_n 0, 1) := by decide +kernel
theorem dX11_law_59 : decode cX11_law 59 = .ok (.getfield 39, 3) := by decide +kernel
theorem dX11_law_62 : decode cX11_law 62 = .ok (.invokevirtual 139, 3) := by decide +kernel
theorem dX11_law_65 : decode cX11_law 65 = .ok (.putfield 39, 3) := by decide +kernel
theorem dX11_law_68 : decode cX11_law 68 = .ok (.iload_n 2, 1) := by decide +kernel
theorem dX11_law_69 : decode cX11_law 69 = .ok (.ireturn, 1) := by decide +kernel
theorem dX11_left_0 : decode cX11_left 0 = .ok (.aload_n 0, 1) := by decide +kernel
theorem dX11_left_1 : decode cX11_left 1 = .ok (.iload_n 1, 1) := by decide +kernel
theorem dX11_left_2 : decode cX11_left 2 = .ok (.iload_n 2, 1) := by decide +kernel
theorem dX11_left_3 : decode cX11_left 3 = .ok (.invokevirtual 143, 3) := by decide +kernel
theorem dX11_left_6 : decode cX11_left 6 = .ok (.ifCond .ne 5, 3) := by decide +kernel
theorem dX11_left_9 : decode cX11_left 9 = .ok (.iconst (-1), 1) := by decide +kernel
theorem dX11_left_10 : decode cX11_left 10 = .ok (.ireturn, 1) := by decide +kernel
theorem dX11_left_11 : decode cX11_left 11 = .ok (.iload_n 3, 1) := by decide +kernel
theorem dX11_left_12 : decode cX11_left 12 = .ok (.ifCond .ne 17, 3) := by decide +kernel
theorem dX11_left_15 : decode cX11_left 15 = .ok (.aload_n 0, 1) := by decide +kernel
theorem dX11_left_16 : decode cX11_left 16 = .ok (.getfield 18, 3) := by decide +kernel
theorem dX11_left_19 : decode cX11_left 19 = .ok (.iload_n 1, 1) := by decide +kernel
theorem dX11_left_20 : decode cX11_left 20 = .ok (.aaload, 1) := by decide +kernel
theorem dX11_left_21 : decode cX11_left 21 = .ok (.getfield 147, 3) := by decide +kernel
theorem dX11_left_24 : decode cX11_left 24 = .ok (.iload_n 2, 1) := by decide +kernel
theorem dX11_left_25 : decode cX11_left 25 = .ok (.invokevirtual 150, 3) := by decide +kernel
theorem dX11_left_28 : decode cX11_left 28 = .ok (.ireturn, 1) := by decide +kernel
theorem dX11_left_29 : decode cX11_left 29 = .ok (.iload_n 3, 1) := by decide +kernel
theorem dX11_left_30 : decode cX11_left 30 = .ok (.iconst 1, 1) := by decide +kernel
theorem dX11_left_31 : decode cX11_left 31 = .ok (.if_icmp .ne 16, 3) := by decide +kernel
theorem dX11_left_34 : decode cX11_left 34 = .ok (.aload_n 0, 1) := by decide +kernel
theorem dX11_left_35 : decode cX11_left 35 = .ok (.getfield 18, 3) := by decide +kernel
theorem dX11_left_38 : decode cX11_left 38 = .ok (.iload_n 1, 1) := by decide +kernel
theorem dX11_left_39 : decode cX11_left 39 = .ok (.aaload, 1) := by decide +kernel
theorem dX11_left_40 : decode cX11_left 40 = .ok (.iload_n 2, 1) := by decide +kernel
theorem dX11_left_41 : decode cX11_left 41 = .ok (.invokevirtual 154, 3) := by decide +kernel
theorem dX11_left_44 : decode cX11_left 44 = .ok (.goto 4, 3) := by decide +kernel
theorem dX11_left_47 : decode cX11_left 47 = .ok (.iconst (-1), 1) := by decide +kernel
theorem dX11_left_48 : decode cX11_left 48 = .ok (.ireturn, 1) := by decide +kernel
theorem dX11_linkChain_0 : decode cX11_linkChain 0 = .ok (.iconst 0, 1) := by decide +kernel
theorem dX11_linkChain_1 : decode cX11_linkChain 1 = .ok (.istore_n 2, 1) := by decide +kernel
theorem dX11_linkChain_2 : decode cX11_linkChain 2 = .ok (.iconst (-1), 1) := by decide +kernel
theorem dX11_linkChain_3 : decode cX11_linkChain 3 = .ok (.istore_n 3, 1) := by decide +kernel
theorem dX11_linkChain_4 : decode cX11_linkChain 4 = .ok (.iconst 0, 1) := by decide +kernel
theorem dX11_linkChain_5 : decode cX11_linkChain 5 = .ok (.istore 4, 2) := by decide +kernel
theorem dX11_linkChain_7 : decode cX11_linkChain 7 = .ok (.iload 4, 2) := by decide +kernel
theorem dX11_linkChain_9 : decode cX11_linkChain 9 = .ok (.bipush 8, 2) := by decide +kernel
theorem dX11_linkChain_11 : decode cX11_linkChain 11 = .ok (.if_icmp .ge 45, 3) := by decide +kernel
theorem dX11_linkChain_14 : decode cX11_linkChain 14 = .ok (.aload_n 0, 1) := by decide +kernel
theorem dX11_linkChain_15 : decode cX11_linkChain 15 = .ok (.getfield 99, 3) := by decide +kernel
theorem dX11_linkChain_18 : decode cX11_linkChain 18 = .ok (.iload 4, 2) := by decide +kernel
theorem dX11_linkChain_20 : decode cX11_linkChain 20 = .ok (.iaload, 1) := by decide +kernel
theorem dX11_linkChain_21 : decode cX11_linkChain 21 = .ok (.iload_n 2, 1) := by decide +kernel
theorem dX11_linkChain_22 : decode cX11_linkChain 22 = .ok (.if_icmp .le 28, 3) := by decide +kernel
theorem dX11_linkChain_25 : decode cX11_linkChain 25 = .ok (.aload_n 0, 1) := by decide +kernel
theorem dX11_linkChain_26 : decode cX11_linkChain 26 = .ok (.getfield 29, 3) := by decide +kernel
theorem dX11_linkChain_29 : decode cX11_linkChain 29 = .ok (.iload 4, 2) := by decide +kernel
theorem dX11_linkChain_31 : decode cX11_linkChain 31 = .ok (.aaload, 1) := by decide +kernel
theorem dX11_linkChain_32 : decode cX11_linkChain 32 = .ok (.aload_n 1, 1) := by decide +kernel
theorem dX11_linkChain_33 : decode cX11_linkChain 33 = .ok (.invokevirtual 276, 3) := by decide +kernel
theorem dX11_linkChain_36 : decode cX11_linkChain 36 = .ok (.ifCond .eq 14, 3) := by decide +kernel
theorem dX11_linkChain_39 : decode cX11_linkChain 39 = .ok (.aload_n 0, 1) := by decide +kernel
theorem dX11_linkChain_40 : decode cX11_linkChain 40 = .ok (.getfield 99, 3) := by decide +kernel
theorem dX11_linkChain_43 : decode cX11_linkChain 43 = .ok (.iload 4, 2) := by decide +kernel
theorem dX11_linkChain_45 : decode cX11_linkChain 45 = .ok (.iaload, 1) := by decide +kernel
theorem dX11_linkChain_46 : decode cX11_linkChain 46 = .ok (.istore_n 2, 1) := by decide +kernel
theorem dX11_linkChain_47 : decode cX11_linkChain 47 = .ok (.iload 4, 2) := by decide +kernel
theorem dX11_linkChain_49 : decode cX11_linkChain 49 = .ok (.istore_n 3, 1) := by decide +kernel
theorem dX11_linkChain_50 : decode cX11_linkChain 50 = .ok (.iinc 4 1, 3) := by decide +kernel
theorem dX11_linkChain_53 : decode cX11_linkChain 53 = .ok (.goto (-46), 3) := by decide +kernel
theorem dX11_linkChain_56 : decode cX11_linkChain 56 = .ok (.iload_n 3, 1) := by decide +kernel
theorem dX11_linkChain_57 : decode cX11_linkChain 57 = .ok (.istore 4, 2) := by decide +kernel
theorem dX11_linkChain_59 : decode cX11_linkChain 59 = .ok (.iconst 0, 1) := by decide +kernel
theorem dX11_linkChain_60 : decode cX11_linkChain 60 = .ok (.istore 5, 2) := by decide +kernel
theorem dX11_linkChain_62 : decode cX11_linkChain 62 = .ok (.iload 5, 2) := by decide +kernel
theorem dX11_linkChain_64 : decode cX11_linkChain 64 = .ok (.iload_n 2, 1) := by decide +kernel
theorem dX11_linkChain_65 : decode cX11_linkChain 65 = .ok (.if_icmp .ge 32, 3) := by decide +kernel
theorem dX11_linkChain_68 : decode cX11_linkChain 68 = .ok (.iload 4, 2) := by decide +kernel
theorem dX11_linkChain_70 : decode cX11_linkChain 70 = .ok (.iconst (-1), 1) := by decide +kernel
theorem dX11_linkChain_71 : decode cX11_linkChain 71 = .ok (.if_icmp .eq 26, 3) := by decide +kernel
theorem dX11_linkChain_74 : decode cX11_linkChain 74 = .ok (.aload_n 0, 1) := by decide +kernel
theorem dX11_linkChain_75 : decode cX11_linkChain 75 = .ok (.getfield 102, 3) := by decide +kernel
theorem dX11_linkChain_78 : decode cX11_linkChain 78 = .ok (.iload 5, 2) := by decide +kernel
theorem dX11_linkChain_80 : decode cX11_linkChain 80 = .ok (.iload 4, 2) := by decide +kernel
theorem dX11_linkChain_82 : decode cX11_linkChain 82 = .ok (.iastore, 1) := by decide +kernel
theorem dX11_linkChain_83 : decode cX11_linkChain 83 = .ok (.aload_n 0, 1) := by decide +kernel
theorem dX11_linkChain_84 : decode cX11_linkChain 84 = .ok (.iload 4, 2) := by decide +kernel
theorem dX11_linkChain_86 : decode cX11_linkChain 86 = .ok (.invokevirtual 381, 3) := by decide +kernel
theorem dX11_linkChain_89 : decode cX11_linkChain 89 = .ok (.istore 4, 2) := by decide +kernel
theorem dX11_linkChain_91 : decode cX11_linkChain 91 = .ok (.iinc 5 1, 3) := by decide +kernel
theorem dX11_linkChain_94 : decode cX11_linkChain 94 = .ok (.goto (-32), 3) := by decide +kernel
theorem dX11_linkChain_97 : decode cX11_linkChain 97 = .ok (.iload_n 2, 1) := by decide +kernel
theorem dX11_linkChain_98 : decode cX11_linkChain 98 = .ok (.ireturn, 1) := by decide +kernel
theorem dX11_longestBehind_0 : decode cX11_longestBehind 0 = .ok (.iconst 0, 1) := by decide +kernel
theorem dX11_longestBehind_1 : decode cX11_longestBehind 1 = .ok (.istore_n 2, 1) := by decide +kernel
theorem dX11_longestBehind_2 : decode cX11_longestBehind 2 = .ok (.iconst 0, 1) := by decide +kernel
theorem dX11_longestBehind_3 : decode cX11_longestBehind 3 = .ok (.istore_n 3, 1) := by decide +kernel
theorem dX11_longestBehind_4 : decode cX11_longestBehind 4 = .ok (.iload_n 3, 1) := by decide +kernel
theorem dX11_longestBehind_5 : decode cX11_longestBehind 5 = .ok (.bipush 8, 2) := by decide +kernel
theorem dX11_longestBehind_7 : decode cX11_longestBehind 7 = .ok (.if_icmp .ge 37, 3) := by decide +kernel
theorem dX11_longestBehind_10 : decode cX11_longestBehind 10 = .ok (.aload_n 0, 1) := by decide +kernel
theorem dX11_longestBehind_11 : decode cX11_longestBehind 11 = .ok (.iload_n 3, 1) := by decide +kernel
theorem dX11_longestBehind_12 : decode cX11_longestBehind 12 = .ok (.invokevirtual 200, 3) := by decide +kernel
theorem dX11_longestBehind_15 : decode cX11_longestBehind 15 = .ok (.ifCond .eq 23, 3) := by decide +kernel
theorem dX11_longestBehind_18 : decode cX11_longestBehind 18 = .ok (.aload_n 0, 1) := by decide +kernel
theorem dX11_longestBehind_19 : decode cX11_longestBehind 19 = .ok (.iload_n 3, 1) := by decide +kernel
theorem dX11_longestBehind_20 : decode cX11_longestBehind 20 = .ok (.iload_n 1, 1) := by decide +kernel
theorem dX11_longestBehind_21 : decode cX11_longestBehind 21 = .ok (.invokevirtual 369, 3) := by decide +kernel
theorem dX11_longestBehind_24 : decode cX11_longestBehind 24 = .ok (.ifCond .eq 14, 3) := by decide +kernel
theorem dX11_longestBehind_27 : decode cX11_longestBehind 27 = .ok (.iload_n 2, 1) := by decide +kernel
theorem dX11_longestBehind_28 : decode cX11_longestBehind 28 = .ok (.aload_n 0, 1) := by decide +kernel
theorem dX11_longestBehind_29 : decode cX11_longestBehind 29 = .ok (.getfield 99, 3) := by decide +kernel
theorem dX11_longestBehind_32 : decode cX11_longestBehind 32 = .ok (.iload_n 3, 1) := by decide +kernel
theorem dX11_longestBehind_33 : decode cX11_longestBehind 33 = .ok (.iaload, 1) := by decide +kernel
theorem dX11_longestBehind_34 : decode cX11_longestBehind 34 = .ok (.invokestatic 271, 3) := by decide +kernel
theorem dX11_longestBehind_37 : decode cX11_longestBehind 37 = .ok (.istore_n 2, 1) := by decide +kernel
theorem dX11_longestBehind_38 : decode cX11_longestBehind 38 = .ok (.iinc 3 1, 3) := by decide +kernel
theorem dX11_longestBehind_41 : decode cX11_longestBehind 41 = .ok (.goto (-37), 3) := by decide +kernel
theorem dX11_longestBehind_44 : decode cX11_longestBehind 44 = .ok (.iload_n 2, 1) := by decide +kernel
theorem dX11_longestBehind_45 : decode cX11_longestBehind 45 = .ok (.ireturn, 1) := by decide +kernel
theorem dX11_may_0 : decode cX11_may 0 = .ok (.aload_n 0, 1) := by decide +kernel
theorem dX11_may_1 : decode cX11_may 1 = .ok (.iload_n 1, 1) := by decide +kernel
theorem dX11_may_2 : decode cX11_may 2 = .ok (.iload_n 2, 1) := by decide +kernel
theorem dX11_may_3 : decode cX11_may 3 = .ok (.invokevirtual 143, 3) := by decide +kernel
theorem dX11_may_6 : decode cX11_may 6 = .ok (.ifCond .eq 21, 3) := by decide +kernel
theorem dX11_may_9 : decode cX11_may 9 = .ok (.iload_n 3, 1) := by decide +kernel
theorem dX11_may_10 : decode cX11_may 10 = .ok (.invokestatic 157, 3) := by decide +kernel
theorem dX11_may_13 : decode cX11_may 13 = .ok (.ifCond .eq 14, 3) := by decide +kernel
theorem dX11_may_16 : decode cX11_may 16 = .ok (.iload 4, 2) := by decide +kernel
theorem dX11_may_18 : decode cX11_may 18 = .ok (.ifCond .lt 9, 3) := by decide +kernel
theorem dX11_may_21 : decode cX11_may 21 = .ok (.iload 4, 2) := by decide +kernel
theorem dX11_may_23 : decode cX11_may 23 = .ok (.iconst 1, 1) := by decide +kernel
theorem dX11_may_24 : decode cX11_may 24 = .ok (.if_icmp .le 5, 3) := by decide +kernel
theorem dX11_may_27 : decode cX11_may 27 = .ok (.iconst (-1), 1) := by decide +kernel
theorem dX11_may_28 : decode cX11_may 28 = .ok (.ireturn, 1) := by decide +kernel
theorem dX11_may_29 : decode cX11_may 29 = .ok (.aload_n 0, 1) := by decide +kernel
theorem dX11_may_30 : decode cX11_may 30 = .ok (.iload_n 1, 1) := by decide +kernel
theorem dX11_may_31 : decode cX11_may 31 = .ok (.iload_n 2, 1) := by decide +kernel
theorem dX11_may_32 : decode cX11_may 32 = .ok (.iload_n 2, 1) := by decide +kernel
theorem dX11_may_33 : decode cX11_may 33 = .ok (.iconst 1, 1) := by decide +kernel
theorem dX11_may_34 : decode cX11_may 34 = .ok (.iadd, 1) := by decide +kernel
theorem dX11_may_35 : decode cX11_may 35 = .ok (.iload_n 3, 1) := by decide +kernel
theorem dX11_may_36 : decode cX11_may 36 = .ok (.invokevirtual 160, 3) := by decide +kernel
theorem dX11_may_39 : decode cX11_may 39 = .ok (.iload 4, 2) := by decide +kernel
theorem dX11_may_41 : decode cX11_may 41 = .ok (.ifCond .ne 21, 3) := by decide +kernel
theorem dX11_may_44 : decode cX11_may 44 = .ok (.aload_n 0, 1) := by decide +kernel
theorem dX11_may_45 : decode cX11_may 45 = .ok (.getfield 73, 3) := by decide +kernel
theorem dX11_may_48 : decode cX11_may 48 = .ok (.getfield 164, 3) := by decide +kernel
theorem dX11_may_51 : decode cX11_may 51 = .ok (.iload_n 2, 1) := by decide +kernel
theorem dX11_may_52 : decode cX11_may 52 = .ok (.baload, 1) := by decide +kernel
theorem dX11_may_53 : decode cX11_may 53 = .ok (.ifCond .eq 7, 3) := by decide +kernel
theorem dX11_may_56 : decode cX11_may 56 = .ok (.iconst 1, 1) := by decide +kernel
theorem dX11_may_57 : decode cX11_may 57 = .ok (.goto 4, 3) := by decide +kernel
theorem dX11_may_60 : decode cX11_may 60 = .ok (.iconst 0, 1) := by decide +kernel
theorem dX11_may_61 : decode cX11_may 61 = .ok (.ireturn, 1) := by decide +kernel
theorem dX11_may_62 : decode cX11_may 62 = .ok (.aload_n 0, 1) := by decide +kernel
theorem dX11_may_63 : decode cX11_may 63 = .ok (.getfield 73, 3) := by decide +kernel
theorem dX11_may_66 : decode cX11_may 66 = .ok (.getfield 168, 3) := by decide +kernel
theorem dX11_may_69 : decode cX11_may 69 = .ok (.iload_n 2, 1) := by decide +kernel
theorem dX11_may_70 : decode cX11_may 70 = .ok (.iaload, 1) := by decide +kernel
theorem dX11_may_71 : decode cX11_may 71 = .ok (.ireturn, 1) := by decide +kernel
theorem dX11_measureChains_0 : decode cX11_measureChains 0 = .ok (.aload_n 0, 1) := by decide +kernel
theorem dX11_measureChains_1 : decode cX11_measureChains 1 = .ok (.getfield 99, 3) := by decide +kernel
theorem dX11_measureChains_4 : decode cX11_measureChains 4 = .ok (.iconst 0, 1) := by decide +kernel
theorem dX11_measureChains_5 : decode cX11_measureChains 5 = .ok (.invokestatic 372, 3) := by decide +kernel
theorem dX11_measureChains_8 : decode cX11_measureChains 8 = .ok (.iconst 1, 1) := by decide +kernel
theorem dX11_measureChains_9 : decode cX11_measureChains 9 = .ok (.istore_n 1, 1) := by decide +kernel
theorem dX11_measureChains_10 : decode cX11_measureChains 10 = .ok (.iload_n 1, 1) := by decide +kernel
theorem dX11_measureChains_11 : decode cX11_measureChains 11 = .ok (.bipush 16, 2) := by decide +kernel
theorem dX11_measureChains_13 : decode cX11_measureChains 13 = .ok (.if_icmp .gt 48, 3) := by decide +kernel
theorem dX11_measureChains_16 : decode cX11_measureChains 16 = .ok (.bipush 7, 2) := by decide +kernel
theorem dX11_measureChains_18 : decode cX11_measureChains 18 = .ok (.istore_n 2, 1) := by decide +kernel
theorem dX11_measureChains_19 : decode cX11_measureChains 19 = .ok (.iload_n 2, 1) := by decide +kernel
theorem dX11_measureChains_20 : decode cX11_measureChains 20 = .ok (.ifCond .lt 35, 3) := by decide +kernel
theorem dX11_measureChains_23 : decode cX11_measureChains 23 = .ok (.aload_n 0, 1) := by decide +kernel
theorem dX11_measureChains_24 : decode cX11_measureChains 24 = .ok (.getfield 29, 3) := by decide +kernel
theorem dX11_measureChains_27 : decode cX11_measureChains 27 = .ok (.iload_n 2, 1) := by decide +kernel
theorem dX11_measureChains_28 : decode cX11_measureChains 28 = .ok (.aaload, 1) := by decide +kernel
theorem dX11_measureChains_29 : decode cX11_measureChains 29 = .ok (.getfield 171, 3) := by decide +kernel
theorem dX11_measureChains_32 : decode cX11_measureChains 32 = .ok (.iload_n 1, 1) := by decide +kernel
theorem dX11_measureChains_33 : decode cX11_measureChains 33 = .ok (.if_icmp .ne 16, 3) := by decide +kernel
theorem dX11_measureChains_36 : decode cX11_measureChains 36 = .ok (.aload_n 0, 1) := by decide +kernel
theorem dX11_measureChains_37 : decode cX11_measureChains 37 = .ok (.getfield 99, 3) := by decide +kernel
theorem dX11_measureChains_40 : decode cX11_measureChains 40 = .ok (.iload_n 2, 1) := by decide +kernel
theorem dX11_measureChains_41 : decode cX11_measureChains 41 = .ok (.iconst 1, 1) := by decide +kernel
theorem dX11_measureChains_42 : decode cX11_measureChains 42 = .ok (.aload_n 0, 1) := by decide +kernel
theorem dX11_measureChains_43 : decode cX11_measureChains 43 = .ok (.iload_n 2, 1) := by decide +kernel
theorem dX11_measureChains_44 : decode cX11_measureChains 44 = .ok (.invokevirtual 378, 3) := by decide +kernel
theorem dX11_measureChains_47 : decode cX11_measureChains 47 = .ok (.iadd, 1) := by decide +kernel
theorem dX11_measureChains_48 : decode cX11_measureChains 48 = .ok (.iastore, 1) := by decide +kernel
theorem dX11_measureChains_49 : decode cX11_measureChains 49 = .ok (.iinc 2 (-1), 3) := by decide +kernel
theorem dX11_measureChains_52 : decode cX11_measureChains 52 = .ok (.goto (-33), 3) := by decide +kernel
theorem dX11_measureChains_55 : decode cX11_measureChains 55 = .ok (.iinc 1 1, 3) := by decide +kernel
theorem dX11_measureChains_58 : decode cX11_measureChains 58 = .ok (.goto (-48), 3) := by decide +kernel
theorem dX11_measureChains_61 : decode cX11_measureChains 61 = .ok (.return_, 1) := by decide +kernel
theorem dX11_nextInChain_0 : decode cX11_nextInChain 0 = .ok (.iconst 0, 1) := by decide +kernel
theorem dX11_nextInChain_1 : decode cX11_nextInChain 1 = .ok (.istore_n 2, 1) := by decide +kernel
theorem dX11_nextInChain_2 : decode cX11_nextInChain 2 = .ok (.iload_n 2, 1) := by decide +kernel
theorem dX11_nextInChain_3 : decode cX11_nextInChain 3 = .ok (.bipush 8, 2) := by decide +kernel
theorem dX11_nextInChain_5 : decode cX11_nextInChain 5 = .ok (.if_icmp .ge 45, 3) := by decide +kernel
theorem dX11_nextInChain_8 : decode cX11_nextInChain 8 = .ok (.aload_n 0, 1) := by decide +kernel
theorem dX11_nextInChain_9 : decode cX11_nextInChain 9 = .ok (.iload_n 2, 1) := by decide +kernel
theorem dX11_nextInChain_10 : decode cX11_nextInChain 10 = .ok (.invokevirtual 200, 3) := by decide +kernel
theorem dX11_nextInChain_13 : decode cX11_nextInChain 13 = .ok (.ifCond .eq 31, 3) := by decide +kernel
theorem dX11_nextInChain_16 : decode cX11_nextInChain 16 = .ok (.aload_n 0, 1) := by decide +kernel
theorem dX11_nextInChain_17 : decode cX11_nextInChain 17 = .ok (.getfield 99, 3) := by decide +kernel
theorem dX11_nextInChain_20 : decode cX11_nextInChain 20 = .ok (.iload_n 2, 1) := by decide +kernel
theorem dX11_nextInChain_21 : decode cX11_nextInChain 21 = .ok (.iaload, 1) := by decide +kernel
theorem dX11_nextInChain_22 : decode cX11_nextInChain 22 = .ok (.aload_n 0, 1) := by decide +kernel
theorem dX11_nextInChain_23 : decode cX11_nextInChain 23 = .ok (.getfield 99, 3) := by decide +kernel
theorem dX11_nextInChain_26 : decode cX11_nextInChain 26 = .ok (.iload_n 1, 1) := by decide +kernel
theorem dX11_nextInChain_27 : decode cX11_nextInChain 27 = .ok (.iaload, 1) := by decide +kernel
theorem dX11_nextInChain_28 : decode cX11_nextInChain 28 = .ok (.iconst 1, 1) := by decide +kernel
theorem dX11_nextInChain_29 : decode cX11_nextInChain 29 = .ok (.isub, 1) := by decide +kernel
theorem dX11_nextInChain_30 : decode cX11_nextInChain 30 = .ok (.if_icmp .ne 14, 3) := by decide +kernel
theorem dX11_nextInChain_33 : decode cX11_nextInChain 33 = .ok (.aload_n 0, 1) := by decide +kernel
theorem dX11_nextInChain_34 : decode cX11_nextInChain 34 = .ok (.iload_n 2, 1) := by decide +kernel
theorem dX11_nextInChain_35 : decode cX11_nextInChain 35 = .ok (.iload_n 1, 1) := by decide +kernel
theorem dX11_nextInChain_36 : decode cX11_nextInChain 36 = .ok (.invokevirtual 369, 3) := by decide +kernel
theorem dX11_nextInChain_39 : decode cX11_nextInChain 39 = .ok (.ifCond .eq 5, 3) := by decide +kernel
theorem dX11_nextInChain_42 : decode cX11_nextInChain 42 = .ok (.iload_n 2, 1) := by decide +kernel
theorem dX11_nextInChain_43 : decode cX11_nextInChain 43 = .ok (.ireturn, 1) := by decide +kernel
theorem dX11_nextInChain_44 : decode cX11_nextInChain 44 = .ok (.iinc 2 1, 3) := by decide +kernel
theorem dX11_nextInChain_47 : decode cX11_nextInChain 47 = .ok (.goto (-45), 3) := by decide +kernel
theorem dX11_nextInChain_50 : decode cX11_nextInChain 50 = .ok (.iconst (-1), 1) := by decide +kernel
theorem dX11_nextInChain_51 : decode cX11_nextInChain 51 = .ok (.ireturn, 1) := by decide +kernel
theorem dX11_refuseCover_0 : decode cX11_refuseCover 0 = .ok (.iload_n 1, 1) := by decide +kernel
theorem dX11_refuseCover_1 : decode cX11_refuseCover 1 = .ok (.invokestatic 230, 3) := by decide +kernel
theorem dX11_refuseCover_4 : decode cX11_refuseCover 4 = .ok (.istore_n 2, 1) := by decide +kernel
theorem dX11_refuseCover_5 : decode cX11_refuseCover 5 = .ok (.aload_n 0, 1) := by decide +kernel
theorem dX11_refuseCover_6 : decode cX11_refuseCover 6 = .ok (.iload_n 1, 1) := by decide +kernel
theorem dX11_refuseCover_7 : decode cX11_refuseCover 7 = .ok (.invokevirtual 235, 3) := by decide +kernel
theorem dX11_refuseCover_10 : decode cX11_refuseCover 10 = .ok (.ifCond .eq 13, 3) := by decide +kernel
theorem dX11_refuseCover_13 : decode cX11_refuseCover 13 = .ok (.iload_n 2, 1) := by decide +kernel
theorem dX11_refuseCover_14 : decode cX11_refuseCover 14 = .ok (.iconst 2, 1) := by decide +kernel
theorem dX11_refuseCover_15 : decode cX11_refuseCover 15 = .ok (.if_icmp .lt 8, 3) := by decide +kernel
theorem dX11_refuseCover_18 : decode cX11_refuseCover 18 = .ok (.iload_n 2, 1) := by decide +kernel
theorem dX11_refuseCover_19 : decode cX11_refuseCover 19 = .ok (.iconst 4, 1) := by decide +kernel
theorem dX11_refuseCover_20 : decode cX11_refuseCover 20 = .ok (.if_icmp .le 5, 3) := by decide +kernel
theorem dX11_refuseCover_23 : decode cX11_refuseCover 23 = .ok (.iconst (-1), 1) := by decide +kernel
theorem dX11_refuseCover_24 : decode cX11_refuseCover 24 = .ok (.ireturn, 1) := by decide +kernel
theorem dX11_refuseCover_25 : decode cX11_refuseCover 25 = .ok (.iconst 0, 1) := by decide +kernel
theorem dX11_refuseCover_26 : decode cX11_refuseCover 26 = .ok (.istore_n 3, 1) := by decide +kernel
theorem dX11_refuseCover_27 : decode cX11_refuseCover 27 = .ok (.iload_n 3, 1) := by decide +kernel
theorem dX11_refuseCover_28 : decode cX11_refuseCover 28 = .ok (.bipush 8, 2) := by decide +kernel
theorem dX11_refuseCover_30 : decode cX11_refuseCover 30 = .ok (.if_icmp .ge 34, 3) := by decide +kernel
theorem dX11_refuseCover_33 : decode cX11_refuseCover 33 = .ok (.iload_n 1, 1) := by decide +kernel
theorem dX11_refuseCover_34 : decode cX11_refuseCover 34 = .ok (.iload_n 3, 1) := by decide +kernel
theorem dX11_refuseCover_35 : decode cX11_refuseCover 35 = .ok (.invokestatic 268, 3) := by decide +kernel
theorem dX11_refuseCover_38 : decode cX11_refuseCover 38 = .ok (.ifCond .eq 20, 3) := by decide +kernel
theorem dX11_refuseCover_41 : decode cX11_refuseCover 41 = .ok (.aload_n 0, 1) := by decide +kernel
theorem dX11_refuseCover_42 : decode cX11_refuseCover 42 = .ok (.getfield 29, 3) := by decide +kernel
theorem dX11_refuseCover_45 : decode cX11_refuseCover 45 = .ok (.iload_n 3, 1) := by decide +kernel
theorem dX11_refuseCover_46 : decode cX11_refuseCover 46 = .ok (.aaload, 1) := by decide +kernel
theorem dX11_refuseCover_47 : decode cX11_refuseCover 47 = .ok (.getfield 171, 3) := by decide +kernel
theorem dX11_refuseCover_50 : decode cX11_refuseCover 50 = .ok (.bipush 12, 2) := by decide +kernel
theorem dX11_refuseCover_52 : decode cX11_refuseCover 52 = .ok (.if_icmp .le 6, 3) := by decide +kernel
theorem dX11_refuseCover_55 : decode cX11_refuseCover 55 = .ok (.bipush (-2), 2) := by decide +kernel
theorem dX11_refuseCover_57 : decode cX11_refuseCover 57 = .ok (.ireturn, 1) := by decide +kernel
theorem dX11_refuseCover_58 : decode cX11_refuseCover 58 = .ok (.iinc 3 1, 3) := by decide +kernel
theorem dX11_refuseCover_61 : decode cX11_refuseCover 61 = .ok (.goto (-34), 3) := by decide +kernel
theorem dX11_refuseCover_64 : decode cX11_refuseCover 64 = .ok (.iconst 0, 1) := by decide +kernel
theorem dX11_refuseCover_65 : decode cX11_refuseCover 65 = .ok (.ireturn, 1) := by decide +kernel
theorem dX11_seed_0 : decode cX11_seed 0 = .ok (.iload_n 1, 1) := by decide +kernel
theorem dX11_seed_1 : decode cX11_seed 1 = .ok (.ifCond .lt 10, 3) := by decide +kernel
theorem dX11_seed_4 : decode cX11_seed 4 = .ok (.iload_n 1, 1) := by decide +kernel
theorem dX11_seed_5 : decode cX11_seed 5 = .ok (.ldc_w 311, 3) := by decide +kernel
theorem dX11_seed_8 : decode cX11_seed 8 = .ok (.if_icmp .lt 5, 3) := by decide +kernel
theorem dX11_seed_11 : decode cX11_seed 11 = .ok (.iconst 0, 1) := by decide +kernel
theorem dX11_seed_12 : decode cX11_seed 12 = .ok (.ireturn, 1) := by decide +kernel
theorem dX11_seed_13 : decode cX11_seed 13 = .ok (.aload_n 0, 1) := by decide +kernel
theorem dX11_seed_14 : decode cX11_seed 14 = .ok (.iload_n 1, 1) := by decide +kernel
theorem dX11_seed_15 : decode cX11_seed 15 = .ok (.putfield 60, 3) := by decide +kernel
theorem dX11_seed_18 : decode cX11_seed 18 = .ok (.iconst 1, 1) := by decide +kernel
theorem dX11_seed_19 : decode cX11_seed 19 = .ok (.ireturn, 1) := by decide +kernel
theorem dX11_shortest_0 : decode cX11_shortest 0 = .ok (.iload_n 2, 1) := by decide +kernel
theorem dX11_shortest_1 : decode cX11_shortest 1 = .ok (.iconst (-1), 1) := by decide +kernel
theorem dX11_shortest_2 : decode cX11_shortest 2 = .ok (.if_icmp .ge 5, 3) := by decide +kernel
theorem dX11_shortest_5 : decode cX11_shortest 5 = .ok (.iconst (-1), 1) := by decide +kernel
theorem dX11_shortest_6 : decode cX11_shortest 6 = .ok (.ireturn, 1) := by decide +kernel
theorem dX11_shortest_7 : decode cX11_shortest 7 = .ok (.aload_n 0, 1) := by decide +kernel
theorem dX11_shortest_8 : decode cX11_shortest 8 = .ok (.iload_n 1, 1) := by decide +kernel
theorem dX11_shortest_9 : decode cX11_shortest 9 = .ok (.invokevirtual 252, 3) := by decide +kernel
theorem dX11_shortest_12 : decode cX11_shortest 12 = .ok (.istore_n 3, 1) := by decide +kernel
theorem dX11_shortest_13 : decode cX11_shortest 13 = .ok (.iload_n 3, 1) := by decide +kernel
theorem dX11_shortest_14 : decode cX11_shortest 14 = .ok (.ifCond .eq 5, 3) := by decide +kernel
theorem dX11_shortest_17 : decode cX11_shortest 17 = .ok (.iload_n 3, 1) := by decide +kernel
theorem dX11_shortest_18 : decode cX11_shortest 18 = .ok (.ireturn, 1) := by decide +kernel
theorem dX11_shortest_19 : decode cX11_shortest 19 = .ok (.aload_n 0, 1) := by decide +kernel
theorem dX11_shortest_20 : decode cX11_shortest 20 = .ok (.iload_n 1, 1) := by decide +kernel
theorem dX11_shortest_21 : decode cX11_shortest 21 = .ok (.invokevirtual 255, 3) := by decide +kernel
theorem dX11_shortest_24 : decode cX11_shortest 24 = .ok (.getfield 259, 3) := by decide +kernel
theorem dX11_shortest_27 : decode cX11_shortest 27 = .ok (.astore 4, 2) := by decide +kernel
theorem dX11_shortest_29 : decode cX11_shortest 29 = .ok (.iload_n 2, 1) := by decide +kernel
theorem dX11_shortest_30 : decode cX11_shortest 30 = .ok (.iconst (-1), 1) := by decide +kernel
theorem dX11_shortest_31 : decode cX11_shortest 31 = .ok (.if_icmp .ne 11, 3) := by decide +kernel
theorem dX11_shortest_34 : decode cX11_shortest 34 = .ok (.aload 4, 2) := by decide +kernel
theorem dX11_shortest_36 : decode cX11_shortest 36 = .ok (.getfield 171, 3) := by decide +kernel
theorem dX11_shortest_39 : decode cX11_shortest 39 = .ok (.goto 9, 3) := by decide +kernel
theorem dX11_shortest_42 : decode cX11_shortest 42 = .ok (.aload 4, 2) := by decide +kernel
theorem dX11_shortest_44 : decode cX11_shortest 44 = .ok (.iload_n 2, 1) := by decide +kernel
theorem dX11_shortest_45 : decode cX11_shortest 45 = .ok (.invokevirtual 150, 3) := by decide +kernel
theorem dX11_shortest_48 : decode cX11_shortest 48 = .ok (.ireturn, 1) := by decide +kernel
theorem dX11_shortestMany_0 : decode cX11_shortestMany 0 = .ok (.aload_n 0, 1) := by decide +kernel
theorem dX11_shortestMany_1 : decode cX11_shortestMany 1 = .ok (.iload_n 1, 1) := by decide +kernel
theorem dX11_shortestMany_2 : decode cX11_shortestMany 2 = .ok (.invokevirtual 252, 3) := by decide +kernel
theorem dX11_shortestMany_5 : decode cX11_shortestMany 5 = .ok (.istore_n 2, 1) := by decide +kernel
theorem dX11_shortestMany_6 : decode cX11_shortestMany 6 = .ok (.iload_n 2, 1) := by decide +kernel
theorem dX11_shortestMany_7 : decode cX11_shortestMany 7 = .ok (.ifCond .eq 6, 3) := by decide +kernel
theorem dX11_shortestMany_10 : decode cX11_shortestMany 10 = .ok (.iload_n 2, 1) := by decide +kernel
theorem dX11_shortestMany_11 : decode cX11_shortestMany 11 = .ok (.i2l, 1) := by decide +kernel
theorem dX11_shortestMany_12 : decode cX11_shortestMany 12 = .ok (.lreturn, 1) := by decide +kernel
theorem dX11_shortestMany_13 : decode cX11_shortestMany 13 = .ok (.aload_n 0, 1) := by decide +kernel
theorem dX11_shortestMany_14 : decode cX11_shortestMany 14 = .ok (.iload_n 1, 1) := by decide +kernel
theorem dX11_shortestMany_15 : decode cX11_shortestMany 15 = .ok (.invokevirtual 255, 3) := by decide +kernel
theorem dX11_shortestMany_18 : decode cX11_shortestMany 18 = .ok (.invokevirtual 264, 3) := by decide +kernel
theorem dX11_shortestMany_21 : decode cX11_shortestMany 21 = .ok (.lreturn, 1) := by decide +kernel
theorem dX11_spare_0 : decode cX11_spare 0 = .ok (.aload_n 0, 1) := by decide +kernel
theorem dX11_spare_1 : decode cX11_spare 1 = .ok (.iload_n 1, 1) := by decide +kernel
theorem dX11_spare_2 : decode cX11_spare 2 = .ok (.invokevirtual 180, 3) := by decide +kernel
theorem dX11_spare_5 : decode cX11_spare 5 = .ok (.ifCond .eq 11, 3) := by decide +kernel
theorem dX11_spare_8 : decode cX11_spare 8 = .ok (.aload_n 0, 1) := by decide +kernel
theorem dX11_spare_9 : decode cX11_spare 9 = .ok (.iload_n 2, 1) := by decide +kernel
theorem dX11_spare_10 : decode cX11_spare 10 = .ok (.invokevirtual 235, 3) := by decide +kernel
theorem dX11_spare_13 : decode cX11_spare 13 = .ok (.ifCond .ne 7, 3) := by decide +kernel
theorem dX11_spare_16 : decode cX11_spare 16 = .ok (.ldc2_w 203, 3) := by decide +kernel
theorem dX11_spare_19 : decode cX11_spare 19 = .ok (.lreturn, 1) := by decide +kernel
theorem dX11_spare_20 : decode cX11_spare 20 = .ok (.aload_n 0, 1) := by decide +kernel
theorem dX11_spare_21 : decode cX11_spare 21 = .ok (.getfield 18, 3) := by decide +kernel
theorem dX11_spare_24 : decode cX11_spare 24 = .ok (.iload_n 1, 1) := by decide +kernel
theorem dX11_spare_25 : decode cX11_spare 25 = .ok (.aaload, 1) := by decide +kernel
theorem dX11_spare_26 : decode cX11_spare 26 = .ok (.getfield 147, 3) := by decide +kernel
theorem dX11_spare_29 : decode cX11_spare 29 = .ok (.astore_n 3, 1) := by decide +kernel
theorem dX11_spare_30 : decode cX11_spare 30 = .ok (.aload_n 0, 1) := by decide +kernel
theorem dX11_spare_31 : decode cX11_spare 31 = .ok (.iload_n 2, 1) := by decide +kernel
theorem dX11_spare_32 : decode cX11_spare 32 = .ok (.aload_n 3, 1) := by decide +kernel
theorem dX11_spare_33 : decode cX11_spare 33 = .ok (.iconst (-1), 1) := by decide +kernel
theorem dX11_spare_34 : decode cX11_spare 34 = .ok (.invokevirtual 280, 3) := by decide +kernel
theorem dX11_spare_37 : decode cX11_spare 37 = .ok (.ifCond .ne 7, 3) := by decide +kernel
theorem dX11_spare_40 : decode cX11_spare 40 = .ok (.ldc2_w 284, 3) := by decide +kernel
theorem dX11_spare_43 : decode cX11_spare 43 = .ok (.lreturn, 1) := by decide +kernel
theorem dX11_spare_44 : decode cX11_spare 44 = .ok (.lconst 0, 1) := by decide +kernel
theorem dX11_spare_45 : decode cX11_spare 45 = .ok (.lstore 4, 2) := by decide +kernel
theorem dX11_spare_47 : decode cX11_spare 47 = .ok (.iconst 0, 1) := by decide +kernel
theorem dX11_spare_48 : decode cX11_spare 48 = .ok (.istore 6, 2) := by decide +kernel
theorem dX11_spare_50 : decode cX11_spare 50 = .ok (.iload 6, 2) := by decide +kernel
theorem dX11_spare_52 : decode cX11_spare 52 = .ok (.aload_n 3, 1) := by decide +kernel
theorem dX11_spare_53 : decode cX11_spare 53 = .ok (.getfield 171, 3) := by decide +kernel
theorem dX11_spare_56 : decode cX11_spare 56 = .ok (.if_icmp .ge 38, 3) := by decide +kernel
theorem dX11_spare_59 : decode cX11_spare 59 = .ok (.aload_n 0, 1) := by decide +kernel
theorem dX11_spare_60 : decode cX11_spare 60 = .ok (.iload_n 2, 1) := by decide +kernel
theorem dX11_spare_61 : decode cX11_spare 61 = .ok (.aload_n 3, 1) := by decide +kernel
theorem dX11_spare_62 : decode cX11_spare 62 = .ok (.iload 6, 2) := by decide +kernel
theorem dX11_spare_64 : decode cX11_spare 64 = .ok (.invokevirtual 280, 3) := by decide +kernel
theorem dX11_spare_67 : decode cX11_spare 67 = .ok (.ifCond .eq 21, 3) := by decide +kernel
theorem dX11_spare_70 : decode cX11_spare 70 = .ok (.lload 4, 2) := by decide +kernel
theorem dX11_spare_72 : decode cX11_spare 72 = .ok (.lconst 1, 1) := by decide +kernel
theorem dX11_spare_73 : decode cX11_spare 73 = .ok (.aload_n 0, 1) := by decide +kernel
theorem dX11_spare_74 : decode cX11_spare 74 = .ok (.getfield 18, 3) := by decide +kernel
theorem dX11_spare_77 : decode cX11_spare 77 = .ok (.iload_n 1, 1) := by decide +kernel
theorem dX11_spare_78 : decode cX11_spare 78 = .ok (.aaload, 1) := by decide +kernel
theorem dX11_spare_79 : decode cX11_spare 79 = .ok (.iload 6, 2) := by decide +kernel
theorem dX11_spare_81 : decode cX11_spare 81 = .ok (.invokevirtual 154, 3) := by decide +kernel
theorem dX11_spare_84 : decode cX11_spare 84 = .ok (.lshl, 1) := by decide +kernel
theorem dX11_spare_85 : decode cX11_spare 85 = .ok (.lor, 1) := by decide +kernel
theorem dX11_spare_86 : decode cX11_spare 86 = .ok (.lstore 4, 2) := by decide +kernel
theorem dX11_spare_88 : decode cX11_spare 88 = .ok (.iinc 6 1, 3) := by decide +kernel
theorem dX11_spare_91 : decode cX11_spare 91 = .ok (.goto (-41), 3) := by decide +kernel
theorem dX11_spare_94 : decode cX11_spare 94 = .ok (.lload 4, 2) := by decide +kernel
theorem dX11_spare_96 : decode cX11_spare 96 = .ok (.lreturn, 1) := by decide +kernel
theorem dX11_strike_0 : decode cX11_strike 0 = .ok (.aload_n 0, 1) := by decide +kernel
theorem dX11_strike_1 : decode cX11_strike 1 = .ok (.iload_n 1, 1) := by decide +kernel
theorem dX11_strike_2 : decode cX11_strike 2 = .ok (.iload_n 2, 1) := by decide +kernel
theorem dX11_strike_3 : decode cX11_strike 3 = .ok (.invokevirtual 143, 3) := by decide +kernel
theorem dX11_strike_6 : decode cX11_strike 6 = .ok (.ifCond .eq 22, 3) := by decide +kernel
theorem dX11_strike_9 : decode cX11_strike 9 = .ok (.iload 4, 2) := by decide +kernel
theorem dX11_strike_11 : decode cX11_strike 11 = .ok (.invokestatic 157, 3) := by decide +kernel
theorem dX11_strike_14 : decode cX11_strike 14 = .ok (.ifCond .eq 14, 3) := by decide +kernel
theorem dX11_strike_17 : decode cX11_strike 17 = .ok (.iload_n 3, 1) := by decide +kernel
theorem dX11_strike_18 : decode cX11_strike 18 = .ok (.iconst 1, 1) := by decide +kernel
theorem dX11_strike_19 : decode cX11_strike 19 = .ok (.if_icmp .lt 9, 3) := by decide +kernel
theorem dX11_strike_22 : decode cX11_strike 22 = .ok (.iload_n 3, 1) := by decide +kernel
theorem dX11_strike_23 : decode cX11_strike 23 = .ok (.bipush 9, 2) := by decide +kernel
theorem dX11_strike_25 : decode cX11_strike 25 = .ok (.if_icmp .le 5, 3) := by decide +kernel
theorem dX11_strike_28 : decode cX11_strike 28 = .ok (.iconst (-1), 1) := by decide +kernel
theorem dX11_strike_29 : decode cX11_strike 29 = .ok (.ireturn, 1) := by decide +kernel
theorem dX11_strike_30 : decode cX11_strike 30 = .ok (.iload_n 2, 1) := by decide +kernel
theorem dX11_strike_31 : decode cX11_strike 31 = .ok (.iload_n 3, 1) := by decide +kernel
theorem dX11_strike_32 : decode cX11_strike 32 = .ok (.iadd, 1) := by decide +kernel
theorem dX11_strike_33 : decode cX11_strike 33 = .ok (.aload_n 0, 1) := by decide +kernel
theorem dX11_strike_34 : decode cX11_strike 34 = .ok (.getfield 18, 3) := by decide +kernel
theorem dX11_strike_37 : decode cX11_strike 37 = .ok (.iload_n 1, 1) := by decide +kernel
theorem dX11_strike_38 : decode cX11_strike 38 = .ok (.aaload, 1) := by decide +kernel
theorem dX11_strike_39 : decode cX11_strike 39 = .ok (.getfield 147, 3) := by decide +kernel
theorem dX11_strike_42 : decode cX11_strike 42 = .ok (.getfield 171, 3) := by decide +kernel
theorem dX11_strike_45 : decode cX11_strike 45 = .ok (.if_icmp .le 5, 3) := by decide +kernel
theorem dX11_strike_48 : decode cX11_strike 48 = .ok (.iconst (-1), 1) := by decide +kernel
theorem dX11_strike_49 : decode cX11_strike 49 = .ok (.ireturn, 1) := by decide +kernel
theorem dX11_strike_50 : decode cX11_strike 50 = .ok (.aload_n 0, 1) := by decide +kernel
theorem dX11_strike_51 : decode cX11_strike 51 = .ok (.iload_n 1, 1) := by decide +kernel
theorem dX11_strike_52 : decode cX11_strike 52 = .ok (.iload_n 2, 1) := by decide +kernel
theorem dX11_strike_53 : decode cX11_strike 53 = .ok (.iload_n 2, 1) := by decide +kernel
theorem dX11_strike_54 : decode cX11_strike 54 = .ok (.iload_n 3, 1) := by decide +kernel
theorem dX11_strike_55 : decode cX11_strike 55 = .ok (.iadd, 1) := by decide +kernel
theorem dX11_strike_56 : decode cX11_strike 56 = .ok (.iload 4, 2) := by decide +kernel
theorem dX11_strike_58 : decode cX11_strike 58 = .ok (.invokevirtual 160, 3) := by decide +kernel
theorem dX11_strike_61 : decode cX11_strike 61 = .ok (.iload_n 2, 1) := by decide +kernel
theorem dX11_strike_62 : decode cX11_strike 62 = .ok (.istore 5, 2) := by decide +kernel
theorem dX11_strike_64 : decode cX11_strike 64 = .ok (.iload 5, 2) := by decide +kernel
theorem dX11_strike_66 : decode cX11_strike 66 = .ok (.iload_n 2, 1) := by decide +kernel
theorem dX11_strike_67 : decode cX11_strike 67 = .ok (.iload_n 3, 1) := by decide +kernel
theorem dX11_strike_68 : decode cX11_strike 68 = .ok (.iadd, 1) := by decide +kernel
theorem dX11_strike_69 : decode cX11_strike 69 = .ok (.if_icmp .ge 25, 3) := by decide +kernel
theorem dX11_strike_72 : decode cX11_strike 72 = .ok (.aload_n 0, 1) := by decide +kernel
theorem dX11_strike_73 : decode cX11_strike 73 = .ok (.getfield 73, 3) := by decide +kernel
theorem dX11_strike_76 : decode cX11_strike 76 = .ok (.getfield 164, 3) := by decide +kernel
theorem dX11_strike_79 : decode cX11_strike 79 = .ok (.iload 5, 2) := by decide +kernel
theorem dX11_strike_81 : decode cX11_strike 81 = .ok (.baload, 1) := by decide +kernel
theorem dX11_strike_82 : decode cX11_strike 82 = .ok (.ifCond .ne 6, 3) := by decide +kernel
theorem dX11_strike_85 : decode cX11_strike 85 = .ok (.bipush (-2), 2) := by decide +kernel
theorem dX11_strike_87 : decode cX11_strike 87 = .ok (.ireturn, 1) := by decide +kernel
theorem dX11_strike_88 : decode cX11_strike 88 = .ok (.iinc 5 1, 3) := by decide +kernel
theorem dX11_strike_91 : decode cX11_strike 91 = .ok (.goto (-27), 3) := by decide +kernel
theorem dX11_strike_94 : decode cX11_strike 94 = .ok (.aload_n 0, 1) := by decide +kernel
theorem dX11_strike_95 : decode cX11_strike 95 = .ok (.getfield 53, 3) := by decide +kernel
theorem dX11_strike_98 : decode cX11_strike 98 = .ok (.iconst 1, 1) := by decide +kernel
theorem dX11_strike_99 : decode cX11_strike 99 = .ok (.invokevirtual 172, 3) := by decide +kernel
theorem dX11_strike_102 : decode cX11_strike 102 = .ok (.ifCond .ne 6, 3) := by decide +kernel
theorem dX11_strike_105 : decode cX11_strike 105 = .ok (.bipush (-3), 2) := by decide +kernel
theorem dX11_strike_107 : decode cX11_strike 107 = .ok (.ireturn, 1) := by decide +kernel
theorem dX11_strike_108 : decode cX11_strike 108 = .ok (.aload_n 0, 1) := by decide +kernel
theorem dX11_strike_109 : decode cX11_strike 109 = .ok (.iload_n 1, 1) := by decide +kernel
theorem dX11_strike_110 : decode cX11_strike 110 = .ok (.iload_n 2, 1) := by decide +kernel
theorem dX11_strike_111 : decode cX11_strike 111 = .ok (.iload_n 3, 1) := by decide +kernel
theorem dX11_strike_112 : decode cX11_strike 112 = .ok (.iload 4, 2) := by decide +kernel
theorem dX11_strike_114 : decode cX11_strike 114 = .ok (.invokevirtual 173, 3) := by decide +kernel
theorem dX11_strike_117 : decode cX11_strike 117 = .ok (.ireturn, 1) := by decide +kernel
theorem dX11_strikeGap_0 : decode cX11_strikeGap 0 = .ok (.iload_n 3, 1) := by decide +kernel
theorem dX11_strikeGap_1 : decode cX11_strikeGap 1 = .ok (.istore 5, 2) := by decide +kernel
theorem dX11_strikeGap_3 : decode cX11_strikeGap 3 = .ok (.iload 5, 2) := by decide +kernel
theorem dX11_strikeGap_5 : decode cX11_strikeGap 5 = .ok (.iload_n 2, 1) := by decide +kernel
theorem dX11_strikeGap_6 : decode cX11_strikeGap 6 = .ok (.if_icmp .le 35, 3) := by decide +kernel
theorem dX11_strikeGap_9 : decode cX11_strikeGap 9 = .ok (.iload_n 2, 1) := by decide +kernel
theorem dX11_strikeGap_10 : decode cX11_strikeGap 10 = .ok (.iload 5, 2) := by decide +kernel
theorem dX11_strikeGap_12 : decode cX11_strikeGap 12 = .ok (.bipush 9, 2) := by decide +kernel
theorem dX11_strikeGap_14 : decode cX11_strikeGap 14 = .ok (.isub, 1) := by decide +kernel
theorem dX11_strikeGap_15 : decode cX11_strikeGap 15 = .ok (.invokestatic 271, 3) := by decide +kernel
theorem dX11_strikeGap_18 : decode cX11_strikeGap 18 = .ok (.istore 6, 2) := by decide +kernel
theorem dX11_strikeGap_20 : decode cX11_strikeGap 20 = .ok (.aload_n 0, 1) := by decide +kernel
theorem dX11_strikeGap_21 : decode cX11_strikeGap 21 = .ok (.iload_n 1, 1) := by decide +kernel
theorem dX11_strikeGap_22 : decode cX11_strikeGap 22 = .ok (.iload 6, 2) := by decide +kernel
theorem dX11_strikeGap_24 : decode cX11_strikeGap 24 = .ok (.iload 5, 2) := by decide +kernel
theorem dX11_strikeGap_26 : decode cX11_strikeGap 26 = .ok (.iload 6, 2) := by decide +kernel
theorem dX11_strikeGap_28 : decode cX11_strikeGap 28 = .ok (.isub, 1) := by decide +kernel
theorem dX11_strikeGap_29 : decode cX11_strikeGap 29 = .ok (.iload 4, 2) := by decide +kernel
theorem dX11_strikeGap_31 : decode cX11_strikeGap 31 = .ok (.invokevirtual 173, 3) := by decide +kernel
theorem dX11_strikeGap_34 : decode cX11_strikeGap 34 = .ok (.pop, 1) := by decide +kernel
theorem dX11_strikeGap_35 : decode cX11_strikeGap 35 = .ok (.iinc 5 (-9), 3) := by decide +kernel
theorem dX11_strikeGap_38 : decode cX11_strikeGap 38 = .ok (.goto (-35), 3) := by decide +kernel
theorem dX11_strikeGap_41 : decode cX11_strikeGap 41 = .ok (.return_, 1) := by decide +kernel
theorem dX11_strokes_0 : decode cX11_strokes 0 = .ok (.aload_n 0, 1) := by decide +kernel
theorem dX11_strokes_1 : decode cX11_strokes 1 = .ok (.iload_n 1, 1) := by decide +kernel
theorem dX11_strokes_2 : decode cX11_strokes 2 = .ok (.invokevirtual 180, 3) := by decide +kernel
theorem dX11_strokes_5 : decode cX11_strokes 5 = .ok (.ifCond .eq 18, 3) := by decide +kernel
theorem dX11_strokes_8 : decode cX11_strokes 8 = .ok (.aload_n 0, 1) := by decide +kernel
theorem dX11_strokes_9 : decode cX11_strokes 9 = .ok (.iload_n 2, 1) := by decide +kernel
theorem dX11_strokes_10 : decode cX11_strokes 10 = .ok (.invokevirtual 200, 3) := by decide +kernel
theorem dX11_strokes_13 : decode cX11_strokes 13 = .ok (.ifCond .eq 10, 3) := by decide +kernel
theorem dX11_strokes_16 : decode cX11_strokes 16 = .ok (.iload_n 3, 1) := by decide +kernel
theorem dX11_strokes_17 : decode cX11_strokes 17 = .ok (.invokestatic 222, 3) := by decide +kernel
theorem dX11_strokes_20 : decode cX11_strokes 20 = .ok (.ifCond .ne 5, 3) := by decide +kernel
theorem dX11_strokes_23 : decode cX11_strokes 23 = .ok (.iconst (-1), 1) := by decide +kernel
theorem dX11_strokes_24 : decode cX11_strokes 24 = .ok (.ireturn, 1) := by decide +kernel
theorem dX11_strokes_25 : decode cX11_strokes 25 = .ok (.aload_n 0, 1) := by decide +kernel
theorem dX11_strokes_26 : decode cX11_strokes 26 = .ok (.getfield 66, 3) := by decide +kernel
theorem dX11_strokes_29 : decode cX11_strokes 29 = .ok (.aload_n 0, 1) := by decide +kernel
theorem dX11_strokes_30 : decode cX11_strokes 30 = .ok (.getfield 18, 3) := by decide +kernel
theorem dX11_strokes_33 : decode cX11_strokes 33 = .ok (.iload_n 1, 1) := by decide +kernel
theorem dX11_strokes_34 : decode cX11_strokes 34 = .ok (.aaload, 1) := by decide +kernel
theorem dX11_strokes_35 : decode cX11_strokes 35 = .ok (.getfield 147, 3) := by decide +kernel
theorem dX11_strokes_38 : decode cX11_strokes 38 = .ok (.aload_n 0, 1) := by decide +kernel
theorem dX11_strokes_39 : decode cX11_strokes 39 = .ok (.getfield 29, 3) := by decide +kernel
theorem dX11_strokes_42 : decode cX11_strokes 42 = .ok (.iload_n 2, 1) := by decide +kernel
theorem dX11_strokes_43 : decode cX11_strokes 43 = .ok (.aaload, 1) := by decide +kernel
theorem dX11_strokes_44 : decode cX11_strokes 44 = .ok (.iload_n 3, 1) := by decide +kernel
theorem dX11_strokes_45 : decode cX11_strokes 45 = .ok (.invokevirtual 225, 3) := by decide +kernel
theorem dX11_strokes_48 : decode cX11_strokes 48 = .ok (.istore 4, 2) := by decide +kernel
theorem dX11_strokes_50 : decode cX11_strokes 50 = .ok (.iload 4, 2) := by decide +kernel
theorem dX11_strokes_52 : decode cX11_strokes 52 = .ok (.ldc 229, 2) := by decide +kernel
theorem dX11_strokes_54 : decode cX11_strokes 54 = .ok (.if_icmp .lt 8, 3) := by decide +kernel
theorem dX11_strokes_57 : decode cX11_strokes 57 = .ok (.bipush (-2), 2) := by decide +kernel
theorem dX11_strokes_59 : decode cX11_strokes 59 = .ok (.goto 5, 3) := by decide +kernel
theorem dX11_strokes_62 : decode cX11_strokes 62 = .ok (.iload 4, 2) := by decide +kernel
theorem dX11_strokes_64 : decode cX11_strokes 64 = .ok (.ireturn, 1) := by decide +kernel
theorem dX11_toldDeeds_0 : decode cX11_toldDeeds 0 = .ok (.iconst 0, 1) := by decide +kernel
theorem dX11_toldDeeds_1 : decode cX11_toldDeeds 1 = .ok (.istore_n 1, 1) := by decide +kernel
theorem dX11_toldDeeds_2 : decode cX11_toldDeeds 2 = .ok (.iconst 0, 1) := by decide +kernel
theorem dX11_toldDeeds_3 : decode cX11_toldDeeds 3 = .ok (.istore_n 2, 1) := by decide +kernel
theorem dX11_toldDeeds_4 : decode cX11_toldDeeds 4 = .ok (.iload_n 2, 1) := by decide +kernel
theorem dX11_toldDeeds_5 : decode cX11_toldDeeds 5 = .ok (.bipush 8, 2) := by decide +kernel
theorem dX11_toldDeeds_7 : decode cX11_toldDeeds 7 = .ok (.if_icmp .ge 23, 3) := by decide +kernel
theorem dX11_toldDeeds_10 : decode cX11_toldDeeds 10 = .ok (.aload_n 0, 1) := by decide +kernel
theorem dX11_toldDeeds_11 : decode cX11_toldDeeds 11 = .ok (.iload_n 2, 1) := by decide +kernel
theorem dX11_toldDeeds_12 : decode cX11_toldDeeds 12 = .ok (.invokevirtual 200, 3) := by decide +kernel
theorem dX11_toldDeeds_15 : decode cX11_toldDeeds 15 = .ok (.ifCond .eq 9, 3) := by decide +kernel
theorem dX11_toldDeeds_18 : decode cX11_toldDeeds 18 = .ok (.iload_n 1, 1) := by decide +kernel
theorem dX11_toldDeeds_19 : decode cX11_toldDeeds 19 = .ok (.iconst 1, 1) := by decide +kernel
theorem dX11_toldDeeds_20 : decode cX11_toldDeeds 20 = .ok (.iload_n 2, 1) := by decide +kernel
