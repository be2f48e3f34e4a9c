theorem dX5_init_19 : decode cX5_init 19 = .ok (.putfield 20, 3) := by decide +kernel
theorem dX5_init_22 : decode cX5_init 22 = .ok (.aload_n 0, 1) := by decide +kernel
theorem dX5_init_23 : decode cX5_init 23 = .ok (.sipush 4913, 3) := by decide +kernel
theorem dX5_init_26 : decode cX5_init 26 = .ok (.newarray .int, 2) := by decide +kernel
theorem dX5_init_28 : decode cX5_init 28 = .ok (.putfield 24, 3) := by decide +kernel
theorem dX5_init_31 : decode cX5_init 31 = .ok (.return_, 1) := by decide +kernel
theorem dX5_mostFrom_0 : decode cX5_mostFrom 0 = .ok (.iload 4, 2) := by decide +kernel
theorem dX5_mostFrom_2 : decode cX5_mostFrom 2 = .ok (.aload_n 1, 1) := by decide +kernel
theorem dX5_mostFrom_3 : decode cX5_mostFrom 3 = .ok (.getfield 28, 3) := by decide +kernel
theorem dX5_mostFrom_6 : decode cX5_mostFrom 6 = .ok (.if_icmp .eq 21, 3) := by decide +kernel
theorem dX5_mostFrom_9 : decode cX5_mostFrom 9 = .ok (.iload 5, 2) := by decide +kernel
theorem dX5_mostFrom_11 : decode cX5_mostFrom 11 = .ok (.aload_n 2, 1) := by decide +kernel
theorem dX5_mostFrom_12 : decode cX5_mostFrom 12 = .ok (.getfield 28, 3) := by decide +kernel
theorem dX5_mostFrom_15 : decode cX5_mostFrom 15 = .ok (.if_icmp .eq 12, 3) := by decide +kernel
theorem dX5_mostFrom_18 : decode cX5_mostFrom 18 = .ok (.iload 6, 2) := by decide +kernel
theorem dX5_mostFrom_20 : decode cX5_mostFrom 20 = .ok (.aload_n 3, 1) := by decide +kernel
theorem dX5_mostFrom_21 : decode cX5_mostFrom 21 = .ok (.getfield 28, 3) := by decide +kernel
theorem dX5_mostFrom_24 : decode cX5_mostFrom 24 = .ok (.if_icmp .ne 5, 3) := by decide +kernel
theorem dX5_mostFrom_27 : decode cX5_mostFrom 27 = .ok (.iconst 0, 1) := by decide +kernel
theorem dX5_mostFrom_28 : decode cX5_mostFrom 28 = .ok (.ireturn, 1) := by decide +kernel
theorem dX5_mostFrom_29 : decode cX5_mostFrom 29 = .ok (.aload_n 1, 1) := by decide +kernel
theorem dX5_mostFrom_30 : decode cX5_mostFrom 30 = .ok (.getfield 43, 3) := by decide +kernel
theorem dX5_mostFrom_33 : decode cX5_mostFrom 33 = .ok (.iload 4, 2) := by decide +kernel
theorem dX5_mostFrom_35 : decode cX5_mostFrom 35 = .ok (.iaload, 1) := by decide +kernel
theorem dX5_mostFrom_36 : decode cX5_mostFrom 36 = .ok (.istore 7, 2) := by decide +kernel
theorem dX5_mostFrom_38 : decode cX5_mostFrom 38 = .ok (.iload 7, 2) := by decide +kernel
theorem dX5_mostFrom_40 : decode cX5_mostFrom 40 = .ok (.aload_n 2, 1) := by decide +kernel
theorem dX5_mostFrom_41 : decode cX5_mostFrom 41 = .ok (.getfield 43, 3) := by decide +kernel
theorem dX5_mostFrom_44 : decode cX5_mostFrom 44 = .ok (.iload 5, 2) := by decide +kernel
theorem dX5_mostFrom_46 : decode cX5_mostFrom 46 = .ok (.iaload, 1) := by decide +kernel
theorem dX5_mostFrom_47 : decode cX5_mostFrom 47 = .ok (.if_icmp .ne 38, 3) := by decide +kernel
theorem dX5_mostFrom_50 : decode cX5_mostFrom 50 = .ok (.iload 7, 2) := by decide +kernel
theorem dX5_mostFrom_52 : decode cX5_mostFrom 52 = .ok (.aload_n 3, 1) := by decide +kernel
theorem dX5_mostFrom_53 : decode cX5_mostFrom 53 = .ok (.getfield 43, 3) := by decide +kernel
theorem dX5_mostFrom_56 : decode cX5_mostFrom 56 = .ok (.iload 6, 2) := by decide +kernel
theorem dX5_mostFrom_58 : decode cX5_mostFrom 58 = .ok (.iaload, 1) := by decide +kernel
theorem dX5_mostFrom_59 : decode cX5_mostFrom 59 = .ok (.if_icmp .ne 26, 3) := by decide +kernel
theorem dX5_mostFrom_62 : decode cX5_mostFrom 62 = .ok (.iconst 1, 1) := by decide +kernel
theorem dX5_mostFrom_63 : decode cX5_mostFrom 63 = .ok (.aload_n 0, 1) := by decide +kernel
theorem dX5_mostFrom_64 : decode cX5_mostFrom 64 = .ok (.getfield 24, 3) := by decide +kernel
theorem dX5_mostFrom_67 : decode cX5_mostFrom 67 = .ok (.iload 4, 2) := by decide +kernel
theorem dX5_mostFrom_69 : decode cX5_mostFrom 69 = .ok (.iconst 1, 1) := by decide +kernel
theorem dX5_mostFrom_70 : decode cX5_mostFrom 70 = .ok (.iadd, 1) := by decide +kernel
theorem dX5_mostFrom_71 : decode cX5_mostFrom 71 = .ok (.iload 5, 2) := by decide +kernel
theorem dX5_mostFrom_73 : decode cX5_mostFrom 73 = .ok (.iconst 1, 1) := by decide +kernel
theorem dX5_mostFrom_74 : decode cX5_mostFrom 74 = .ok (.iadd, 1) := by decide +kernel
theorem dX5_mostFrom_75 : decode cX5_mostFrom 75 = .ok (.iload 6, 2) := by decide +kernel
theorem dX5_mostFrom_77 : decode cX5_mostFrom 77 = .ok (.iconst 1, 1) := by decide +kernel
theorem dX5_mostFrom_78 : decode cX5_mostFrom 78 = .ok (.iadd, 1) := by decide +kernel
theorem dX5_mostFrom_79 : decode cX5_mostFrom 79 = .ok (.invokestatic 31, 3) := by decide +kernel
theorem dX5_mostFrom_82 : decode cX5_mostFrom 82 = .ok (.iaload, 1) := by decide +kernel
theorem dX5_mostFrom_83 : decode cX5_mostFrom 83 = .ok (.iadd, 1) := by decide +kernel
theorem dX5_mostFrom_84 : decode cX5_mostFrom 84 = .ok (.ireturn, 1) := by decide +kernel
theorem dX5_mostFrom_85 : decode cX5_mostFrom 85 = .ok (.aload_n 0, 1) := by decide +kernel
theorem dX5_mostFrom_86 : decode cX5_mostFrom 86 = .ok (.getfield 24, 3) := by decide +kernel
theorem dX5_mostFrom_89 : decode cX5_mostFrom 89 = .ok (.iload 4, 2) := by decide +kernel
theorem dX5_mostFrom_91 : decode cX5_mostFrom 91 = .ok (.iconst 1, 1) := by decide +kernel
theorem dX5_mostFrom_92 : decode cX5_mostFrom 92 = .ok (.iadd, 1) := by decide +kernel
theorem dX5_mostFrom_93 : decode cX5_mostFrom 93 = .ok (.iload 5, 2) := by decide +kernel
theorem dX5_mostFrom_95 : decode cX5_mostFrom 95 = .ok (.iload 6, 2) := by decide +kernel
theorem dX5_mostFrom_97 : decode cX5_mostFrom 97 = .ok (.invokestatic 31, 3) := by decide +kernel
theorem dX5_mostFrom_100 : decode cX5_mostFrom 100 = .ok (.iaload, 1) := by decide +kernel
theorem dX5_mostFrom_101 : decode cX5_mostFrom 101 = .ok (.aload_n 0, 1) := by decide +kernel
theorem dX5_mostFrom_102 : decode cX5_mostFrom 102 = .ok (.getfield 24, 3) := by decide +kernel
theorem dX5_mostFrom_105 : decode cX5_mostFrom 105 = .ok (.iload 4, 2) := by decide +kernel
theorem dX5_mostFrom_107 : decode cX5_mostFrom 107 = .ok (.iload 5, 2) := by decide +kernel
theorem dX5_mostFrom_109 : decode cX5_mostFrom 109 = .ok (.iconst 1, 1) := by decide +kernel
theorem dX5_mostFrom_110 : decode cX5_mostFrom 110 = .ok (.iadd, 1) := by decide +kernel
theorem dX5_mostFrom_111 : decode cX5_mostFrom 111 = .ok (.iload 6, 2) := by decide +kernel
theorem dX5_mostFrom_113 : decode cX5_mostFrom 113 = .ok (.invokestatic 31, 3) := by decide +kernel
theorem dX5_mostFrom_116 : decode cX5_mostFrom 116 = .ok (.iaload, 1) := by decide +kernel
theorem dX5_mostFrom_117 : decode cX5_mostFrom 117 = .ok (.invokestatic 46, 3) := by decide +kernel
theorem dX5_mostFrom_120 : decode cX5_mostFrom 120 = .ok (.istore 8, 2) := by decide +kernel
theorem dX5_mostFrom_122 : decode cX5_mostFrom 122 = .ok (.iload 8, 2) := by decide +kernel
theorem dX5_mostFrom_124 : decode cX5_mostFrom 124 = .ok (.aload_n 0, 1) := by decide +kernel
theorem dX5_mostFrom_125 : decode cX5_mostFrom 125 = .ok (.getfield 24, 3) := by decide +kernel
theorem dX5_mostFrom_128 : decode cX5_mostFrom 128 = .ok (.iload 4, 2) := by decide +kernel
theorem dX5_mostFrom_130 : decode cX5_mostFrom 130 = .ok (.iload 5, 2) := by decide +kernel
theorem dX5_mostFrom_132 : decode cX5_mostFrom 132 = .ok (.iload 6, 2) := by decide +kernel
theorem dX5_mostFrom_134 : decode cX5_mostFrom 134 = .ok (.iconst 1, 1) := by decide +kernel
theorem dX5_mostFrom_135 : decode cX5_mostFrom 135 = .ok (.iadd, 1) := by decide +kernel
theorem dX5_mostFrom_136 : decode cX5_mostFrom 136 = .ok (.invokestatic 31, 3) := by decide +kernel
theorem dX5_mostFrom_139 : decode cX5_mostFrom 139 = .ok (.iaload, 1) := by decide +kernel
theorem dX5_mostFrom_140 : decode cX5_mostFrom 140 = .ok (.invokestatic 46, 3) := by decide +kernel
theorem dX5_mostFrom_143 : decode cX5_mostFrom 143 = .ok (.ireturn, 1) := by decide +kernel
theorem dX5_solve_0 : decode cX5_solve 0 = .ok (.aload_n 1, 1) := by decide +kernel
theorem dX5_solve_1 : decode cX5_solve 1 = .ok (.getfield 28, 3) := by decide +kernel
theorem dX5_solve_4 : decode cX5_solve 4 = .ok (.istore 4, 2) := by decide +kernel
theorem dX5_solve_6 : decode cX5_solve 6 = .ok (.iload 4, 2) := by decide +kernel
theorem dX5_solve_8 : decode cX5_solve 8 = .ok (.ifCond .lt 70, 3) := by decide +kernel
theorem dX5_solve_11 : decode cX5_solve 11 = .ok (.aload_n 2, 1) := by decide +kernel
theorem dX5_solve_12 : decode cX5_solve 12 = .ok (.getfield 28, 3) := by decide +kernel
theorem dX5_solve_15 : decode cX5_solve 15 = .ok (.istore 5, 2) := by decide +kernel
theorem dX5_solve_17 : decode cX5_solve 17 = .ok (.iload 5, 2) := by decide +kernel
theorem dX5_solve_19 : decode cX5_solve 19 = .ok (.ifCond .lt 53, 3) := by decide +kernel
theorem dX5_solve_22 : decode cX5_solve 22 = .ok (.aload_n 3, 1) := by decide +kernel
theorem dX5_solve_23 : decode cX5_solve 23 = .ok (.getfield 28, 3) := by decide +kernel
theorem dX5_solve_26 : decode cX5_solve 26 = .ok (.istore 6, 2) := by decide +kernel
theorem dX5_solve_28 : decode cX5_solve 28 = .ok (.iload 6, 2) := by decide +kernel
theorem dX5_solve_30 : decode cX5_solve 30 = .ok (.ifCond .lt 36, 3) := by decide +kernel
theorem dX5_solve_33 : decode cX5_solve 33 = .ok (.aload_n 0, 1) := by decide +kernel
theorem dX5_solve_34 : decode cX5_solve 34 = .ok (.getfield 24, 3) := by decide +kernel
theorem dX5_solve_37 : decode cX5_solve 37 = .ok (.iload 4, 2) := by decide +kernel
theorem dX5_solve_39 : decode cX5_solve 39 = .ok (.iload 5, 2) := by decide +kernel
theorem dX5_solve_41 : decode cX5_solve 41 = .ok (.iload 6, 2) := by decide +kernel
theorem dX5_solve_43 : decode cX5_solve 43 = .ok (.invokestatic 31, 3) := by decide +kernel
theorem dX5_solve_46 : decode cX5_solve 46 = .ok (.aload_n 0, 1) := by decide +kernel
theorem dX5_solve_47 : decode cX5_solve 47 = .ok (.aload_n 1, 1) := by decide +kernel
theorem dX5_solve_48 : decode cX5_solve 48 = .ok (.aload_n 2, 1) := by decide +kernel
theorem dX5_solve_49 : decode cX5_solve 49 = .ok (.aload_n 3, 1) := by decide +kernel
theorem dX5_solve_50 : decode cX5_solve 50 = .ok (.iload 4, 2) := by decide +kernel
theorem dX5_solve_52 : decode cX5_solve 52 = .ok (.iload 5, 2) := by decide +kernel
theorem dX5_solve_54 : decode cX5_solve 54 = .ok (.iload 6, 2) := by decide +kernel
theorem dX5_solve_56 : decode cX5_solve 56 = .ok (.invokevirtual 35, 3) := by decide +kernel
theorem dX5_solve_59 : decode cX5_solve 59 = .ok (.iastore, 1) := by decide +kernel
theorem dX5_solve_60 : decode cX5_solve 60 = .ok (.iinc 6 (-1), 3) := by decide +kernel
theorem dX5_solve_63 : decode cX5_solve 63 = .ok (.goto (-35), 3) := by decide +kernel
theorem dX5_solve_66 : decode cX5_solve 66 = .ok (.iinc 5 (-1), 3) := by decide +kernel
theorem dX5_solve_69 : decode cX5_solve 69 = .ok (.goto (-52), 3) := by decide +kernel
theorem dX5_solve_72 : decode cX5_solve 72 = .ok (.iinc 4 (-1), 3) := by decide +kernel
theorem dX5_solve_75 : decode cX5_solve 75 = .ok (.goto (-69), 3) := by decide +kernel
theorem dX5_solve_78 : decode cX5_solve 78 = .ok (.aload_n 0, 1) := by decide +kernel
theorem dX5_solve_79 : decode cX5_solve 79 = .ok (.aload_n 1, 1) := by decide +kernel
theorem dX5_solve_80 : decode cX5_solve 80 = .ok (.aload_n 2, 1) := by decide +kernel
theorem dX5_solve_81 : decode cX5_solve 81 = .ok (.aload_n 3, 1) := by decide +kernel
theorem dX5_solve_82 : decode cX5_solve 82 = .ok (.invokevirtual 39, 3) := by decide +kernel
theorem dX5_solve_85 : decode cX5_solve 85 = .ok (.return_, 1) := by decide +kernel
theorem dX5_trace_0 : decode cX5_trace 0 = .ok (.aload_n 0, 1) := by decide +kernel
theorem dX5_trace_1 : decode cX5_trace 1 = .ok (.getfield 14, 3) := by decide +kernel
theorem dX5_trace_4 : decode cX5_trace 4 = .ok (.iconst 0, 1) := by decide +kernel
theorem dX5_trace_5 : decode cX5_trace 5 = .ok (.putfield 28, 3) := by decide +kernel
theorem dX5_trace_8 : decode cX5_trace 8 = .ok (.iconst 0, 1) := by decide +kernel
theorem dX5_trace_9 : decode cX5_trace 9 = .ok (.istore 4, 2) := by decide +kernel
theorem dX5_trace_11 : decode cX5_trace 11 = .ok (.iconst 0, 1) := by decide +kernel
theorem dX5_trace_12 : decode cX5_trace 12 = .ok (.istore 5, 2) := by decide +kernel
theorem dX5_trace_14 : decode cX5_trace 14 = .ok (.iconst 0, 1) := by decide +kernel
theorem dX5_trace_15 : decode cX5_trace 15 = .ok (.istore 6, 2) := by decide +kernel
theorem dX5_trace_17 : decode cX5_trace 17 = .ok (.aload_n 0, 1) := by decide +kernel
theorem dX5_trace_18 : decode cX5_trace 18 = .ok (.getfield 24, 3) := by decide +kernel
theorem dX5_trace_21 : decode cX5_trace 21 = .ok (.iconst 0, 1) := by decide +kernel
theorem dX5_trace_22 : decode cX5_trace 22 = .ok (.iaload, 1) := by decide +kernel
theorem dX5_trace_23 : decode cX5_trace 23 = .ok (.istore 7, 2) := by decide +kernel
theorem dX5_trace_25 : decode cX5_trace 25 = .ok (.iload 7, 2) := by decide +kernel
theorem dX5_trace_27 : decode cX5_trace 27 = .ok (.ifCond .le 142, 3) := by decide +kernel
theorem dX5_trace_30 : decode cX5_trace 30 = .ok (.iconst 0, 1) := by decide +kernel
theorem dX5_trace_31 : decode cX5_trace 31 = .ok (.istore 8, 2) := by decide +kernel
theorem dX5_trace_33 : decode cX5_trace 33 = .ok (.iload 8, 2) := by decide +kernel
theorem dX5_trace_35 : decode cX5_trace 35 = .ok (.bipush 26, 2) := by decide +kernel
theorem dX5_trace_37 : decode cX5_trace 37 = .ok (.if_icmp .ge 126, 3) := by decide +kernel
theorem dX5_trace_40 : decode cX5_trace 40 = .ok (.aload_n 1, 1) := by decide +kernel
theorem dX5_trace_41 : decode cX5_trace 41 = .ok (.iload 8, 2) := by decide +kernel
theorem dX5_trace_43 : decode cX5_trace 43 = .ok (.iload 4, 2) := by decide +kernel
theorem dX5_trace_45 : decode cX5_trace 45 = .ok (.invokevirtual 52, 3) := by decide +kernel
theorem dX5_trace_48 : decode cX5_trace 48 = .ok (.istore 9, 2) := by decide +kernel
theorem dX5_trace_50 : decode cX5_trace 50 = .ok (.aload_n 2, 1) := by decide +kernel
theorem dX5_trace_51 : decode cX5_trace 51 = .ok (.iload 8, 2) := by decide +kernel
theorem dX5_trace_53 : decode cX5_trace 53 = .ok (.iload 5, 2) := by decide +kernel
theorem dX5_trace_55 : decode cX5_trace 55 = .ok (.invokevirtual 52, 3) := by decide +kernel
theorem dX5_trace_58 : decode cX5_trace 58 = .ok (.istore 10, 2) := by decide +kernel
theorem dX5_trace_60 : decode cX5_trace 60 = .ok (.aload_n 3, 1) := by decide +kernel
theorem dX5_trace_61 : decode cX5_trace 61 = .ok (.iload 8, 2) := by decide +kernel
theorem dX5_trace_63 : decode cX5_trace 63 = .ok (.iload 6, 2) := by decide +kernel
theorem dX5_trace_65 : decode cX5_trace 65 = .ok (.invokevirtual 52, 3) := by decide +kernel
theorem dX5_trace_68 : decode cX5_trace 68 = .ok (.istore 11, 2) := by decide +kernel
theorem dX5_trace_70 : decode cX5_trace 70 = .ok (.iload 9, 2) := by decide +kernel
theorem dX5_trace_72 : decode cX5_trace 72 = .ok (.iconst (-1), 1) := by decide +kernel
theorem dX5_trace_73 : decode cX5_trace 73 = .ok (.if_icmp .eq 19, 3) := by decide +kernel
theorem dX5_trace_76 : decode cX5_trace 76 = .ok (.iload 10, 2) := by decide +kernel
theorem dX5_trace_78 : decode cX5_trace 78 = .ok (.iconst (-1), 1) := by decide +kernel
theorem dX5_trace_79 : decode cX5_trace 79 = .ok (.if_icmp .eq 13, 3) := by decide +kernel
theorem dX5_trace_82 : decode cX5_trace 82 = .ok (.iload 11, 2) := by decide +kernel
theorem dX5_trace_84 : decode cX5_trace 84 = .ok (.iconst (-1), 1) := by decide +kernel
theorem dX5_trace_85 : decode cX5_trace 85 = .ok (.if_icmp .eq 7, 3) := by decide +kernel
theorem dX5_trace_88 : decode cX5_trace 88 = .ok (.iconst 1, 1) := by decide +kernel
theorem dX5_trace_89 : decode cX5_trace 89 = .ok (.goto 4, 3) := by decide +kernel
theorem dX5_trace_92 : decode cX5_trace 92 = .ok (.iconst 0, 1) := by decide +kernel
theorem dX5_trace_93 : decode cX5_trace 93 = .ok (.istore 12, 2) := by decide +kernel
theorem dX5_trace_95 : decode cX5_trace 95 = .ok (.iload 12, 2) := by decide +kernel
theorem dX5_trace_97 : decode cX5_trace 97 = .ok (.ifCond .eq 60, 3) := by decide +kernel
theorem dX5_trace_100 : decode cX5_trace 100 = .ok (.aload_n 0, 1) := by decide +kernel
theorem dX5_trace_101 : decode cX5_trace 101 = .ok (.getfield 24, 3) := by decide +kernel
theorem dX5_trace_104 : decode cX5_trace 104 = .ok (.iload 9, 2) := by decide +kernel
theorem dX5_trace_106 : decode cX5_trace 106 = .ok (.iconst 1, 1) := by decide +kernel
theorem dX5_trace_107 : decode cX5_trace 107 = .ok (.iadd, 1) := by decide +kernel
theorem dX5_trace_108 : decode cX5_trace 108 = .ok (.iload 10, 2) := by decide +kernel
theorem dX5_trace_110 : decode cX5_trace 110 = .ok (.iconst 1, 1) := by decide +kernel
theorem dX5_trace_111 : decode cX5_trace 111 = .ok (.iadd, 1) := by decide +kernel
theorem dX5_trace_112 : decode cX5_trace 112 = .ok (.iload 11, 2) := by decide +kernel
theorem dX5_trace_114 : decode cX5_trace 114 = .ok (.iconst 1, 1) := by decide +kernel
theorem dX5_trace_115 : decode cX5_trace 115 = .ok (.iadd, 1) := by decide +kernel
theorem dX5_trace_116 : decode cX5_trace 116 = .ok (.invokestatic 31, 3) := by decide +kernel
theorem dX5_trace_119 : decode cX5_trace 119 = .ok (.iaload, 1) := by decide +kernel
theorem dX5_trace_120 : decode cX5_trace 120 = .ok (.iload 7, 2) := by decide +kernel
theorem dX5_trace_122 : decode cX5_trace 122 = .ok (.iconst 1, 1) := by decide +kernel
theorem dX5_trace_123 : decode cX5_trace 123 = .ok (.isub, 1) := by decide +kernel
theorem dX5_trace_124 : decode cX5_trace 124 = .ok (.if_icmp .ne 33, 3) := by decide +kernel
theorem dX5_trace_127 : decode cX5_trace 127 = .ok (.aload_n 0, 1) := by decide +kernel
theorem dX5_trace_128 : decode cX5_trace 128 = .ok (.getfield 14, 3) := by decide +kernel
theorem dX5_trace_131 : decode cX5_trace 131 = .ok (.iload 8, 2) := by decide +kernel
theorem dX5_trace_133 : decode cX5_trace 133 = .ok (.invokevirtual 55, 3) := by decide +kernel
theorem dX5_trace_136 : decode cX5_trace 136 = .ok (.iload 9, 2) := by decide +kernel
theorem dX5_trace_138 : decode cX5_trace 138 = .ok (.iconst 1, 1) := by decide +kernel
theorem dX5_trace_139 : decode cX5_trace 139 = .ok (.iadd, 1) := by decide +kernel
theorem dX5_trace_140 : decode cX5_trace 140 = .ok (.istore 4, 2) := by decide +kernel
theorem dX5_trace_142 : decode cX5_trace 142 = .ok (.iload 10, 2) := by decide +kernel
theorem dX5_trace_144 : decode cX5_trace 144 = .ok (.iconst 1, 1) := by decide +kernel
theorem dX5_trace_145 : decode cX5_trace 145 = .ok (.iadd, 1) := by decide +kernel
theorem dX5_trace_146 : decode cX5_trace 146 = .ok (.istore 5, 2) := by decide +kernel
theorem dX5_trace_148 : decode cX5_trace 148 = .ok (.iload 11, 2) := by decide +kernel
theorem dX5_trace_150 : decode cX5_trace 150 = .ok (.iconst 1, 1) := by decide +kernel
theorem dX5_trace_151 : decode cX5_trace 151 = .ok (.iadd, 1) := by decide +kernel
theorem dX5_trace_152 : decode cX5_trace 152 = .ok (.istore 6, 2) := by decide +kernel
theorem dX5_trace_154 : decode cX5_trace 154 = .ok (.goto 9, 3) := by decide +kernel
theorem dX5_trace_157 : decode cX5_trace 157 = .ok (.iinc 8 1, 3) := by decide +kernel
theorem dX5_trace_160 : decode cX5_trace 160 = .ok (.goto (-127), 3) := by decide +kernel
theorem dX5_trace_163 : decode cX5_trace 163 = .ok (.iinc 7 (-1), 3) := by decide +kernel
theorem dX5_trace_166 : decode cX5_trace 166 = .ok (.goto (-141), 3) := by decide +kernel
theorem dX5_trace_169 : decode cX5_trace 169 = .ok (.return_, 1) := by decide +kernel
theorem dX6_aimLeaps_0 : decode cX6_aimLeaps 0 = .ok (.iload_n 2, 1) := by decide +kernel
theorem dX6_aimLeaps_1 : decode cX6_aimLeaps 1 = .ok (.iconst 0, 1) := by decide +kernel
theorem dX6_aimLeaps_2 : decode cX6_aimLeaps 2 = .ok (.invokestatic 50, 3) := by decide +kernel
theorem dX6_aimLeaps_5 : decode cX6_aimLeaps 5 = .ok (.istore_n 3, 1) := by decide +kernel
theorem dX6_aimLeaps_6 : decode cX6_aimLeaps 6 = .ok (.iload_n 3, 1) := by decide +kernel
theorem dX6_aimLeaps_7 : decode cX6_aimLeaps 7 = .ok (.aload_n 0, 1) := by decide +kernel
theorem dX6_aimLeaps_8 : decode cX6_aimLeaps 8 = .ok (.getfield 18, 3) := by decide +kernel
theorem dX6_aimLeaps_11 : decode cX6_aimLeaps 11 = .ok (.if_icmp .ge 39, 3) := by decide +kernel
theorem dX6_aimLeaps_14 : decode cX6_aimLeaps 14 = .ok (.aload_n 0, 1) := by decide +kernel
theorem dX6_aimLeaps_15 : decode cX6_aimLeaps 15 = .ok (.getfield 9, 3) := by decide +kernel
theorem dX6_aimLeaps_18 : decode cX6_aimLeaps 18 = .ok (.iload_n 3, 1) := by decide +kernel
theorem dX6_aimLeaps_19 : decode cX6_aimLeaps 19 = .ok (.iaload, 1) := by decide +kernel
theorem dX6_aimLeaps_20 : decode cX6_aimLeaps 20 = .ok (.iload_n 1, 1) := by decide +kernel
theorem dX6_aimLeaps_21 : decode cX6_aimLeaps 21 = .ok (.if_icmp .ne 23, 3) := by decide +kernel
theorem dX6_aimLeaps_24 : decode cX6_aimLeaps 24 = .ok (.aload_n 0, 1) := by decide +kernel
theorem dX6_aimLeaps_25 : decode cX6_aimLeaps 25 = .ok (.getfield 15, 3) := by decide +kernel
theorem dX6_aimLeaps_28 : decode cX6_aimLeaps 28 = .ok (.iload_n 3, 1) := by decide +kernel
theorem dX6_aimLeaps_29 : decode cX6_aimLeaps 29 = .ok (.iaload, 1) := by decide +kernel
theorem dX6_aimLeaps_30 : decode cX6_aimLeaps 30 = .ok (.iconst (-1), 1) := by decide +kernel
theorem dX6_aimLeaps_31 : decode cX6_aimLeaps 31 = .ok (.if_icmp .ne 13, 3) := by decide +kernel
theorem dX6_aimLeaps_34 : decode cX6_aimLeaps 34 = .ok (.aload_n 0, 1) := by decide +kernel
theorem dX6_aimLeaps_35 : decode cX6_aimLeaps 35 = .ok (.getfield 15, 3) := by decide +kernel
theorem dX6_aimLeaps_38 : decode cX6_aimLeaps 38 = .ok (.iload_n 3, 1) := by decide +kernel
theorem dX6_aimLeaps_39 : decode cX6_aimLeaps 39 = .ok (.aload_n 0, 1) := by decide +kernel
theorem dX6_aimLeaps_40 : decode cX6_aimLeaps 40 = .ok (.getfield 18, 3) := by decide +kernel
theorem dX6_aimLeaps_43 : decode cX6_aimLeaps 43 = .ok (.iastore, 1) := by decide +kernel
theorem dX6_aimLeaps_44 : decode cX6_aimLeaps 44 = .ok (.iinc 3 1, 3) := by decide +kernel
theorem dX6_aimLeaps_47 : decode cX6_aimLeaps 47 = .ok (.goto (-41), 3) := by decide +kernel
theorem dX6_aimLeaps_50 : decode cX6_aimLeaps 50 = .ok (.return_, 1) := by decide +kernel
theorem dX6_beginClause_0 : decode cX6_beginClause 0 = .ok (.aload_n 0, 1) := by decide +kernel
theorem dX6_beginClause_1 : decode cX6_beginClause 1 = .ok (.getfield 34, 3) := by decide +kernel
theorem dX6_beginClause_4 : decode cX6_beginClause 4 = .ok (.bipush 12, 2) := by decide +kernel
theorem dX6_beginClause_6 : decode cX6_beginClause 6 = .ok (.if_icmp .ge 26, 3) := by decide +kernel
theorem dX6_beginClause_9 : decode cX6_beginClause 9 = .ok (.aload_n 0, 1) := by decide +kernel
theorem dX6_beginClause_10 : decode cX6_beginClause 10 = .ok (.getfield 22, 3) := by decide +kernel
theorem dX6_beginClause_13 : decode cX6_beginClause 13 = .ok (.aload_n 0, 1) := by decide +kernel
theorem dX6_beginClause_14 : decode cX6_beginClause 14 = .ok (.getfield 34, 3) := by decide +kernel
theorem dX6_beginClause_17 : decode cX6_beginClause 17 = .ok (.iload_n 1, 1) := by decide +kernel
theorem dX6_beginClause_18 : decode cX6_beginClause 18 = .ok (.iastore, 1) := by decide +kernel
theorem dX6_beginClause_19 : decode cX6_beginClause 19 = .ok (.aload_n 0, 1) := by decide +kernel
theorem dX6_beginClause_20 : decode cX6_beginClause 20 = .ok (.getfield 25, 3) := by decide +kernel
theorem dX6_beginClause_23 : decode cX6_beginClause 23 = .ok (.aload_n 0, 1) := by decide +kernel
theorem dX6_beginClause_24 : decode cX6_beginClause 24 = .ok (.getfield 34, 3) := by decide +kernel
theorem dX6_beginClause_27 : decode cX6_beginClause 27 = .ok (.aload_n 0, 1) := by decide +kernel
theorem dX6_beginClause_28 : decode cX6_beginClause 28 = .ok (.getfield 18, 3) := by decide +kernel
theorem dX6_beginClause_31 : decode cX6_beginClause 31 = .ok (.iastore, 1) := by decide +kernel
theorem dX6_beginClause_32 : decode cX6_beginClause 32 = .ok (.return_, 1) := by decide +kernel
theorem dX6_beginCondition_0 : decode cX6_beginCondition 0 = .ok (.aload_n 0, 1) := by decide +kernel
theorem dX6_beginCondition_1 : decode cX6_beginCondition 1 = .ok (.getfield 34, 3) := by decide +kernel
theorem dX6_beginCondition_4 : decode cX6_beginCondition 4 = .ok (.bipush 12, 2) := by decide +kernel
theorem dX6_beginCondition_6 : decode cX6_beginCondition 6 = .ok (.if_icmp .ge 16, 3) := by decide +kernel
theorem dX6_beginCondition_9 : decode cX6_beginCondition 9 = .ok (.aload_n 0, 1) := by decide +kernel
theorem dX6_beginCondition_10 : decode cX6_beginCondition 10 = .ok (.getfield 28, 3) := by decide +kernel
theorem dX6_beginCondition_13 : decode cX6_beginCondition 13 = .ok (.aload_n 0, 1) := by decide +kernel
theorem dX6_beginCondition_14 : decode cX6_beginCondition 14 = .ok (.getfield 34, 3) := by decide +kernel
theorem dX6_beginCondition_17 : decode cX6_beginCondition 17 = .ok (.aload_n 0, 1) := by decide +kernel
theorem dX6_beginCondition_18 : decode cX6_beginCondition 18 = .ok (.getfield 18, 3) := by decide +kernel
theorem dX6_beginCondition_21 : decode cX6_beginCondition 21 = .ok (.iastore, 1) := by decide +kernel
theorem dX6_beginCondition_22 : decode cX6_beginCondition 22 = .ok (.return_, 1) := by decide +kernel
theorem dX6_clear_0 : decode cX6_clear 0 = .ok (.aload_n 0, 1) := by decide +kernel
theorem dX6_clear_1 : decode cX6_clear 1 = .ok (.iconst 0, 1) := by decide +kernel
theorem dX6_clear_2 : decode cX6_clear 2 = .ok (.putfield 18, 3) := by decide +kernel
theorem dX6_clear_5 : decode cX6_clear 5 = .ok (.aload_n 0, 1) := by decide +kernel
theorem dX6_clear_6 : decode cX6_clear 6 = .ok (.iconst 0, 1) := by decide +kernel
theorem dX6_clear_7 : decode cX6_clear 7 = .ok (.putfield 34, 3) := by decide +kernel
theorem dX6_clear_10 : decode cX6_clear 10 = .ok (.return_, 1) := by decide +kernel
theorem dX6_emit_0 : decode cX6_emit 0 = .ok (.aload_n 0, 1) := by decide +kernel
theorem dX6_emit_1 : decode cX6_emit 1 = .ok (.getfield 18, 3) := by decide +kernel
theorem dX6_emit_4 : decode cX6_emit 4 = .ok (.sipush 160, 3) := by decide +kernel
theorem dX6_emit_7 : decode cX6_emit 7 = .ok (.if_icmp .ge 33, 3) := by decide +kernel
theorem dX6_emit_10 : decode cX6_emit 10 = .ok (.aload_n 0, 1) := by decide +kernel
theorem dX6_emit_11 : decode cX6_emit 11 = .ok (.getfield 9, 3) := by decide +kernel
theorem dX6_emit_14 : decode cX6_emit 14 = .ok (.aload_n 0, 1) := by decide +kernel
theorem dX6_emit_15 : decode cX6_emit 15 = .ok (.getfield 18, 3) := by decide +kernel
theorem dX6_emit_18 : decode cX6_emit 18 = .ok (.iload_n 1, 1) := by decide +kernel
theorem dX6_emit_19 : decode cX6_emit 19 = .ok (.iastore, 1) := by decide +kernel
theorem dX6_emit_20 : decode cX6_emit 20 = .ok (.aload_n 0, 1) := by decide +kernel
theorem dX6_emit_21 : decode cX6_emit 21 = .ok (.getfield 15, 3) := by decide +kernel
theorem dX6_emit_24 : decode cX6_emit 24 = .ok (.aload_n 0, 1) := by decide +kernel
theorem dX6_emit_25 : decode cX6_emit 25 = .ok (.getfield 18, 3) := by decide +kernel
theorem dX6_emit_28 : decode cX6_emit 28 = .ok (.iload_n 2, 1) := by decide +kernel
theorem dX6_emit_29 : decode cX6_emit 29 = .ok (.iastore, 1) := by decide +kernel
theorem dX6_emit_30 : decode cX6_emit 30 = .ok (.aload_n 0, 1) := by decide +kernel
theorem dX6_emit_31 : decode cX6_emit 31 = .ok (.dup, 1) := by decide +kernel
theorem dX6_emit_32 : decode cX6_emit 32 = .ok (.getfield 18, 3) := by decide +kernel
theorem dX6_emit_35 : decode cX6_emit 35 = .ok (.iconst 1, 1) := by decide +kernel
theorem dX6_emit_36 : decode cX6_emit 36 = .ok (.iadd, 1) := by decide +kernel
theorem dX6_emit_37 : decode cX6_emit 37 = .ok (.putfield 18, 3) := by decide +kernel
theorem dX6_emit_40 : decode cX6_emit 40 = .ok (.return_, 1) := by decide +kernel
theorem dX6_endClause_0 : decode cX6_endClause 0 = .ok (.aload_n 0, 1) := by decide +kernel
theorem dX6_endClause_1 : decode cX6_endClause 1 = .ok (.getfield 34, 3) := by decide +kernel
theorem dX6_endClause_4 : decode cX6_endClause 4 = .ok (.bipush 12, 2) := by decide +kernel
theorem dX6_endClause_6 : decode cX6_endClause 6 = .ok (.if_icmp .ge 26, 3) := by decide +kernel
theorem dX6_endClause_9 : decode cX6_endClause 9 = .ok (.aload_n 0, 1) := by decide +kernel
theorem dX6_endClause_10 : decode cX6_endClause 10 = .ok (.getfield 31, 3) := by decide +kernel
theorem dX6_endClause_13 : decode cX6_endClause 13 = .ok (.aload_n 0, 1) := by decide +kernel
theorem dX6_endClause_14 : decode cX6_endClause 14 = .ok (.getfield 34, 3) := by decide +kernel
theorem dX6_endClause_17 : decode cX6_endClause 17 = .ok (.aload_n 0, 1) := by decide +kernel
theorem dX6_endClause_18 : decode cX6_endClause 18 = .ok (.getfield 18, 3) := by decide +kernel
theorem dX6_endClause_21 : decode cX6_endClause 21 = .ok (.iastore, 1) := by decide +kernel
theorem dX6_endClause_22 : decode cX6_endClause 22 = .ok (.aload_n 0, 1) := by decide +kernel
theorem dX6_endClause_23 : decode cX6_endClause 23 = .ok (.dup, 1) := by decide +kernel
theorem dX6_endClause_24 : decode cX6_endClause 24 = .ok (.getfield 34, 3) := by decide +kernel
theorem dX6_endClause_27 : decode cX6_endClause 27 = .ok (.iconst 1, 1) := by decide +kernel
theorem dX6_endClause_28 : decode cX6_endClause 28 = .ok (.iadd, 1) := by decide +kernel
theorem dX6_endClause_29 : decode cX6_endClause 29 = .ok (.putfield 34, 3) := by decide +kernel
theorem dX6_endClause_32 : decode cX6_endClause 32 = .ok (.return_, 1) := by decide +kernel
theorem dX6_forbids_0 : decode cX6_forbids 0 = .ok (.iconst 0, 1) := by decide +kernel
theorem dX6_forbids_1 : decode cX6_forbids 1 = .ok (.istore_n 1, 1) := by decide +kernel
theorem dX6_forbids_2 : decode cX6_forbids 2 = .ok (.iload_n 1, 1) := by decide +kernel
theorem dX6_forbids_3 : decode cX6_forbids 3 = .ok (.aload_n 0, 1) := by decide +kernel
theorem dX6_forbids_4 : decode cX6_forbids 4 = .ok (.getfield 34, 3) := by decide +kernel
theorem dX6_forbids_7 : decode cX6_forbids 7 = .ok (.if_icmp .ge 30, 3) := by decide +kernel
theorem dX6_forbids_10 : decode cX6_forbids 10 = .ok (.aload_n 0, 1) := by decide +kernel
theorem dX6_forbids_11 : decode cX6_forbids 11 = .ok (.getfield 22, 3) := by decide +kernel
theorem dX6_forbids_14 : decode cX6_forbids 14 = .ok (.iload_n 1, 1) := by decide +kernel
theorem dX6_forbids_15 : decode cX6_forbids 15 = .ok (.iaload, 1) := by decide +kernel
theorem dX6_forbids_16 : decode cX6_forbids 16 = .ok (.bipush 110, 2) := by decide +kernel
theorem dX6_forbids_18 : decode cX6_forbids 18 = .ok (.if_icmp .ne 13, 3) := by decide +kernel
theorem dX6_forbids_21 : decode cX6_forbids 21 = .ok (.aload_n 0, 1) := by decide +kernel
theorem dX6_forbids_22 : decode cX6_forbids 22 = .ok (.iload_n 1, 1) := by decide +kernel
theorem dX6_forbids_23 : decode cX6_forbids 23 = .ok (.invokevirtual 80, 3) := by decide +kernel
theorem dX6_forbids_26 : decode cX6_forbids 26 = .ok (.ifCond .eq 5, 3) := by decide +kernel
theorem dX6_forbids_29 : decode cX6_forbids 29 = .ok (.iconst 1, 1) := by decide +kernel
theorem dX6_forbids_30 : decode cX6_forbids 30 = .ok (.ireturn, 1) := by decide +kernel
theorem dX6_forbids_31 : decode cX6_forbids 31 = .ok (.iinc 1 1, 3) := by decide +kernel
theorem dX6_forbids_34 : decode cX6_forbids 34 = .ok (.goto (-32), 3) := by decide +kernel
theorem dX6_forbids_37 : decode cX6_forbids 37 = .ok (.iconst 0, 1) := by decide +kernel
theorem dX6_forbids_38 : decode cX6_forbids 38 = .ok (.ireturn, 1) := by decide +kernel
theorem dX6_holds_0 : decode cX6_holds 0 = .ok (.aload_n 0, 1) := by decide +kernel
theorem dX6_holds_1 : decode cX6_holds 1 = .ok (.aload_n 0, 1) := by decide +kernel
theorem dX6_holds_2 : decode cX6_holds 2 = .ok (.getfield 28, 3) := by decide +kernel
theorem dX6_holds_5 : decode cX6_holds 5 = .ok (.iload_n 1, 1) := by decide +kernel
theorem dX6_holds_6 : decode cX6_holds 6 = .ok (.iaload, 1) := by decide +kernel
theorem dX6_holds_7 : decode cX6_holds 7 = .ok (.aload_n 0, 1) := by decide +kernel
theorem dX6_holds_8 : decode cX6_holds 8 = .ok (.getfield 31, 3) := by decide +kernel
theorem dX6_holds_11 : decode cX6_holds 11 = .ok (.iload_n 1, 1) := by decide +kernel
theorem dX6_holds_12 : decode cX6_holds 12 = .ok (.iaload, 1) := by decide +kernel
theorem dX6_holds_13 : decode cX6_holds 13 = .ok (.invokevirtual 84, 3) := by decide +kernel
theorem dX6_holds_16 : decode cX6_holds 16 = .ok (.istore_n 2, 1) := by decide +kernel
theorem dX6_holds_17 : decode cX6_holds 17 = .ok (.aload_n 0, 1) := by decide +kernel
theorem dX6_holds_18 : decode cX6_holds 18 = .ok (.getfield 46, 3) := by decide +kernel
theorem dX6_holds_21 : decode cX6_holds 21 = .ok (.ifCond .ne 11, 3) := by decide +kernel
theorem dX6_holds_24 : decode cX6_holds 24 = .ok (.iload_n 2, 1) := by decide +kernel
theorem dX6_holds_25 : decode cX6_holds 25 = .ok (.ifCond .eq 7, 3) := by decide +kernel
theorem dX6_holds_28 : decode cX6_holds 28 = .ok (.iconst 1, 1) := by decide +kernel
theorem dX6_holds_29 : decode cX6_holds 29 = .ok (.goto 4, 3) := by decide +kernel
theorem dX6_holds_32 : decode cX6_holds 32 = .ok (.iconst 0, 1) := by decide +kernel
theorem dX6_holds_33 : decode cX6_holds 33 = .ok (.ireturn, 1) := by decide +kernel
theorem dX6_init_0 : decode cX6_init 0 = .ok (.aload_n 0, 1) := by decide +kernel
theorem dX6_init_1 : decode cX6_init 1 = .ok (.invokespecial 3, 3) := by decide +kernel
theorem dX6_init_4 : decode cX6_init 4 = .ok (.aload_n 0, 1) := by decide +kernel
theorem dX6_init_5 : decode cX6_init 5 = .ok (.sipush 160, 3) := by decide +kernel
theorem dX6_init_8 : decode cX6_init 8 = .ok (.newarray .int, 2) := by decide +kernel
theorem dX6_init_10 : decode cX6_init 10 = .ok (.putfield 9, 3) := by decide +kernel
theorem dX6_init_13 : decode cX6_init 13 = .ok (.aload_n 0, 1) := by decide +kernel
theorem dX6_init_14 : decode cX6_init 14 = .ok (.sipush 160, 3) := by decide +kernel
theorem dX6_init_17 : decode cX6_init 17 = .ok (.newarray .int, 2) := by decide +kernel
theorem dX6_init_19 : decode cX6_init 19 = .ok (.putfield 15, 3) := by decide +kernel
theorem dX6_init_22 : decode cX6_init 22 = .ok (.aload_n 0, 1) := by decide +kernel
theorem dX6_init_23 : decode cX6_init 23 = .ok (.iconst 0, 1) := by decide +kernel
theorem dX6_init_24 : decode cX6_init 24 = .ok (.putfield 18, 3) := by decide +kernel
theorem dX6_init_27 : decode cX6_init 27 = .ok (.aload_n 0, 1) := by decide +kernel
theorem dX6_init_28 : decode cX6_init 28 = .ok (.bipush 12, 2) := by decide +kernel
theorem dX6_init_30 : decode cX6_init 30 = .ok (.newarray .int, 2) := by decide +kernel
theorem dX6_init_32 : decode cX6_init 32 = .ok (.putfield 22, 3) := by decide +kernel
theorem dX6_init_35 : decode cX6_init 35 = .ok (.aload_n 0, 1) := by decide +kernel
theorem dX6_init_36 : decode cX6_init 36 = .ok (.bipush 12, 2) := by decide +kernel
theorem dX6_init_38 : decode cX6_init 38 = .ok (.newarray .int, 2) := by decide +kernel
theorem dX6_init_40 : decode cX6_init 40 = .ok (.putfield 25, 3) := by decide +kernel
theorem dX6_init_43 : decode cX6_init 43 = .ok (.aload_n 0, 1) := by decide +kernel
theorem dX6_init_44 : decode cX6_init 44 = .ok (.bipush 12, 2) := by decide +kernel
theorem dX6_init_46 : decode cX6_init 46 = .ok (.newarray .int, 2) := by decide +kernel
theorem dX6_init_48 : decode cX6_init 48 = .ok (.putfield 28, 3) := by decide +kernel
theorem dX6_init_51 : decode cX6_init 51 = .ok (.aload_n 0, 1) := by decide +kernel
theorem dX6_init_52 : decode cX6_init 52 = .ok (.bipush 12, 2) := by decide +kernel
theorem dX6_init_54 : decode cX6_init 54 = .ok (.newarray .int, 2) := by decide +kernel
theorem dX6_init_56 : decode cX6_init 56 = .ok (.putfield 31, 3) := by decide +kernel
theorem dX6_init_59 : decode cX6_init 59 = .ok (.aload_n 0, 1) := by decide +kernel
theorem dX6_init_60 : decode cX6_init 60 = .ok (.iconst 0, 1) := by decide +kernel
theorem dX6_init_61 : decode cX6_init 61 = .ok (.putfield 34, 3) := by decide +kernel
theorem dX6_init_64 : decode cX6_init 64 = .ok (.aload_n 0, 1) := by decide +kernel
theorem dX6_init_65 : decode cX6_init 65 = .ok (.bipush 10, 2) := by decide +kernel
theorem dX6_init_67 : decode cX6_init 67 = .ok (.newarray .int, 2) := by decide +kernel
theorem dX6_init_69 : decode cX6_init 69 = .ok (.putfield 37, 3) := by decide +kernel
theorem dX6_init_72 : decode cX6_init 72 = .ok (.aload_n 0, 1) := by decide +kernel
theorem dX6_init_73 : decode cX6_init 73 = .ok (.bipush 32, 2) := by decide +kernel
theorem dX6_init_75 : decode cX6_init 75 = .ok (.newarray .int, 2) := by decide +kernel
theorem dX6_init_77 : decode cX6_init 77 = .ok (.putfield 40, 3) := by decide +kernel
theorem dX6_init_80 : decode cX6_init 80 = .ok (.aload_n 0, 1) := by decide +kernel
theorem dX6_init_81 : decode cX6_init 81 = .ok (.iconst 0, 1) := by decide +kernel
theorem dX6_init_82 : decode cX6_init 82 = .ok (.putfield 43, 3) := by decide +kernel
theorem dX6_init_85 : decode cX6_init 85 = .ok (.aload_n 0, 1) := by decide +kernel
theorem dX6_init_86 : decode cX6_init 86 = .ok (.iconst 0, 1) := by decide +kernel
theorem dX6_init_87 : decode cX6_init 87 = .ok (.putfield 46, 3) := by decide +kernel
theorem dX6_init_90 : decode cX6_init 90 = .ok (.return_, 1) := by decide +kernel
theorem dX6_join_0 : decode cX6_join 0 = .ok (.iload_n 0, 1) := by decide +kernel
theorem dX6_join_1 : decode cX6_join 1 = .ok (.lookupswitch 125 #[(37, 91), (42, 75), (43, 67), (45, 71), (47, 79), (60, 103), (62, 114)], 67) := by decide +kernel
theorem dX6_join_68 : decode cX6_join 68 = .ok (.iload_n 1, 1) := by decide +kernel
theorem dX6_join_69 : decode cX6_join 69 = .ok (.iload_n 2, 1) := by decide +kernel
theorem dX6_join_70 : decode cX6_join 70 = .ok (.iadd, 1) := by decide +kernel
theorem dX6_join_71 : decode cX6_join 71 = .ok (.ireturn, 1) := by decide +kernel
theorem dX6_join_72 : decode cX6_join 72 = .ok (.iload_n 1, 1) := by decide +kernel
theorem dX6_join_73 : decode cX6_join 73 = .ok (.iload_n 2, 1) := by decide +kernel
theorem dX6_join_74 : decode cX6_join 74 = .ok (.isub, 1) := by decide +kernel
theorem dX6_join_75 : decode cX6_join 75 = .ok (.ireturn, 1) := by decide +kernel
theorem dX6_join_76 : decode cX6_join 76 = .ok (.iload_n 1, 1) := by decide +kernel
theorem dX6_join_77 : decode cX6_join 77 = .ok (.iload_n 2, 1) := by decide +kernel
theorem dX6_join_78 : decode cX6_join 78 = .ok (.imul, 1) := by decide +kernel
theorem dX6_join_79 : decode cX6_join 79 = .ok (.ireturn, 1) := by decide +kernel
theorem dX6_join_80 : decode cX6_join 80 = .ok (.iload_n 2, 1) := by decide +kernel
theorem dX6_join_81 : decode cX6_join 81 = .ok (.ifCond .ne 7, 3) := by decide +kernel
theorem dX6_join_84 : decode cX6_join 84 = .ok (.iconst 0, 1) := by decide +kernel
theorem dX6_join_85 : decode cX6_join 85 = .ok (.goto 6, 3) := by decide +kernel
theorem dX6_join_88 : decode cX6_join 88 = .ok (.iload_n 1, 1) := by decide +kernel
theorem dX6_join_89 : decode cX6_join 89 = .ok (.iload_n 2, 1) := by decide +kernel
theorem dX6_join_90 : decode cX6_join 90 = .ok (.idiv, 1) := by decide +kernel
theorem dX6_join_91 : decode cX6_join 91 = .ok (.ireturn, 1) := by decide +kernel
theorem dX6_join_92 : decode cX6_join 92 = .ok (.iload_n 2, 1) := by decide +kernel
theorem dX6_join_93 : decode cX6_join 93 = .ok (.ifCond .ne 7, 3) := by decide +kernel
theorem dX6_join_96 : decode cX6_join 96 = .ok (.iconst 0, 1) := by decide +kernel
theorem dX6_join_97 : decode cX6_join 97 = .ok (.goto 6, 3) := by decide +kernel
theorem dX6_join_100 : decode cX6_join 100 = .ok (.iload_n 1, 1) := by decide +kernel
theorem dX6_join_101 : decode cX6_join 101 = .ok (.iload_n 2, 1) := by decide +kernel
theorem dX6_join_102 : decode cX6_join 102 = .ok (.irem, 1) := by decide +kernel
theorem dX6_join_103 : decode cX6_join 103 = .ok (.ireturn, 1) := by decide +kernel
theorem dX6_join_104 : decode cX6_join 104 = .ok (.iload_n 1, 1) := by decide +kernel
theorem dX6_join_105 : decode cX6_join 105 = .ok (.iload_n 2, 1) := by decide +kernel
theorem dX6_join_106 : decode cX6_join 106 = .ok (.if_icmp .ge 7, 3) := by decide +kernel
theorem dX6_join_109 : decode cX6_join 109 = .ok (.iconst 1, 1) := by decide +kernel
theorem dX6_join_110 : decode cX6_join 110 = .ok (.goto 4, 3) := by decide +kernel
theorem dX6_join_113 : decode cX6_join 113 = .ok (.iconst 0, 1) := by decide +kernel
theorem dX6_join_114 : decode cX6_join 114 = .ok (.ireturn, 1) := by decide +kernel
theorem dX6_join_115 : decode cX6_join 115 = .ok (.iload_n 1, 1) := by decide +kernel
theorem dX6_join_116 : decode cX6_join 116 = .ok (.iload_n 2, 1) := by decide +kernel
theorem dX6_join_117 : decode cX6_join 117 = .ok (.if_icmp .le 7, 3) := by decide +kernel
theorem dX6_join_120 : decode cX6_join 120 = .ok (.iconst 1, 1) := by decide +kernel
theorem dX6_join_121 : decode cX6_join 121 = .ok (.goto 4, 3) := by decide +kernel
theorem dX6_join_124 : decode cX6_join 124 = .ok (.iconst 0, 1) := by decide +kernel
theorem dX6_join_125 : decode cX6_join 125 = .ok (.ireturn, 1) := by decide +kernel
theorem dX6_join_126 : decode cX6_join 126 = .ok (.iload_n 1, 1) := by decide +kernel
theorem dX6_join_127 : decode cX6_join 127 = .ok (.iload_n 2, 1) := by decide +kernel
theorem dX6_join_128 : decode cX6_join 128 = .ok (.if_icmp .ne 7, 3) := by decide +kernel
theorem dX6_join_131 : decode cX6_join 131 = .ok (.iconst 1, 1) := by decide +kernel
theorem dX6_join_132 : decode cX6_join 132 = .ok (.goto 4, 3) := by decide +kernel
theorem dX6_join_135 : decode cX6_join 135 = .ok (.iconst 0, 1) := by decide +kernel
theorem dX6_join_136 : decode cX6_join 136 = .ok (.ireturn, 1) := by decide +kernel
theorem dX6_pop_0 : decode cX6_pop 0 = .ok (.aload_n 0, 1) := by decide +kernel
theorem dX6_pop_1 : decode cX6_pop 1 = .ok (.getfield 43, 3) := by decide +kernel
theorem dX6_pop_4 : decode cX6_pop 4 = .ok (.ifCond .ne 5, 3) := by decide +kernel
theorem dX6_pop_7 : decode cX6_pop 7 = .ok (.iconst 0, 1) := by decide +kernel
theorem dX6_pop_8 : decode cX6_pop 8 = .ok (.ireturn, 1) := by decide +kernel
theorem dX6_pop_9 : decode cX6_pop 9 = .ok (.aload_n 0, 1) := by decide +kernel
theorem dX6_pop_10 : decode cX6_pop 10 = .ok (.dup, 1) := by decide +kernel
theorem dX6_pop_11 : decode cX6_pop 11 = .ok (.getfield 43, 3) := by decide +kernel
theorem dX6_pop_14 : decode cX6_pop 14 = .ok (.iconst 1, 1) := by decide +kernel
theorem dX6_pop_15 : decode cX6_pop 15 = .ok (.isub, 1) := by decide +kernel
theorem dX6_pop_16 : decode cX6_pop 16 = .ok (.putfield 43, 3) := by decide +kernel
theorem dX6_pop_19 : decode cX6_pop 19 = .ok (.aload_n 0, 1) := by decide +kernel
theorem dX6_pop_20 : decode cX6_pop 20 = .ok (.getfield 40, 3) := by decide +kernel
theorem dX6_pop_23 : decode cX6_pop 23 = .ok (.aload_n 0, 1) := by decide +kernel
theorem dX6_pop_24 : decode cX6_pop 24 = .ok (.getfield 43, 3) := by decide +kernel
theorem dX6_pop_27 : decode cX6_pop 27 = .ok (.iaload, 1) := by decide +kernel
theorem dX6_pop_28 : decode cX6_pop 28 = .ok (.ireturn, 1) := by decide +kernel
theorem dX6_priceNow_0 : decode cX6_priceNow 0 = .ok (.iconst 0, 1) := by decide +kernel
theorem dX6_priceNow_1 : decode cX6_priceNow 1 = .ok (.istore_n 1, 1) := by decide +kernel
theorem dX6_priceNow_2 : decode cX6_priceNow 2 = .ok (.iload_n 1, 1) := by decide +kernel
theorem dX6_priceNow_3 : decode cX6_priceNow 3 = .ok (.aload_n 0, 1) := by decide +kernel
theorem dX6_priceNow_4 : decode cX6_priceNow 4 = .ok (.getfield 34, 3) := by decide +kernel
theorem dX6_priceNow_7 : decode cX6_priceNow 7 = .ok (.if_icmp .ge 67, 3) := by decide +kernel
theorem dX6_priceNow_10 : decode cX6_priceNow 10 = .ok (.aload_n 0, 1) := by decide +kernel
theorem dX6_priceNow_11 : decode cX6_priceNow 11 = .ok (.getfield 22, 3) := by decide +kernel
theorem dX6_priceNow_14 : decode cX6_priceNow 14 = .ok (.iload_n 1, 1) := by decide +kernel
theorem dX6_priceNow_15 : decode cX6_priceNow 15 = .ok (.iaload, 1) := by decide +kernel
theorem dX6_priceNow_16 : decode cX6_priceNow 16 = .ok (.bipush 112, 2) := by decide +kernel
theorem dX6_priceNow_18 : decode cX6_priceNow 18 = .ok (.if_icmp .ne 50, 3) := by decide +kernel
theorem dX6_priceNow_21 : decode cX6_priceNow 21 = .ok (.aload_n 0, 1) := by decide +kernel
theorem dX6_priceNow_22 : decode cX6_priceNow 22 = .ok (.iload_n 1, 1) := by decide +kernel
theorem dX6_priceNow_23 : decode cX6_priceNow 23 = .ok (.invokevirtual 80, 3) := by decide +kernel
theorem dX6_priceNow_26 : decode cX6_priceNow 26 = .ok (.ifCond .eq 42, 3) := by decide +kernel
theorem dX6_priceNow_29 : decode cX6_priceNow 29 = .ok (.aload_n 0, 1) := by decide +kernel
theorem dX6_priceNow_30 : decode cX6_priceNow 30 = .ok (.aload_n 0, 1) := by decide +kernel
theorem dX6_priceNow_31 : decode cX6_priceNow 31 = .ok (.getfield 25, 3) := by decide +kernel
theorem dX6_priceNow_34 : decode cX6_priceNow 34 = .ok (.iload_n 1, 1) := by decide +kernel
theorem dX6_priceNow_35 : decode cX6_priceNow 35 = .ok (.iaload, 1) := by decide +kernel
theorem dX6_priceNow_36 : decode cX6_priceNow 36 = .ok (.aload_n 0, 1) := by decide +kernel
theorem dX6_priceNow_37 : decode cX6_priceNow 37 = .ok (.getfield 28, 3) := by decide +kernel
theorem dX6_priceNow_40 : decode cX6_priceNow 40 = .ok (.iload_n 1, 1) := by decide +kernel
theorem dX6_priceNow_41 : decode cX6_priceNow 41 = .ok (.iaload, 1) := by decide +kernel
theorem dX6_priceNow_42 : decode cX6_priceNow 42 = .ok (.invokevirtual 84, 3) := by decide +kernel
theorem dX6_priceNow_45 : decode cX6_priceNow 45 = .ok (.istore_n 2, 1) := by decide +kernel
theorem dX6_priceNow_46 : decode cX6_priceNow 46 = .ok (.aload_n 0, 1) := by decide +kernel
theorem dX6_priceNow_47 : decode cX6_priceNow 47 = .ok (.getfield 46, 3) := by decide +kernel
theorem dX6_priceNow_50 : decode cX6_priceNow 50 = .ok (.ifCond .eq 7, 3) := by decide +kernel
theorem dX6_priceNow_53 : decode cX6_priceNow 53 = .ok (.iconst 0, 1) := by decide +kernel
theorem dX6_priceNow_54 : decode cX6_priceNow 54 = .ok (.goto 13, 3) := by decide +kernel
theorem dX6_priceNow_57 : decode cX6_priceNow 57 = .ok (.iconst 0, 1) := by decide +kernel
theorem dX6_priceNow_58 : decode cX6_priceNow 58 = .ok (.bipush 99, 2) := by decide +kernel
theorem dX6_priceNow_60 : decode cX6_priceNow 60 = .ok (.iload_n 2, 1) := by decide +kernel
theorem dX6_priceNow_61 : decode cX6_priceNow 61 = .ok (.invokestatic 87, 3) := by decide +kernel
theorem dX6_priceNow_64 : decode cX6_priceNow 64 = .ok (.invokestatic 50, 3) := by decide +kernel
theorem dX6_priceNow_67 : decode cX6_priceNow 67 = .ok (.ireturn, 1) := by decide +kernel
theorem dX6_priceNow_68 : decode cX6_priceNow 68 = .ok (.iinc 1 1, 3) := by decide +kernel
theorem dX6_priceNow_71 : decode cX6_priceNow 71 = .ok (.goto (-69), 3) := by decide +kernel
theorem dX6_priceNow_74 : decode cX6_priceNow 74 = .ok (.iconst 1, 1) := by decide +kernel
theorem dX6_priceNow_75 : decode cX6_priceNow 75 = .ok (.ireturn, 1) := by decide +kernel
theorem dX6_push_0 : decode cX6_push 0 = .ok (.aload_n 0, 1) := by decide +kernel
theorem dX6_push_1 : decode cX6_push 1 = .ok (.getfield 43, 3) := by decide +kernel
theorem dX6_push_4 : decode cX6_push 4 = .ok (.bipush 32, 2) := by decide +kernel
theorem dX6_push_6 : decode cX6_push 6 = .ok (.if_icmp .ge 23, 3) := by decide +kernel
theorem dX6_push_9 : decode cX6_push 9 = .ok (.aload_n 0, 1) := by decide +kernel
theorem dX6_push_10 : decode cX6_push 10 = .ok (.getfield 40, 3) := by decide +kernel
theorem dX6_push_13 : decode cX6_push 13 = .ok (.aload_n 0, 1) := by decide +kernel
theorem dX6_push_14 : decode cX6_push 14 = .ok (.getfield 43, 3) := by decide +kernel
theorem dX6_push_17 : decode cX6_push 17 = .ok (.iload_n 1, 1) := by decide +kernel
theorem dX6_push_18 : decode cX6_push 18 = .ok (.iastore, 1) := by decide +kernel
theorem dX6_push_19 : decode cX6_push 19 = .ok (.aload_n 0, 1) := by decide +kernel
theorem dX6_push_20 : decode cX6_push 20 = .ok (.dup, 1) := by decide +kernel
theorem dX6_push_21 : decode cX6_push 21 = .ok (.getfield 43, 3) := by decide +kernel
theorem dX6_push_24 : decode cX6_push 24 = .ok (.iconst 1, 1) := by decide +kernel
theorem dX6_push_25 : decode cX6_push 25 = .ok (.iadd, 1) := by decide +kernel
theorem dX6_push_26 : decode cX6_push 26 = .ok (.putfield 43, 3) := by decide +kernel
theorem dX6_push_29 : decode cX6_push 29 = .ok (.return_, 1) := by decide +kernel
theorem dX6_reckon_0 : decode cX6_reckon 0 = .ok (.aload_n 0, 1) := by decide +kernel
theorem dX6_reckon_1 : decode cX6_reckon 1 = .ok (.iconst 0, 1) := by decide +kernel
theorem dX6_reckon_2 : decode cX6_reckon 2 = .ok (.putfield 43, 3) := by decide +kernel
theorem dX6_reckon_5 : decode cX6_reckon 5 = .ok (.aload_n 0, 1) := by decide +kernel
theorem dX6_reckon_6 : decode cX6_reckon 6 = .ok (.iconst 0, 1) := by decide +kernel
theorem dX6_reckon_7 : decode cX6_reckon 7 = .ok (.putfield 46, 3) := by decide +kernel
theorem dX6_reckon_10 : decode cX6_reckon 10 = .ok (.iload_n 1, 1) := by decide +kernel
theorem dX6_reckon_11 : decode cX6_reckon 11 = .ok (.istore_n 3, 1) := by decide +kernel
theorem dX6_reckon_12 : decode cX6_reckon 12 = .ok (.iload_n 3, 1) := by decide +kernel
theorem dX6_reckon_13 : decode cX6_reckon 13 = .ok (.iload_n 2, 1) := by decide +kernel
theorem dX6_reckon_14 : decode cX6_reckon 14 = .ok (.if_icmp .ge 111, 3) := by decide +kernel
theorem dX6_reckon_17 : decode cX6_reckon 17 = .ok (.aload_n 0, 1) := by decide +kernel
theorem dX6_reckon_18 : decode cX6_reckon 18 = .ok (.getfield 46, 3) := by decide +kernel
theorem dX6_reckon_21 : decode cX6_reckon 21 = .ok (.ifCond .ne 104, 3) := by decide +kernel
theorem dX6_reckon_24 : decode cX6_reckon 24 = .ok (.aload_n 0, 1) := by decide +kernel
theorem dX6_reckon_25 : decode cX6_reckon 25 = .ok (.getfield 9, 3) := by decide +kernel
theorem dX6_reckon_28 : decode cX6_reckon 28 = .ok (.iload_n 3, 1) := by decide +kernel
theorem dX6_reckon_29 : decode cX6_reckon 29 = .ok (.iaload, 1) := by decide +kernel
theorem dX6_reckon_30 : decode cX6_reckon 30 = .ok (.bipush 124, 2) := by decide +kernel
theorem dX6_reckon_32 : decode cX6_reckon 32 = .ok (.if_icmp .eq 14, 3) := by decide +kernel
theorem dX6_reckon_35 : decode cX6_reckon 35 = .ok (.aload_n 0, 1) := by decide +kernel
theorem dX6_reckon_36 : decode cX6_reckon 36 = .ok (.getfield 9, 3) := by decide +kernel
theorem dX6_reckon_39 : decode cX6_reckon 39 = .ok (.iload_n 3, 1) := by decide +kernel
theorem dX6_reckon_40 : decode cX6_reckon 40 = .ok (.iaload, 1) := by decide +kernel
theorem dX6_reckon_41 : decode cX6_reckon 41 = .ok (.bipush 38, 2) := by decide +kernel
theorem dX6_reckon_43 : decode cX6_reckon 43 = .ok (.if_icmp .ne 60, 3) := by decide +kernel
theorem dX6_reckon_46 : decode cX6_reckon 46 = .ok (.aload_n 0, 1) := by decide +kernel
theorem dX6_reckon_47 : decode cX6_reckon 47 = .ok (.invokevirtual 90, 3) := by decide +kernel
theorem dX6_reckon_50 : decode cX6_reckon 50 = .ok (.istore 4, 2) := by decide +kernel
theorem dX6_reckon_52 : decode cX6_reckon 52 = .ok (.iload 4, 2) := by decide +kernel
theorem dX6_reckon_54 : decode cX6_reckon 54 = .ok (.ifCond .eq 7, 3) := by decide +kernel
theorem dX6_reckon_57 : decode cX6_reckon 57 = .ok (.iconst 1, 1) := by decide +kernel
theorem dX6_reckon_58 : decode cX6_reckon 58 = .ok (.goto 4, 3) := by decide +kernel
theorem dX6_reckon_61 : decode cX6_reckon 61 = .ok (.iconst 0, 1) := by decide +kernel
theorem dX6_reckon_62 : decode cX6_reckon 62 = .ok (.aload_n 0, 1) := by decide +kernel
theorem dX6_reckon_63 : decode cX6_reckon 63 = .ok (.getfield 9, 3) := by decide +kernel
theorem dX6_reckon_66 : decode cX6_reckon 66 = .ok (.iload_n 3, 1) := by decide +kernel
theorem dX6_reckon_67 : decode cX6_reckon 67 = .ok (.iaload, 1) := by decide +kernel
theorem dX6_reckon_68 : decode cX6_reckon 68 = .ok (.bipush 124, 2) := by decide +kernel
theorem dX6_reckon_70 : decode cX6_reckon 70 = .ok (.if_icmp .ne 7, 3) := by decide +kernel
theorem dX6_reckon_73 : decode cX6_reckon 73 = .ok (.iconst 1, 1) := by decide +kernel
theorem dX6_reckon_74 : decode cX6_reckon 74 = .ok (.goto 4, 3) := by decide +kernel
theorem dX6_reckon_77 : decode cX6_reckon 77 = .ok (.iconst 0, 1) := by decide +kernel
theorem dX6_reckon_78 : decode cX6_reckon 78 = .ok (.if_icmp .ne 22, 3) := by decide +kernel
theorem dX6_reckon_81 : decode cX6_reckon 81 = .ok (.aload_n 0, 1) := by decide +kernel
theorem dX6_reckon_82 : decode cX6_reckon 82 = .ok (.iload 4, 2) := by decide +kernel
theorem dX6_reckon_84 : decode cX6_reckon 84 = .ok (.invokevirtual 94, 3) := by decide +kernel
theorem dX6_reckon_87 : decode cX6_reckon 87 = .ok (.iload_n 3, 1) := by decide +kernel
theorem dX6_reckon_88 : decode cX6_reckon 88 = .ok (.aload_n 0, 1) := by decide +kernel
theorem dX6_reckon_89 : decode cX6_reckon 89 = .ok (.getfield 15, 3) := by decide +kernel
theorem dX6_reckon_92 : decode cX6_reckon 92 = .ok (.iload_n 3, 1) := by decide +kernel
theorem dX6_reckon_93 : decode cX6_reckon 93 = .ok (.iaload, 1) := by decide +kernel
theorem dX6_reckon_94 : decode cX6_reckon 94 = .ok (.iconst 1, 1) := by decide +kernel
theorem dX6_reckon_95 : decode cX6_reckon 95 = .ok (.isub, 1) := by decide +kernel
theorem dX6_reckon_96 : decode cX6_reckon 96 = .ok (.invokestatic 50, 3) := by decide +kernel
theorem dX6_reckon_99 : decode cX6_reckon 99 = .ok (.istore_n 3, 1) := by decide +kernel
theorem dX6_reckon_100 : decode cX6_reckon 100 = .ok (.goto 19, 3) := by decide +kernel
theorem dX6_reckon_103 : decode cX6_reckon 103 = .ok (.aload_n 0, 1) := by decide +kernel
theorem dX6_reckon_104 : decode cX6_reckon 104 = .ok (.aload_n 0, 1) := by decide +kernel
theorem dX6_reckon_105 : decode cX6_reckon 105 = .ok (.getfield 9, 3) := by decide +kernel
theorem dX6_reckon_108 : decode cX6_reckon 108 = .ok (.iload_n 3, 1) := by decide +kernel
theorem dX6_reckon_109 : decode cX6_reckon 109 = .ok (.iaload, 1) := by decide +kernel
theorem dX6_reckon_110 : decode cX6_reckon 110 = .ok (.aload_n 0, 1) := by decide +kernel
theorem dX6_reckon_111 : decode cX6_reckon 111 = .ok (.getfield 15, 3) := by decide +kernel
theorem dX6_reckon_114 : decode cX6_reckon 114 = .ok (.iload_n 3, 1) := by decide +kernel
theorem dX6_reckon_115 : decode cX6_reckon 115 = .ok (.iaload, 1) := by decide +kernel
theorem dX6_reckon_116 : decode cX6_reckon 116 = .ok (.invokevirtual 98, 3) := by decide +kernel
theorem dX6_reckon_119 : decode cX6_reckon 119 = .ok (.iinc 3 1, 3) := by decide +kernel
theorem dX6_reckon_122 : decode cX6_reckon 122 = .ok (.goto (-110), 3) := by decide +kernel
theorem dX6_reckon_125 : decode cX6_reckon 125 = .ok (.aload_n 0, 1) := by decide +kernel
theorem dX6_reckon_126 : decode cX6_reckon 126 = .ok (.invokevirtual 90, 3) := by decide +kernel
theorem dX6_reckon_129 : decode cX6_reckon 129 = .ok (.ireturn, 1) := by decide +kernel
theorem dX6_show_0 : decode cX6_show 0 = .ok (.aload_n 1, 1) := by decide +kernel
theorem dX6_show_1 : decode cX6_show 1 = .ok (.iload_n 3, 1) := by decide +kernel
theorem dX6_show_2 : decode cX6_show 2 = .ok (.invokevirtual 56, 3) := by decide +kernel
theorem dX6_show_5 : decode cX6_show 5 = .ok (.istore 6, 2) := by decide +kernel
theorem dX6_show_7 : decode cX6_show 7 = .ok (.aload_n 0, 1) := by decide +kernel
theorem dX6_show_8 : decode cX6_show 8 = .ok (.getfield 37, 3) := by decide +kernel
theorem dX6_show_11 : decode cX6_show 11 = .ok (.iconst 0, 1) := by decide +kernel
theorem dX6_show_12 : decode cX6_show 12 = .ok (.aload_n 1, 1) := by decide +kernel
theorem dX6_show_13 : decode cX6_show 13 = .ok (.getfield 62, 3) := by decide +kernel
theorem dX6_show_16 : decode cX6_show 16 = .ok (.iload_n 3, 1) := by decide +kernel
theorem dX6_show_17 : decode cX6_show 17 = .ok (.invokevirtual 66, 3) := by decide +kernel
theorem dX6_show_20 : decode cX6_show 20 = .ok (.iastore, 1) := by decide +kernel
theorem dX6_show_21 : decode cX6_show 21 = .ok (.aload_n 0, 1) := by decide +kernel
theorem dX6_show_22 : decode cX6_show 22 = .ok (.getfield 37, 3) := by decide +kernel
theorem dX6_show_25 : decode cX6_show 25 = .ok (.iconst 1, 1) := by decide +kernel
theorem dX6_show_26 : decode cX6_show 26 = .ok (.iload_n 3, 1) := by decide +kernel
theorem dX6_show_27 : decode cX6_show 27 = .ok (.iastore, 1) := by decide +kernel
theorem dX6_show_28 : decode cX6_show 28 = .ok (.aload_n 0, 1) := by decide +kernel
theorem dX6_show_29 : decode cX6_show 29 = .ok (.getfield 37, 3) := by decide +kernel
theorem dX6_show_32 : decode cX6_show 32 = .ok (.iconst 2, 1) := by decide +kernel
theorem dX6_show_33 : decode cX6_show 33 = .ok (.iload 6, 2) := by decide +kernel
theorem dX6_show_35 : decode cX6_show 35 = .ok (.iastore, 1) := by decide +kernel
theorem dX6_show_36 : decode cX6_show 36 = .ok (.aload_n 0, 1) := by decide +kernel
theorem dX6_show_37 : decode cX6_show 37 = .ok (.getfield 37, 3) := by decide +kernel
theorem dX6_show_40 : decode cX6_show 40 = .ok (.iconst 3, 1) := by decide +kernel
theorem dX6_show_41 : decode cX6_show 41 = .ok (.aload_n 1, 1) := by decide +kernel
theorem dX6_show_42 : decode cX6_show 42 = .ok (.getfield 62, 3) := by decide +kernel
theorem dX6_show_45 : decode cX6_show 45 = .ok (.getfield 71, 3) := by decide +kernel
theorem dX6_show_48 : decode cX6_show 48 = .ok (.iastore, 1) := by decide +kernel
theorem dX6_show_49 : decode cX6_show 49 = .ok (.aload_n 0, 1) := by decide +kernel
theorem dX6_show_50 : decode cX6_show 50 = .ok (.getfield 37, 3) := by decide +kernel
theorem dX6_show_53 : decode cX6_show 53 = .ok (.iconst 4, 1) := by decide +kernel
theorem dX6_show_54 : decode cX6_show 54 = .ok (.aload_n 1, 1) := by decide +kernel
theorem dX6_show_55 : decode cX6_show 55 = .ok (.aload_n 0, 1) := by decide +kernel
theorem dX6_show_56 : decode cX6_show 56 = .ok (.getfield 37, 3) := by decide +kernel
theorem dX6_show_59 : decode cX6_show 59 = .ok (.iconst 0, 1) := by decide +kernel
theorem dX6_show_60 : decode cX6_show 60 = .ok (.iaload, 1) := by decide +kernel
theorem dX6_show_61 : decode cX6_show 61 = .ok (.invokevirtual 74, 3) := by decide +kernel
theorem dX6_show_64 : decode cX6_show 64 = .ok (.iastore, 1) := by decide +kernel
theorem dX6_show_65 : decode cX6_show 65 = .ok (.aload_n 0, 1) := by decide +kernel
theorem dX6_show_66 : decode cX6_show 66 = .ok (.getfield 37, 3) := by decide +kernel
theorem dX6_show_69 : decode cX6_show 69 = .ok (.iconst 5, 1) := by decide +kernel
theorem dX6_show_70 : decode cX6_show 70 = .ok (.iload 4, 2) := by decide +kernel
theorem dX6_show_72 : decode cX6_show 72 = .ok (.iastore, 1) := by decide +kernel
theorem dX6_show_73 : decode cX6_show 73 = .ok (.aload_n 0, 1) := by decide +kernel
theorem dX6_show_74 : decode cX6_show 74 = .ok (.getfield 37, 3) := by decide +kernel
theorem dX6_show_77 : decode cX6_show 77 = .ok (.bipush 6, 2) := by decide +kernel
theorem dX6_show_79 : decode cX6_show 79 = .ok (.iload 5, 2) := by decide +kernel
theorem dX6_show_81 : decode cX6_show 81 = .ok (.iastore, 1) := by decide +kernel
theorem dX6_show_82 : decode cX6_show 82 = .ok (.aload_n 0, 1) := by decide +kernel
theorem dX6_show_83 : decode cX6_show 83 = .ok (.getfield 37, 3) := by decide +kernel
theorem dX6_show_86 : decode cX6_show 86 = .ok (.bipush 7, 2) := by decide +kernel
theorem dX6_show_88 : decode cX6_show 88 = .ok (.iload_n 2, 1) := by decide +kernel
theorem dX6_show_89 : decode cX6_show 89 = .ok (.iastore, 1) := by decide +kernel
theorem dX6_show_90 : decode cX6_show 90 = .ok (.aload_n 0, 1) := by decide +kernel
theorem dX6_show_91 : decode cX6_show 91 = .ok (.getfield 37, 3) := by decide +kernel
theorem dX6_show_94 : decode cX6_show 94 = .ok (.bipush 8, 2) := by decide +kernel
theorem dX6_show_96 : decode cX6_show 96 = .ok (.aload_n 1, 1) := by decide +kernel
theorem dX6_show_97 : decode cX6_show 97 = .ok (.iload 6, 2) := by decide +kernel
theorem dX6_show_99 : decode cX6_show 99 = .ok (.iconst 1, 1) := by decide +kernel
theorem dX6_show_100 : decode cX6_show 100 = .ok (.isub, 1) := by decide +kernel
theorem dX6_show_101 : decode cX6_show 101 = .ok (.invokevirtual 77, 3) := by decide +kernel
theorem dX6_show_104 : decode cX6_show 104 = .ok (.iastore, 1) := by decide +kernel
theorem dX6_show_105 : decode cX6_show 105 = .ok (.aload_n 0, 1) := by decide +kernel
theorem dX6_show_106 : decode cX6_show 106 = .ok (.getfield 37, 3) := by decide +kernel
theorem dX6_show_109 : decode cX6_show 109 = .ok (.bipush 9, 2) := by decide +kernel
theorem dX6_show_111 : decode cX6_show 111 = .ok (.aload_n 1, 1) := by decide +kernel
theorem dX6_show_112 : decode cX6_show 112 = .ok (.iload 6, 2) := by decide +kernel
theorem dX6_show_114 : decode cX6_show 114 = .ok (.iconst 1, 1) := by decide +kernel
theorem dX6_show_115 : decode cX6_show 115 = .ok (.iadd, 1) := by decide +kernel
theorem dX6_show_116 : decode cX6_show 116 = .ok (.invokevirtual 77, 3) := by decide +kernel
theorem dX6_show_119 : decode cX6_show 119 = .ok (.iastore, 1) := by decide +kernel
theorem dX6_show_120 : decode cX6_show 120 = .ok (.return_, 1) := by decide +kernel
theorem dX6_steps_0 : decode cX6_steps 0 = .ok (.aload_n 0, 1) := by decide +kernel
theorem dX6_steps_1 : decode cX6_steps 1 = .ok (.getfield 18, 3) := by decide +kernel
theorem dX6_steps_4 : decode cX6_steps 4 = .ok (.ireturn, 1) := by decide +kernel
theorem dX6_takeStep_0 : decode cX6_takeStep 0 = .ok (.iload_n 1, 1) := by decide +kernel
theorem dX6_takeStep_1 : decode cX6_takeStep 1 = .ok (.bipush 35, 2) := by decide +kernel
theorem dX6_takeStep_3 : decode cX6_takeStep 3 = .ok (.if_icmp .ne 11, 3) := by decide +kernel
theorem dX6_takeStep_6 : decode cX6_takeStep 6 = .ok (.aload_n 0, 1) := by decide +kernel
theorem dX6_takeStep_7 : decode cX6_takeStep 7 = .ok (.iload_n 2, 1) := by decide +kernel
theorem dX6_takeStep_8 : decode cX6_takeStep 8 = .ok (.invokevirtual 94, 3) := by decide +kernel
theorem dX6_takeStep_11 : decode cX6_takeStep 11 = .ok (.goto 107, 3) := by decide +kernel
theorem dX6_takeStep_14 : decode cX6_takeStep 14 = .ok (.iload_n 1, 1) := by decide +kernel
theorem dX6_takeStep_15 : decode cX6_takeStep 15 = .ok (.bipush 36, 2) := by decide +kernel
theorem dX6_takeStep_17 : decode cX6_takeStep 17 = .ok (.if_icmp .ne 33, 3) := by decide +kernel
theorem dX6_takeStep_20 : decode cX6_takeStep 20 = .ok (.aload_n 0, 1) := by decide +kernel
theorem dX6_takeStep_21 : decode cX6_takeStep 21 = .ok (.iload_n 2, 1) := by decide +kernel
theorem dX6_takeStep_22 : decode cX6_takeStep 22 = .ok (.ifCond .lt 21, 3) := by decide +kernel
theorem dX6_takeStep_25 : decode cX6_takeStep 25 = .ok (.iload_n 2, 1) := by decide +kernel
theorem dX6_takeStep_26 : decode cX6_takeStep 26 = .ok (.aload_n 0, 1) := by decide +kernel
theorem dX6_takeStep_27 : decode cX6_takeStep 27 = .ok (.getfield 37, 3) := by decide +kernel
theorem dX6_takeStep_30 : decode cX6_takeStep 30 = .ok (.arraylength, 1) := by decide +kernel
theorem dX6_takeStep_31 : decode cX6_takeStep 31 = .ok (.if_icmp .ge 12, 3) := by decide +kernel
theorem dX6_takeStep_34 : decode cX6_takeStep 34 = .ok (.aload_n 0, 1) := by decide +kernel
theorem dX6_takeStep_35 : decode cX6_takeStep 35 = .ok (.getfield 37, 3) := by decide +kernel
theorem dX6_takeStep_38 : decode cX6_takeStep 38 = .ok (.iload_n 2, 1) := by decide +kernel
theorem dX6_takeStep_39 : decode cX6_takeStep 39 = .ok (.iaload, 1) := by decide +kernel
theorem dX6_takeStep_40 : decode cX6_takeStep 40 = .ok (.goto 4, 3) := by decide +kernel
theorem dX6_takeStep_43 : decode cX6_takeStep 43 = .ok (.iconst 0, 1) := by decide +kernel
theorem dX6_takeStep_44 : decode cX6_takeStep 44 = .ok (.invokevirtual 94, 3) := by decide +kernel
theorem dX6_takeStep_47 : decode cX6_takeStep 47 = .ok (.goto 71, 3) := by decide +kernel
theorem dX6_takeStep_50 : decode cX6_takeStep 50 = .ok (.iload_n 1, 1) := by decide +kernel
theorem dX6_takeStep_51 : decode cX6_takeStep 51 = .ok (.bipush 33, 2) := by decide +kernel
theorem dX6_takeStep_53 : decode cX6_takeStep 53 = .ok (.if_icmp .ne 22, 3) := by decide +kernel
theorem dX6_takeStep_56 : decode cX6_takeStep 56 = .ok (.aload_n 0, 1) := by decide +kernel
theorem dX6_takeStep_57 : decode cX6_takeStep 57 = .ok (.aload_n 0, 1) := by decide +kernel
theorem dX6_takeStep_58 : decode cX6_takeStep 58 = .ok (.invokevirtual 90, 3) := by decide +kernel
theorem dX6_takeStep_61 : decode cX6_takeStep 61 = .ok (.ifCond .ne 7, 3) := by decide +kernel
theorem dX6_takeStep_64 : decode cX6_takeStep 64 = .ok (.iconst 1, 1) := by decide +kernel
theorem dX6_takeStep_65 : decode cX6_takeStep 65 = .ok (.goto 4, 3) := by decide +kernel
theorem dX6_takeStep_68 : decode cX6_takeStep 68 = .ok (.iconst 0, 1) := by decide +kernel
theorem dX6_takeStep_69 : decode cX6_takeStep 69 = .ok (.invokevirtual 94, 3) := by decide +kernel
theorem dX6_takeStep_72 : decode cX6_takeStep 72 = .ok (.goto 46, 3) := by decide +kernel
theorem dX6_takeStep_75 : decode cX6_takeStep 75 = .ok (.aload_n 0, 1) := by decide +kernel
theorem dX6_takeStep_76 : decode cX6_takeStep 76 = .ok (.invokevirtual 90, 3) := by decide +kernel
theorem dX6_takeStep_79 : decode cX6_takeStep 79 = .ok (.istore_n 3, 1) := by decide +kernel
theorem dX6_takeStep_80 : decode cX6_takeStep 80 = .ok (.aload_n 0, 1) := by decide +kernel
theorem dX6_takeStep_81 : decode cX6_takeStep 81 = .ok (.iload_n 3, 1) := by decide +kernel
theorem dX6_takeStep_82 : decode cX6_takeStep 82 = .ok (.ifCond .ne 19, 3) := by decide +kernel
theorem dX6_takeStep_85 : decode cX6_takeStep 85 = .ok (.iload_n 1, 1) := by decide +kernel
theorem dX6_takeStep_86 : decode cX6_takeStep 86 = .ok (.bipush 47, 2) := by decide +kernel
theorem dX6_takeStep_88 : decode cX6_takeStep 88 = .ok (.if_icmp .eq 9, 3) := by decide +kernel
theorem dX6_takeStep_91 : decode cX6_takeStep 91 = .ok (.iload_n 1, 1) := by decide +kernel
theorem dX6_takeStep_92 : decode cX6_takeStep 92 = .ok (.bipush 37, 2) := by decide +kernel
theorem dX6_takeStep_94 : decode cX6_takeStep 94 = .ok (.if_icmp .ne 7, 3) := by decide +kernel
theorem dX6_takeStep_97 : decode cX6_takeStep 97 = .ok (.iconst 1, 1) := by decide +kernel
theorem dX6_takeStep_98 : decode cX6_takeStep 98 = .ok (.goto 4, 3) := by decide +kernel
theorem dX6_takeStep_101 : decode cX6_takeStep 101 = .ok (.iconst 0, 1) := by decide +kernel
theorem dX6_takeStep_102 : decode cX6_takeStep 102 = .ok (.putfield 46, 3) := by decide +kernel
theorem dX6_takeStep_105 : decode cX6_takeStep 105 = .ok (.aload_n 0, 1) := by decide +kernel
theorem dX6_takeStep_106 : decode cX6_takeStep 106 = .ok (.iload_n 1, 1) := by decide +kernel
theorem dX6_takeStep_107 : decode cX6_takeStep 107 = .ok (.aload_n 0, 1) := by decide +kernel
theorem dX6_takeStep_108 : decode cX6_takeStep 108 = .ok (.invokevirtual 90, 3) := by decide +kernel
theorem dX6_takeStep_111 : decode cX6_takeStep 111 = .ok (.iload_n 3, 1) := by decide +kernel
theorem dX6_takeStep_112 : decode cX6_takeStep 112 = .ok (.invokestatic 102, 3) := by decide +kernel
theorem dX6_takeStep_115 : decode cX6_takeStep 115 = .ok (.invokevirtual 94, 3) := by decide +kernel
theorem dX6_takeStep_118 : decode cX6_takeStep 118 = .ok (.return_, 1) := by decide +kernel
theorem dX7_digitAhead_0 : decode cX7_digitAhead 0 = .ok (.aload_n 0, 1) := by decide +kernel
theorem dX7_digitAhead_1 : decode cX7_digitAhead 1 = .ok (.getfield 26, 3) := by decide +kernel
theorem dX7_digitAhead_4 : decode cX7_digitAhead 4 = .ok (.aload_n 0, 1) := by decide +kernel
theorem dX7_digitAhead_5 : decode cX7_digitAhead 5 = .ok (.getfield 22, 3) := by decide +kernel
theorem dX7_digitAhead_8 : decode cX7_digitAhead 8 = .ok (.if_icmp .ge 35, 3) := by decide +kernel
theorem dX7_digitAhead_11 : decode cX7_digitAhead 11 = .ok (.aload_n 0, 1) := by decide +kernel
theorem dX7_digitAhead_12 : decode cX7_digitAhead 12 = .ok (.getfield 9, 3) := by decide +kernel
theorem dX7_digitAhead_15 : decode cX7_digitAhead 15 = .ok (.aload_n 0, 1) := by decide +kernel
theorem dX7_digitAhead_16 : decode cX7_digitAhead 16 = .ok (.getfield 26, 3) := by decide +kernel
theorem dX7_digitAhead_19 : decode cX7_digitAhead 19 = .ok (.iaload, 1) := by decide +kernel
theorem dX7_digitAhead_20 : decode cX7_digitAhead 20 = .ok (.bipush 48, 2) := by decide +kernel
theorem dX7_digitAhead_22 : decode cX7_digitAhead 22 = .ok (.if_icmp .lt 21, 3) := by decide +kernel
theorem dX7_digitAhead_25 : decode cX7_digitAhead 25 = .ok (.aload_n 0, 1) := by decide +kernel
theorem dX7_digitAhead_26 : decode cX7_digitAhead 26 = .ok (.getfield 9, 3) := by decide +kernel
theorem dX7_digitAhead_29 : decode cX7_digitAhead 29 = .ok (.aload_n 0, 1) := by decide +kernel
theorem dX7_digitAhead_30 : decode cX7_digitAhead 30 = .ok (.getfield 26, 3) := by decide +kernel
theorem dX7_digitAhead_33 : decode cX7_digitAhead 33 = .ok (.iaload, 1) := by decide +kernel
theorem dX7_digitAhead_34 : decode cX7_digitAhead 34 = .ok (.bipush 57, 2) := by decide +kernel
theorem dX7_digitAhead_36 : decode cX7_digitAhead 36 = .ok (.if_icmp .gt 7, 3) := by decide +kernel
theorem dX7_digitAhead_39 : decode cX7_digitAhead 39 = .ok (.iconst 1, 1) := by decide +kernel
theorem dX7_digitAhead_40 : decode cX7_digitAhead 40 = .ok (.goto 4, 3) := by decide +kernel
theorem dX7_digitAhead_43 : decode cX7_digitAhead 43 = .ok (.iconst 0, 1) := by decide +kernel
theorem dX7_digitAhead_44 : decode cX7_digitAhead 44 = .ok (.ireturn, 1) := by decide +kernel
theorem dX7_exchange_0 : decode cX7_exchange 0 = .ok (.aload_n 0, 1) := by decide +kernel
theorem dX7_exchange_1 : decode cX7_exchange 1 = .ok (.getfield 18, 3) := by decide +kernel
theorem dX7_exchange_4 : decode cX7_exchange 4 = .ok (.astore_n 2, 1) := by decide +kernel
theorem dX7_exchange_5 : decode cX7_exchange 5 = .ok (.aload_n 0, 1) := by decide +kernel
theorem dX7_exchange_6 : decode cX7_exchange 6 = .ok (.aload_n 1, 1) := by decide +kernel
theorem dX7_exchange_7 : decode cX7_exchange 7 = .ok (.putfield 18, 3) := by decide +kernel
theorem dX7_exchange_10 : decode cX7_exchange 10 = .ok (.aload_n 2, 1) := by decide +kernel
theorem dX7_exchange_11 : decode cX7_exchange 11 = .ok (.areturn, 1) := by decide +kernel
theorem dX7_fail_0 : decode cX7_fail 0 = .ok (.aload_n 0, 1) := by decide +kernel
theorem dX7_fail_1 : decode cX7_fail 1 = .ok (.sipush (-1000), 3) := by decide +kernel
theorem dX7_fail_4 : decode cX7_fail 4 = .ok (.iload_n 1, 1) := by decide +kernel
theorem dX7_fail_5 : decode cX7_fail 5 = .ok (.imul, 1) := by decide +kernel
theorem dX7_fail_6 : decode cX7_fail 6 = .ok (.aload_n 0, 1) := by decide +kernel
theorem dX7_fail_7 : decode cX7_fail 7 = .ok (.getfield 26, 3) := by decide +kernel
theorem dX7_fail_10 : decode cX7_fail 10 = .ok (.isub, 1) := by decide +kernel
theorem dX7_fail_11 : decode cX7_fail 11 = .ok (.putfield 29, 3) := by decide +kernel
theorem dX7_fail_14 : decode cX7_fail 14 = .ok (.iconst 0, 1) := by decide +kernel
theorem dX7_fail_15 : decode cX7_fail 15 = .ok (.ireturn, 1) := by decide +kernel
theorem dX7_init_0 : decode cX7_init 0 = .ok (.aload_n 0, 1) := by decide +kernel
theorem dX7_init_1 : decode cX7_init 1 = .ok (.invokespecial 3, 3) := by decide +kernel
theorem dX7_init_4 : decode cX7_init 4 = .ok (.aload_n 0, 1) := by decide +kernel
theorem dX7_init_5 : decode cX7_init 5 = .ok (.sipush 160, 3) := by decide +kernel
theorem dX7_init_8 : decode cX7_init 8 = .ok (.newarray .int, 2) := by decide +kernel
theorem dX7_init_10 : decode cX7_init 10 = .ok (.putfield 9, 3) := by decide +kernel
theorem dX7_init_13 : decode cX7_init 13 = .ok (.aload_n 0, 1) := by decide +kernel
theorem dX7_init_14 : decode cX7_init 14 = .ok (.new 15, 3) := by decide +kernel
theorem dX7_init_17 : decode cX7_init 17 = .ok (.dup, 1) := by decide +kernel
theorem dX7_init_18 : decode cX7_init 18 = .ok (.invokespecial 17, 3) := by decide +kernel
theorem dX7_init_21 : decode cX7_init 21 = .ok (.putfield 18, 3) := by decide +kernel
theorem dX7_init_24 : decode cX7_init 24 = .ok (.aload_n 0, 1) := by decide +kernel
theorem dX7_init_25 : decode cX7_init 25 = .ok (.iconst 0, 1) := by decide +kernel
theorem dX7_init_26 : decode cX7_init 26 = .ok (.putfield 22, 3) := by decide +kernel
theorem dX7_init_29 : decode cX7_init 29 = .ok (.aload_n 0, 1) := by decide +kernel
theorem dX7_init_30 : decode cX7_init 30 = .ok (.iconst 0, 1) := by decide +kernel
theorem dX7_init_31 : decode cX7_init 31 = .ok (.putfield 26, 3) := by decide +kernel
theorem dX7_init_34 : decode cX7_init 34 = .ok (.aload_n 0, 1) := by decide +kernel
theorem dX7_init_35 : decode cX7_init 35 = .ok (.iconst 0, 1) := by decide +kernel
theorem dX7_init_36 : decode cX7_init 36 = .ok (.putfield 29, 3) := by decide +kernel
theorem dX7_init_39 : decode cX7_init 39 = .ok (.return_, 1) := by decide +kernel
theorem dX7_open_0 : decode cX7_open 0 = .ok (.iload_n 1, 1) := by decide +kernel
theorem dX7_open_1 : decode cX7_open 1 = .ok (.bipush 6, 2) := by decide +kernel
theorem dX7_open_3 : decode cX7_open 3 = .ok (.if_icmp .lt 9, 3) := by decide +kernel
theorem dX7_open_6 : decode cX7_open 6 = .ok (.aload_n 0, 1) := by decide +kernel
theorem dX7_open_7 : decode cX7_open 7 = .ok (.iconst 5, 1) := by decide +kernel
theorem dX7_open_8 : decode cX7_open 8 = .ok (.invokevirtual 64, 3) := by decide +kernel
theorem dX7_open_11 : decode cX7_open 11 = .ok (.ireturn, 1) := by decide +kernel
theorem dX7_open_12 : decode cX7_open 12 = .ok (.aload_n 0, 1) := by decide +kernel
theorem dX7_open_13 : decode cX7_open 13 = .ok (.dup, 1) := by decide +kernel
theorem dX7_open_14 : decode cX7_open 14 = .ok (.getfield 26, 3) := by decide +kernel
theorem dX7_open_17 : decode cX7_open 17 = .ok (.iconst 1, 1) := by decide +kernel
theorem dX7_open_18 : decode cX7_open 18 = .ok (.iadd, 1) := by decide +kernel
theorem dX7_open_19 : decode cX7_open 19 = .ok (.putfield 26, 3) := by decide +kernel
theorem dX7_open_22 : decode cX7_open 22 = .ok (.iconst 1, 1) := by decide +kernel
theorem dX7_open_23 : decode cX7_open 23 = .ok (.ireturn, 1) := by decide +kernel
theorem dX7_pass_0 : decode cX7_pass 0 = .ok (.aload_n 0, 1) := by decide +kernel
theorem dX7_pass_1 : decode cX7_pass 1 = .ok (.invokevirtual 60, 3) := by decide +kernel
theorem dX7_pass_4 : decode cX7_pass 4 = .ok (.iload_n 1, 1) := by decide +kernel
theorem dX7_pass_5 : decode cX7_pass 5 = .ok (.if_icmp .eq 9, 3) := by decide +kernel
theorem dX7_pass_8 : decode cX7_pass 8 = .ok (.aload_n 0, 1) := by decide +kernel
theorem dX7_pass_9 : decode cX7_pass 9 = .ok (.iconst 1, 1) := by decide +kernel
theorem dX7_pass_10 : decode cX7_pass 10 = .ok (.invokevirtual 64, 3) := by decide +kernel
theorem dX7_pass_13 : decode cX7_pass 13 = .ok (.ireturn, 1) := by decide +kernel
theorem dX7_pass_14 : decode cX7_pass 14 = .ok (.aload_n 0, 1) := by decide +kernel
theorem dX7_pass_15 : decode cX7_pass 15 = .ok (.dup, 1) := by decide +kernel
theorem dX7_pass_16 : decode cX7_pass 16 = .ok (.getfield 26, 3) := by decide +kernel
theorem dX7_pass_19 : decode cX7_pass 19 = .ok (.iconst 1, 1) := by decide +kernel
theorem dX7_pass_20 : decode cX7_pass 20 = .ok (.iadd, 1) := by decide +kernel
theorem dX7_pass_21 : decode cX7_pass 21 = .ok (.putfield 26, 3) := by decide +kernel
theorem dX7_pass_24 : decode cX7_pass 24 = .ok (.iconst 1, 1) := by decide +kernel
theorem dX7_pass_25 : decode cX7_pass 25 = .ok (.ireturn, 1) := by decide +kernel
theorem dX7_peek_0 : decode cX7_peek 0 = .ok (.aload_n 0, 1) := by decide +kernel
theorem dX7_peek_1 : decode cX7_peek 1 = .ok (.getfield 26, 3) := by decide +kernel
theorem dX7_peek_4 : decode cX7_peek 4 = .ok (.aload_n 0, 1) := by decide +kernel
theorem dX7_peek_5 : decode cX7_peek 5 = .ok (.getfield 22, 3) := by decide +kernel
theorem dX7_peek_8 : decode cX7_peek 8 = .ok (.if_icmp .ge 15, 3) := by decide +kernel
theorem dX7_peek_11 : decode cX7_peek 11 = .ok (.aload_n 0, 1) := by decide +kernel
theorem dX7_peek_12 : decode cX7_peek 12 = .ok (.getfield 9, 3) := by decide +kernel
theorem dX7_peek_15 : decode cX7_peek 15 = .ok (.aload_n 0, 1) := by decide +kernel
theorem dX7_peek_16 : decode cX7_peek 16 = .ok (.getfield 26, 3) := by decide +kernel
theorem dX7_peek_19 : decode cX7_peek 19 = .ok (.iaload, 1) := by decide +kernel
theorem dX7_peek_20 : decode cX7_peek 20 = .ok (.goto 4, 3) := by decide +kernel
theorem dX7_peek_23 : decode cX7_peek 23 = .ok (.iconst (-1), 1) := by decide +kernel
theorem dX7_peek_24 : decode cX7_peek 24 = .ok (.ireturn, 1) := by decide +kernel
theorem dX7_read_0 : decode cX7_read 0 = .ok (.aload_n 0, 1) := by decide +kernel
theorem dX7_read_1 : decode cX7_read 1 = .ok (.iconst 0, 1) := by decide +kernel
theorem dX7_read_2 : decode cX7_read 2 = .ok (.iload_n 2, 1) := by decide +kernel
theorem dX7_read_3 : decode cX7_read 3 = .ok (.aload_n 1, 1) := by decide +kernel
theorem dX7_read_4 : decode cX7_read 4 = .ok (.arraylength, 1) := by decide +kernel
theorem dX7_read_5 : decode cX7_read 5 = .ok (.sipush 160, 3) := by decide +kernel
theorem dX7_read_8 : decode cX7_read 8 = .ok (.invokestatic 32, 3) := by decide +kernel
theorem dX7_read_11 : decode cX7_read 11 = .ok (.invokestatic 32, 3) := by decide +kernel
theorem dX7_read_14 : decode cX7_read 14 = .ok (.invokestatic 38, 3) := by decide +kernel
theorem dX7_read_17 : decode cX7_read 17 = .ok (.putfield 22, 3) := by decide +kernel
theorem dX7_read_20 : decode cX7_read 20 = .ok (.aload_n 1, 1) := by decide +kernel
theorem dX7_read_21 : decode cX7_read 21 = .ok (.iconst 0, 1) := by decide +kernel
theorem dX7_read_22 : decode cX7_read 22 = .ok (.aload_n 0, 1) := by decide +kernel
theorem dX7_read_23 : decode cX7_read 23 = .ok (.getfield 9, 3) := by decide +kernel
theorem dX7_read_26 : decode cX7_read 26 = .ok (.iconst 0, 1) := by decide +kernel
theorem dX7_read_27 : decode cX7_read 27 = .ok (.aload_n 0, 1) := by decide +kernel
theorem dX7_read_28 : decode cX7_read 28 = .ok (.getfield 22, 3) := by decide +kernel
theorem dX7_read_31 : decode cX7_read 31 = .ok (.invokestatic 41, 3) := by decide +kernel
theorem dX7_read_34 : decode cX7_read 34 = .ok (.aload_n 0, 1) := by decide +kernel
theorem dX7_read_35 : decode cX7_read 35 = .ok (.getfield 18, 3) := by decide +kernel
theorem dX7_read_38 : decode cX7_read 38 = .ok (.invokevirtual 47, 3) := by decide +kernel
theorem dX7_read_41 : decode cX7_read 41 = .ok (.aload_n 0, 1) := by decide +kernel
theorem dX7_read_42 : decode cX7_read 42 = .ok (.iconst 0, 1) := by decide +kernel
theorem dX7_read_43 : decode cX7_read 43 = .ok (.putfield 26, 3) := by decide +kernel
theorem dX7_read_46 : decode cX7_read 46 = .ok (.aload_n 0, 1) := by decide +kernel
theorem dX7_read_47 : decode cX7_read 47 = .ok (.iconst 0, 1) := by decide +kernel
theorem dX7_read_48 : decode cX7_read 48 = .ok (.putfield 29, 3) := by decide +kernel
theorem dX7_read_51 : decode cX7_read 51 = .ok (.iconst 1, 1) := by decide +kernel
theorem dX7_read_52 : decode cX7_read 52 = .ok (.istore_n 3, 1) := by decide +kernel
theorem dX7_read_53 : decode cX7_read 53 = .ok (.iconst 0, 1) := by decide +kernel
theorem dX7_read_54 : decode cX7_read 54 = .ok (.istore 4, 2) := by decide +kernel
theorem dX7_read_56 : decode cX7_read 56 = .ok (.iload 4, 2) := by decide +kernel
theorem dX7_read_58 : decode cX7_read 58 = .ok (.bipush 12, 2) := by decide +kernel
theorem dX7_read_60 : decode cX7_read 60 = .ok (.if_icmp .gt 62, 3) := by decide +kernel
theorem dX7_read_63 : decode cX7_read 63 = .ok (.iload_n 3, 1) := by decide +kernel
theorem dX7_read_64 : decode cX7_read 64 = .ok (.ifCond .eq 58, 3) := by decide +kernel
theorem dX7_read_67 : decode cX7_read 67 = .ok (.aload_n 0, 1) := by decide +kernel
theorem dX7_read_68 : decode cX7_read 68 = .ok (.iload 4, 2) := by decide +kernel
theorem dX7_read_70 : decode cX7_read 70 = .ok (.invokevirtual 50, 3) := by decide +kernel
theorem dX7_read_73 : decode cX7_read 73 = .ok (.ifCond .ne 8, 3) := by decide +kernel
theorem dX7_read_76 : decode cX7_read 76 = .ok (.aload_n 0, 1) := by decide +kernel
theorem dX7_read_77 : decode cX7_read 77 = .ok (.getfield 29, 3) := by decide +kernel
theorem dX7_read_80 : decode cX7_read 80 = .ok (.ireturn, 1) := by decide +kernel
theorem dX7_read_81 : decode cX7_read 81 = .ok (.aload_n 0, 1) := by decide +kernel
theorem dX7_read_82 : decode cX7_read 82 = .ok (.getfield 26, 3) := by decide +kernel
theorem dX7_read_85 : decode cX7_read 85 = .ok (.aload_n 0, 1) := by decide +kernel
theorem dX7_read_86 : decode cX7_read 86 = .ok (.getfield 22, 3) := by decide +kernel
theorem dX7_read_89 : decode cX7_read 89 = .ok (.if_icmp .ge 7, 3) := by decide +kernel
theorem dX7_read_92 : decode cX7_read 92 = .ok (.iconst 1, 1) := by decide +kernel
theorem dX7_read_93 : decode cX7_read 93 = .ok (.goto 4, 3) := by decide +kernel
theorem dX7_read_96 : decode cX7_read 96 = .ok (.iconst 0, 1) := by decide +kernel
theorem dX7_read_97 : decode cX7_read 97 = .ok (.istore_n 3, 1) := by decide +kernel
theorem dX7_read_98 : decode cX7_read 98 = .ok (.iload_n 3, 1) := by decide +kernel
theorem dX7_read_99 : decode cX7_read 99 = .ok (.ifCond .eq 17, 3) := by decide +kernel
theorem dX7_read_102 : decode cX7_read 102 = .ok (.aload_n 0, 1) := by decide +kernel
theorem dX7_read_103 : decode cX7_read 103 = .ok (.bipush 59, 2) := by decide +kernel
theorem dX7_read_105 : decode cX7_read 105 = .ok (.invokevirtual 54, 3) := by decide +kernel
theorem dX7_read_108 : decode cX7_read 108 = .ok (.ifCond .ne 8, 3) := by decide +kernel
theorem dX7_read_111 : decode cX7_read 111 = .ok (.aload_n 0, 1) := by decide +kernel
theorem dX7_read_112 : decode cX7_read 112 = .ok (.getfield 29, 3) := by decide +kernel
theorem dX7_read_115 : decode cX7_read 115 = .ok (.ireturn, 1) := by decide +kernel
theorem dX7_read_116 : decode cX7_read 116 = .ok (.iinc 4 1, 3) := by decide +kernel
theorem dX7_read_119 : decode cX7_read 119 = .ok (.goto (-63), 3) := by decide +kernel
theorem dX7_read_122 : decode cX7_read 122 = .ok (.aload_n 0, 1) := by decide +kernel
theorem dX7_read_123 : decode cX7_read 123 = .ok (.getfield 18, 3) := by decide +kernel
theorem dX7_read_126 : decode cX7_read 126 = .ok (.getfield 57, 3) := by decide +kernel
theorem dX7_read_129 : decode cX7_read 129 = .ok (.ireturn, 1) := by decide +kernel
theorem dX7_readClause_0 : decode cX7_readClause 0 = .ok (.aload_n 0, 1) := by decide +kernel
theorem dX7_readClause_1 : decode cX7_readClause 1 = .ok (.invokevirtual 60, 3) := by decide +kernel
theorem dX7_readClause_4 : decode cX7_readClause 4 = .ok (.istore_n 2, 1) := by decide +kernel
theorem dX7_readClause_5 : decode cX7_readClause 5 = .ok (.iload_n 2, 1) := by decide +kernel
theorem dX7_readClause_6 : decode cX7_readClause 6 = .ok (.bipush 110, 2) := by decide +kernel
theorem dX7_readClause_8 : decode cX7_readClause 8 = .ok (.if_icmp .eq 15, 3) := by decide +kernel
theorem dX7_readClause_11 : decode cX7_readClause 11 = .ok (.iload_n 2, 1) := by decide +kernel
theorem dX7_readClause_12 : decode cX7_readClause 12 = .ok (.bipush 112, 2) := by decide +kernel
theorem dX7_readClause_14 : decode cX7_readClause 14 = .ok (.if_icmp .eq 9, 3) := by decide +kernel
theorem dX7_readClause_17 : decode cX7_readClause 17 = .ok (.aload_n 0, 1) := by decide +kernel
theorem dX7_readClause_18 : decode cX7_readClause 18 = .ok (.iconst 1, 1) := by decide +kernel
theorem dX7_readClause_19 : decode cX7_readClause 19 = .ok (.invokevirtual 64, 3) := by decide +kernel
theorem dX7_readClause_22 : decode cX7_readClause 22 = .ok (.ireturn, 1) := by decide +kernel
theorem dX7_readClause_23 : decode cX7_readClause 23 = .ok (.iload_n 1, 1) := by decide +kernel
theorem dX7_readClause_24 : decode cX7_readClause 24 = .ok (.bipush 12, 2) := by decide +kernel
theorem dX7_readClause_26 : decode cX7_readClause 26 = .ok (.if_icmp .lt 9, 3) := by decide +kernel
theorem dX7_readClause_29 : decode cX7_readClause 29 = .ok (.aload_n 0, 1) := by decide +kernel
theorem dX7_readClause_30 : decode cX7_readClause 30 = .ok (.iconst 4, 1) := by decide +kernel
theorem dX7_readClause_31 : decode cX7_readClause 31 = .ok (.invokevirtual 64, 3) := by decide +kernel
theorem dX7_readClause_34 : decode cX7_readClause 34 = .ok (.ireturn, 1) := by decide +kernel
theorem dX7_readClause_35 : decode cX7_readClause 35 = .ok (.aload_n 0, 1) := by decide +kernel
theorem dX7_readClause_36 : decode cX7_readClause 36 = .ok (.dup, 1) := by decide +kernel
theorem dX7_readClause_37 : decode cX7_readClause 37 = .ok (.getfield 26, 3) := by decide +kernel
theorem dX7_readClause_40 : decode cX7_readClause 40 = .ok (.iconst 1, 1) := by decide +kernel
theorem dX7_readClause_41 : decode cX7_readClause 41 = .ok (.iadd, 1) := by decide +kernel
theorem dX7_readClause_42 : decode cX7_readClause 42 = .ok (.putfield 26, 3) := by decide +kernel
theorem dX7_readClause_45 : decode cX7_readClause 45 = .ok (.aload_n 0, 1) := by decide +kernel
theorem dX7_readClause_46 : decode cX7_readClause 46 = .ok (.getfield 18, 3) := by decide +kernel
theorem dX7_readClause_49 : decode cX7_readClause 49 = .ok (.iload_n 2, 1) := by decide +kernel
theorem dX7_readClause_50 : decode cX7_readClause 50 = .ok (.invokevirtual 67, 3) := by decide +kernel
theorem dX7_readClause_53 : decode cX7_readClause 53 = .ok (.iload_n 2, 1) := by decide +kernel
theorem dX7_readClause_54 : decode cX7_readClause 54 = .ok (.bipush 112, 2) := by decide +kernel
theorem dX7_readClause_56 : decode cX7_readClause 56 = .ok (.if_icmp .ne 13, 3) := by decide +kernel
theorem dX7_readClause_59 : decode cX7_readClause 59 = .ok (.aload_n 0, 1) := by decide +kernel
theorem dX7_readClause_60 : decode cX7_readClause 60 = .ok (.iconst 0, 1) := by decide +kernel
theorem dX7_readClause_61 : decode cX7_readClause 61 = .ok (.invokevirtual 71, 3) := by decide +kernel
theorem dX7_readClause_64 : decode cX7_readClause 64 = .ok (.ifCond .ne 5, 3) := by decide +kernel
theorem dX7_readClause_67 : decode cX7_readClause 67 = .ok (.iconst 0, 1) := by decide +kernel
theorem dX7_readClause_68 : decode cX7_readClause 68 = .ok (.ireturn, 1) := by decide +kernel
theorem dX7_readClause_69 : decode cX7_readClause 69 = .ok (.aload_n 0, 1) := by decide +kernel
theorem dX7_readClause_70 : decode cX7_readClause 70 = .ok (.getfield 18, 3) := by decide +kernel
theorem dX7_readClause_73 : decode cX7_readClause 73 = .ok (.invokevirtual 74, 3) := by decide +kernel
theorem dX7_readClause_76 : decode cX7_readClause 76 = .ok (.aload_n 0, 1) := by decide +kernel
theorem dX7_readClause_77 : decode cX7_readClause 77 = .ok (.bipush 40, 2) := by decide +kernel
theorem dX7_readClause_79 : decode cX7_readClause 79 = .ok (.invokevirtual 54, 3) := by decide +kernel
theorem dX7_readClause_82 : decode cX7_readClause 82 = .ok (.ifCond .eq 20, 3) := by decide +kernel
theorem dX7_readClause_85 : decode cX7_readClause 85 = .ok (.aload_n 0, 1) := by decide +kernel
theorem dX7_readClause_86 : decode cX7_readClause 86 = .ok (.iconst 1, 1) := by decide +kernel
theorem dX7_readClause_87 : decode cX7_readClause 87 = .ok (.invokevirtual 77, 3) := by decide +kernel
theorem dX7_readClause_90 : decode cX7_readClause 90 = .ok (.ifCond .eq 12, 3) := by decide +kernel
theorem dX7_readClause_93 : decode cX7_readClause 93 = .ok (.aload_n 0, 1) := by decide +kernel
theorem dX7_readClause_94 : decode cX7_readClause 94 = .ok (.bipush 41, 2) := by decide +kernel
theorem dX7_readClause_96 : decode cX7_readClause 96 = .ok (.invokevirtual 54, 3) := by decide +kernel
theorem dX7_readClause_99 : decode cX7_readClause 99 = .ok (.ifCond .ne 5, 3) := by decide +kernel
theorem dX7_readClause_102 : decode cX7_readClause 102 = .ok (.iconst 0, 1) := by decide +kernel
theorem dX7_readClause_103 : decode cX7_readClause 103 = .ok (.ireturn, 1) := by decide +kernel
theorem dX7_readClause_104 : decode cX7_readClause 104 = .ok (.aload_n 0, 1) := by decide +kernel
theorem dX7_readClause_105 : decode cX7_readClause 105 = .ok (.getfield 18, 3) := by decide +kernel
theorem dX7_readClause_108 : decode cX7_readClause 108 = .ok (.invokevirtual 80, 3) := by decide +kernel
theorem dX7_readClause_111 : decode cX7_readClause 111 = .ok (.iconst 1, 1) := by decide +kernel
theorem dX7_readClause_112 : decode cX7_readClause 112 = .ok (.ireturn, 1) := by decide +kernel
theorem dX7_readCondition_0 : decode cX7_readCondition 0 = .ok (.aload_n 0, 1) := by decide +kernel
theorem dX7_readCondition_1 : decode cX7_readCondition 1 = .ok (.getfield 18, 3) := by decide +kernel
theorem dX7_readCondition_4 : decode cX7_readCondition 4 = .ok (.invokevirtual 83, 3) := by decide +kernel
theorem dX7_readCondition_7 : decode cX7_readCondition 7 = .ok (.istore_n 2, 1) := by decide +kernel
theorem dX7_readCondition_8 : decode cX7_readCondition 8 = .ok (.iconst 0, 1) := by decide +kernel
theorem dX7_readCondition_9 : decode cX7_readCondition 9 = .ok (.istore_n 3, 1) := by decide +kernel
theorem dX7_readCondition_10 : decode cX7_readCondition 10 = .ok (.iload_n 3, 1) := by decide +kernel
theorem dX7_readCondition_11 : decode cX7_readCondition 11 = .ok (.sipush 160, 3) := by decide +kernel
theorem dX7_readCondition_14 : decode cX7_readCondition 14 = .ok (.if_icmp .ge 51, 3) := by decide +kernel
theorem dX7_readCondition_17 : decode cX7_readCondition 17 = .ok (.aload_n 0, 1) := by decide +kernel
theorem dX7_readCondition_18 : decode cX7_readCondition 18 = .ok (.iload_n 1, 1) := by decide +kernel
theorem dX7_readCondition_19 : decode cX7_readCondition 19 = .ok (.invokevirtual 86, 3) := by decide +kernel
theorem dX7_readCondition_22 : decode cX7_readCondition 22 = .ok (.ifCond .ne 5, 3) := by decide +kernel
theorem dX7_readCondition_25 : decode cX7_readCondition 25 = .ok (.iconst 0, 1) := by decide +kernel
theorem dX7_readCondition_26 : decode cX7_readCondition 26 = .ok (.ireturn, 1) := by decide +kernel
theorem dX7_readCondition_27 : decode cX7_readCondition 27 = .ok (.aload_n 0, 1) := by decide +kernel
theorem dX7_readCondition_28 : decode cX7_readCondition 28 = .ok (.invokevirtual 60, 3) := by decide +kernel
theorem dX7_readCondition_31 : decode cX7_readCondition 31 = .ok (.bipush 124, 2) := by decide +kernel
theorem dX7_readCondition_33 : decode cX7_readCondition 33 = .ok (.if_icmp .eq 6, 3) := by decide +kernel
theorem dX7_readCondition_36 : decode cX7_readCondition 36 = .ok (.goto 29, 3) := by decide +kernel
theorem dX7_readCondition_39 : decode cX7_readCondition 39 = .ok (.aload_n 0, 1) := by decide +kernel
theorem dX7_readCondition_40 : decode cX7_readCondition 40 = .ok (.getfield 18, 3) := by decide +kernel
theorem dX7_readCondition_43 : decode cX7_readCondition 43 = .ok (.bipush 124, 2) := by decide +kernel
theorem dX7_readCondition_45 : decode cX7_readCondition 45 = .ok (.iconst (-1), 1) := by decide +kernel
theorem dX7_readCondition_46 : decode cX7_readCondition 46 = .ok (.invokevirtual 89, 3) := by decide +kernel
theorem dX7_readCondition_49 : decode cX7_readCondition 49 = .ok (.aload_n 0, 1) := by decide +kernel
theorem dX7_readCondition_50 : decode cX7_readCondition 50 = .ok (.dup, 1) := by decide +kernel
theorem dX7_readCondition_51 : decode cX7_readCondition 51 = .ok (.getfield 26, 3) := by decide +kernel
theorem dX7_readCondition_54 : decode cX7_readCondition 54 = .ok (.iconst 1, 1) := by decide +kernel
theorem dX7_readCondition_55 : decode cX7_readCondition 55 = .ok (.iadd, 1) := by decide +kernel
theorem dX7_readCondition_56 : decode cX7_readCondition 56 = .ok (.putfield 26, 3) := by decide +kernel
theorem dX7_readCondition_59 : decode cX7_readCondition 59 = .ok (.iinc 3 1, 3) := by decide +kernel
theorem dX7_readCondition_62 : decode cX7_readCondition 62 = .ok (.goto (-52), 3) := by decide +kernel
theorem dX7_readCondition_65 : decode cX7_readCondition 65 = .ok (.aload_n 0, 1) := by decide +kernel
theorem dX7_readCondition_66 : decode cX7_readCondition 66 = .ok (.getfield 18, 3) := by decide +kernel
theorem dX7_readCondition_69 : decode cX7_readCondition 69 = .ok (.bipush 124, 2) := by decide +kernel
theorem dX7_readCondition_71 : decode cX7_readCondition 71 = .ok (.iload_n 2, 1) := by decide +kernel
theorem dX7_readCondition_72 : decode cX7_readCondition 72 = .ok (.invokevirtual 93, 3) := by decide +kernel
theorem dX7_readCondition_75 : decode cX7_readCondition 75 = .ok (.iconst 1, 1) := by decide +kernel
theorem dX7_readCondition_76 : decode cX7_readCondition 76 = .ok (.ireturn, 1) := by decide +kernel
theorem dX7_readFactor_0 : decode cX7_readFactor 0 = .ok (.aload_n 0, 1) := by decide +kernel
theorem dX7_readFactor_1 : decode cX7_readFactor 1 = .ok (.invokevirtual 60, 3) := by decide +kernel
theorem dX7_readFactor_4 : decode cX7_readFactor 4 = .ok (.bipush 91, 2) := by decide +kernel
theorem dX7_readFactor_6 : decode cX7_readFactor 6 = .ok (.if_icmp .ne 36, 3) := by decide +kernel
theorem dX7_readFactor_9 : decode cX7_readFactor 9 = .ok (.aload_n 0, 1) := by decide +kernel
theorem dX7_readFactor_10 : decode cX7_readFactor 10 = .ok (.iload_n 1, 1) := by decide +kernel
theorem dX7_readFactor_11 : decode cX7_readFactor 11 = .ok (.invokevirtual 99, 3) := by decide +kernel
theorem dX7_readFactor_14 : decode cX7_readFactor 14 = .ok (.ifCond .eq 26, 3) := by decide +kernel
theorem dX7_readFactor_17 : decode cX7_readFactor 17 = .ok (.aload_n 0, 1) := by decide +kernel
theorem dX7_readFactor_18 : decode cX7_readFactor 18 = .ok (.iload_n 1, 1) := by decide +kernel
theorem dX7_readFactor_19 : decode cX7_readFactor 19 = .ok (.iconst 1, 1) := by decide +kernel
theorem dX7_readFactor_20 : decode cX7_readFactor 20 = .ok (.iadd, 1) := by decide +kernel
theorem dX7_readFactor_21 : decode cX7_readFactor 21 = .ok (.invokevirtual 71, 3) := by decide +kernel
theorem dX7_readFactor_24 : decode cX7_readFactor 24 = .ok (.ifCond .eq 16, 3) := by decide +kernel
theorem dX7_readFactor_27 : decode cX7_readFactor 27 = .ok (.aload_n 0, 1) := by decide +kernel
theorem dX7_readFactor_28 : decode cX7_readFactor 28 = .ok (.bipush 93, 2) := by decide +kernel
theorem dX7_readFactor_30 : decode cX7_readFactor 30 = .ok (.invokevirtual 54, 3) := by decide +kernel
theorem dX7_readFactor_33 : decode cX7_readFactor 33 = .ok (.ifCond .eq 7, 3) := by decide +kernel
theorem dX7_readFactor_36 : decode cX7_readFactor 36 = .ok (.iconst 1, 1) := by decide +kernel
theorem dX7_readFactor_37 : decode cX7_readFactor 37 = .ok (.goto 4, 3) := by decide +kernel
theorem dX7_readFactor_40 : decode cX7_readFactor 40 = .ok (.iconst 0, 1) := by decide +kernel
theorem dX7_readFactor_41 : decode cX7_readFactor 41 = .ok (.ireturn, 1) := by decide +kernel
theorem dX7_readFactor_42 : decode cX7_readFactor 42 = .ok (.aload_n 0, 1) := by decide +kernel
theorem dX7_readFactor_43 : decode cX7_readFactor 43 = .ok (.invokevirtual 112, 3) := by decide +kernel
theorem dX7_readFactor_46 : decode cX7_readFactor 46 = .ok (.ifCond .eq 8, 3) := by decide +kernel
theorem dX7_readFactor_49 : decode cX7_readFactor 49 = .ok (.aload_n 0, 1) := by decide +kernel
theorem dX7_readFactor_50 : decode cX7_readFactor 50 = .ok (.invokevirtual 115, 3) := by decide +kernel
theorem dX7_readFactor_53 : decode cX7_readFactor 53 = .ok (.ireturn, 1) := by decide +kernel
theorem dX7_readFactor_54 : decode cX7_readFactor 54 = .ok (.aload_n 0, 1) := by decide +kernel
theorem dX7_readFactor_55 : decode cX7_readFactor 55 = .ok (.invokevirtual 60, 3) := by decide +kernel
theorem dX7_readFactor_58 : decode cX7_readFactor 58 = .ok (.iconst (-1), 1) := by decide +kernel
theorem dX7_readFactor_59 : decode cX7_readFactor 59 = .ok (.if_icmp .ne 7, 3) := by decide +kernel
theorem dX7_readFactor_62 : decode cX7_readFactor 62 = .ok (.iconst (-1), 1) := by decide +kernel
theorem dX7_readFactor_63 : decode cX7_readFactor 63 = .ok (.goto 13, 3) := by decide +kernel
theorem dX7_readFactor_66 : decode cX7_readFactor 66 = .ok (.ldc 118, 2) := by decide +kernel
theorem dX7_readFactor_68 : decode cX7_readFactor 68 = .ok (.aload_n 0, 1) := by decide +kernel
theorem dX7_readFactor_69 : decode cX7_readFactor 69 = .ok (.invokevirtual 60, 3) := by decide +kernel
theorem dX7_readFactor_72 : decode cX7_readFactor 72 = .ok (.i2c, 1) := by decide +kernel
theorem dX7_readFactor_73 : decode cX7_readFactor 73 = .ok (.invokevirtual 120, 3) := by decide +kernel
theorem dX7_readFactor_76 : decode cX7_readFactor 76 = .ok (.istore_n 2, 1) := by decide +kernel
theorem dX7_readFactor_77 : decode cX7_readFactor 77 = .ok (.iload_n 2, 1) := by decide +kernel
theorem dX7_readFactor_78 : decode cX7_readFactor 78 = .ok (.ifCond .ge 9, 3) := by decide +kernel
theorem dX7_readFactor_81 : decode cX7_readFactor 81 = .ok (.aload_n 0, 1) := by decide +kernel
theorem dX7_readFactor_82 : decode cX7_readFactor 82 = .ok (.iconst 1, 1) := by decide +kernel
theorem dX7_readFactor_83 : decode cX7_readFactor 83 = .ok (.invokevirtual 64, 3) := by decide +kernel
theorem dX7_readFactor_86 : decode cX7_readFactor 86 = .ok (.ireturn, 1) := by decide +kernel
theorem dX7_readFactor_87 : decode cX7_readFactor 87 = .ok (.aload_n 0, 1) := by decide +kernel
theorem dX7_readFactor_88 : decode cX7_readFactor 88 = .ok (.getfield 18, 3) := by decide +kernel
theorem dX7_readFactor_91 : decode cX7_readFactor 91 = .ok (.bipush 36, 2) := by decide +kernel
theorem dX7_readFactor_93 : decode cX7_readFactor 93 = .ok (.iload_n 2, 1) := by decide +kernel
theorem dX7_readFactor_94 : decode cX7_readFactor 94 = .ok (.invokevirtual 89, 3) := by decide +kernel
theorem dX7_readFactor_97 : decode cX7_readFactor 97 = .ok (.aload_n 0, 1) := by decide +kernel
theorem dX7_readFactor_98 : decode cX7_readFactor 98 = .ok (.dup, 1) := by decide +kernel
theorem dX7_readFactor_99 : decode cX7_readFactor 99 = .ok (.getfield 26, 3) := by decide +kernel
theorem dX7_readFactor_102 : decode cX7_readFactor 102 = .ok (.iconst 1, 1) := by decide +kernel
theorem dX7_readFactor_103 : decode cX7_readFactor 103 = .ok (.iadd, 1) := by decide +kernel
theorem dX7_readFactor_104 : decode cX7_readFactor 104 = .ok (.putfield 26, 3) := by decide +kernel
theorem dX7_readFactor_107 : decode cX7_readFactor 107 = .ok (.iconst 1, 1) := by decide +kernel
theorem dX7_readFactor_108 : decode cX7_readFactor 108 = .ok (.ireturn, 1) := by decide +kernel
theorem dX7_readNumber_0 : decode cX7_readNumber 0 = .ok (.iconst 0, 1) := by decide +kernel
theorem dX7_readNumber_1 : decode cX7_readNumber 1 = .ok (.istore_n 1, 1) := by decide +kernel
theorem dX7_readNumber_2 : decode cX7_readNumber 2 = .ok (.iconst 0, 1) := by decide +kernel
theorem dX7_readNumber_3 : decode cX7_readNumber 3 = .ok (.istore_n 2, 1) := by decide +kernel
theorem dX7_readNumber_4 : decode cX7_readNumber 4 = .ok (.iload_n 2, 1) := by decide +kernel
theorem dX7_readNumber_5 : decode cX7_readNumber 5 = .ok (.iconst 5, 1) := by decide +kernel
theorem dX7_readNumber_6 : decode cX7_readNumber 6 = .ok (.if_icmp .ge 44, 3) := by decide +kernel
theorem dX7_readNumber_9 : decode cX7_readNumber 9 = .ok (.aload_n 0, 1) := by decide +kernel
theorem dX7_readNumber_10 : decode cX7_readNumber 10 = .ok (.invokevirtual 112, 3) := by decide +kernel
theorem dX7_readNumber_13 : decode cX7_readNumber 13 = .ok (.ifCond .eq 37, 3) := by decide +kernel
theorem dX7_readNumber_16 : decode cX7_readNumber 16 = .ok (.iload_n 1, 1) := by decide +kernel
theorem dX7_readNumber_17 : decode cX7_readNumber 17 = .ok (.bipush 10, 2) := by decide +kernel
theorem dX7_readNumber_19 : decode cX7_readNumber 19 = .ok (.imul, 1) := by decide +kernel
theorem dX7_readNumber_20 : decode cX7_readNumber 20 = .ok (.aload_n 0, 1) := by decide +kernel
theorem dX7_readNumber_21 : decode cX7_readNumber 21 = .ok (.getfield 9, 3) := by decide +kernel
theorem dX7_readNumber_24 : decode cX7_readNumber 24 = .ok (.aload_n 0, 1) := by decide +kernel
theorem dX7_readNumber_25 : decode cX7_readNumber 25 = .ok (.getfield 26, 3) := by decide +kernel
theorem dX7_readNumber_28 : decode cX7_readNumber 28 = .ok (.iaload, 1) := by decide +kernel
theorem dX7_readNumber_29 : decode cX7_readNumber 29 = .ok (.iadd, 1) := by decide +kernel
theorem dX7_readNumber_30 : decode cX7_readNumber 30 = .ok (.bipush 48, 2) := by decide +kernel
theorem dX7_readNumber_32 : decode cX7_readNumber 32 = .ok (.isub, 1) := by decide +kernel
theorem dX7_readNumber_33 : decode cX7_readNumber 33 = .ok (.istore_n 1, 1) := by decide +kernel
theorem dX7_readNumber_34 : decode cX7_readNumber 34 = .ok (.aload_n 0, 1) := by decide +kernel
theorem dX7_readNumber_35 : decode cX7_readNumber 35 = .ok (.dup, 1) := by decide +kernel
theorem dX7_readNumber_36 : decode cX7_readNumber 36 = .ok (.getfield 26, 3) := by decide +kernel
theorem dX7_readNumber_39 : decode cX7_readNumber 39 = .ok (.iconst 1, 1) := by decide +kernel
theorem dX7_readNumber_40 : decode cX7_readNumber 40 = .ok (.iadd, 1) := by decide +kernel
theorem dX7_readNumber_41 : decode cX7_readNumber 41 = .ok (.putfield 26, 3) := by decide +kernel
theorem dX7_readNumber_44 : decode cX7_readNumber 44 = .ok (.iinc 2 1, 3) := by decide +kernel
theorem dX7_readNumber_47 : decode cX7_readNumber 47 = .ok (.goto (-43), 3) := by decide +kernel
theorem dX7_readNumber_50 : decode cX7_readNumber 50 = .ok (.aload_n 0, 1) := by decide +kernel
theorem dX7_readNumber_51 : decode cX7_readNumber 51 = .ok (.invokevirtual 112, 3) := by decide +kernel
theorem dX7_readNumber_54 : decode cX7_readNumber 54 = .ok (.ifCond .eq 9, 3) := by decide +kernel
theorem dX7_readNumber_57 : decode cX7_readNumber 57 = .ok (.aload_n 0, 1) := by decide +kernel
theorem dX7_readNumber_58 : decode cX7_readNumber 58 = .ok (.iconst 2, 1) := by decide +kernel
theorem dX7_readNumber_59 : decode cX7_readNumber 59 = .ok (.invokevirtual 64, 3) := by decide +kernel
theorem dX7_readNumber_62 : decode cX7_readNumber 62 = .ok (.ireturn, 1) := by decide +kernel
theorem dX7_readNumber_63 : decode cX7_readNumber 63 = .ok (.aload_n 0, 1) := by decide +kernel
theorem dX7_readNumber_64 : decode cX7_readNumber 64 = .ok (.getfield 18, 3) := by decide +kernel
theorem dX7_readNumber_67 : decode cX7_readNumber 67 = .ok (.bipush 35, 2) := by decide +kernel
theorem dX7_readNumber_69 : decode cX7_readNumber 69 = .ok (.iload_n 1, 1) := by decide +kernel
theorem dX7_readNumber_70 : decode cX7_readNumber 70 = .ok (.invokevirtual 89, 3) := by decide +kernel
theorem dX7_readNumber_73 : decode cX7_readNumber 73 = .ok (.iconst 1, 1) := by decide +kernel
theorem dX7_readNumber_74 : decode cX7_readNumber 74 = .ok (.ireturn, 1) := by decide +kernel
theorem dX7_readPart_0 : decode cX7_readPart 0 = .ok (.aload_n 0, 1) := by decide +kernel
theorem dX7_readPart_1 : decode cX7_readPart 1 = .ok (.getfield 18, 3) := by decide +kernel
theorem dX7_readPart_4 : decode cX7_readPart 4 = .ok (.invokevirtual 83, 3) := by decide +kernel
theorem dX7_readPart_7 : decode cX7_readPart 7 = .ok (.istore_n 2, 1) := by decide +kernel
theorem dX7_readPart_8 : decode cX7_readPart 8 = .ok (.iconst 0, 1) := by decide +kernel
theorem dX7_readPart_9 : decode cX7_readPart 9 = .ok (.istore_n 3, 1) := by decide +kernel
theorem dX7_readPart_10 : decode cX7_readPart 10 = .ok (.iload_n 3, 1) := by decide +kernel
theorem dX7_readPart_11 : decode cX7_readPart 11 = .ok (.sipush 160, 3) := by decide +kernel
theorem dX7_readPart_14 : decode cX7_readPart 14 = .ok (.if_icmp .ge 51, 3) := by decide +kernel
theorem dX7_readPart_17 : decode cX7_readPart 17 = .ok (.aload_n 0, 1) := by decide +kernel
theorem dX7_readPart_18 : decode cX7_readPart 18 = .ok (.iload_n 1, 1) := by decide +kernel
theorem dX7_readPart_19 : decode cX7_readPart 19 = .ok (.invokevirtual 96, 3) := by decide +kernel
theorem dX7_readPart_22 : decode cX7_readPart 22 = .ok (.ifCond .ne 5, 3) := by decide +kernel
theorem dX7_readPart_25 : decode cX7_readPart 25 = .ok (.iconst 0, 1) := by decide +kernel
theorem dX7_readPart_26 : decode cX7_readPart 26 = .ok (.ireturn, 1) := by decide +kernel
theorem dX7_readPart_27 : decode cX7_readPart 27 = .ok (.aload_n 0, 1) := by decide +kernel
theorem dX7_readPart_28 : decode cX7_readPart 28 = .ok (.invokevirtual 60, 3) := by decide +kernel
theorem dX7_readPart_31 : decode cX7_readPart 31 = .ok (.bipush 38, 2) := by decide +kernel
theorem dX7_readPart_33 : decode cX7_readPart 33 = .ok (.if_icmp .eq 6, 3) := by decide +kernel
theorem dX7_readPart_36 : decode cX7_readPart 36 = .ok (.goto 29, 3) := by decide +kernel
theorem dX7_readPart_39 : decode cX7_readPart 39 = .ok (.aload_n 0, 1) := by decide +kernel
theorem dX7_readPart_40 : decode cX7_readPart 40 = .ok (.getfield 18, 3) := by decide +kernel
theorem dX7_readPart_43 : decode cX7_readPart 43 = .ok (.bipush 38, 2) := by decide +kernel
theorem dX7_readPart_45 : decode cX7_readPart 45 = .ok (.iconst (-1), 1) := by decide +kernel
theorem dX7_readPart_46 : decode cX7_readPart 46 = .ok (.invokevirtual 89, 3) := by decide +kernel
theorem dX7_readPart_49 : decode cX7_readPart 49 = .ok (.aload_n 0, 1) := by decide +kernel
theorem dX7_readPart_50 : decode cX7_readPart 50 = .ok (.dup, 1) := by decide +kernel
theorem dX7_readPart_51 : decode cX7_readPart 51 = .ok (.getfield 26, 3) := by decide +kernel
theorem dX7_readPart_54 : decode cX7_readPart 54 = .ok (.iconst 1, 1) := by decide +kernel
theorem dX7_readPart_55 : decode cX7_readPart 55 = .ok (.iadd, 1) := by decide +kernel
theorem dX7_readPart_56 : decode cX7_readPart 56 = .ok (.putfield 26, 3) := by decide +kernel
theorem dX7_readPart_59 : decode cX7_readPart 59 = .ok (.iinc 3 1, 3) := by decide +kernel
theorem dX7_readPart_62 : decode cX7_readPart 62 = .ok (.goto (-52), 3) := by decide +kernel
theorem dX7_readPart_65 : decode cX7_readPart 65 = .ok (.aload_n 0, 1) := by decide +kernel
theorem dX7_readPart_66 : decode cX7_readPart 66 = .ok (.getfield 18, 3) := by decide +kernel
theorem dX7_readPart_69 : decode cX7_readPart 69 = .ok (.bipush 38, 2) := by decide +kernel
theorem dX7_readPart_71 : decode cX7_readPart 71 = .ok (.iload_n 2, 1) := by decide +kernel
theorem dX7_readPart_72 : decode cX7_readPart 72 = .ok (.invokevirtual 93, 3) := by decide +kernel
theorem dX7_readPart_75 : decode cX7_readPart 75 = .ok (.iconst 1, 1) := by decide +kernel
theorem dX7_readPart_76 : decode cX7_readPart 76 = .ok (.ireturn, 1) := by decide +kernel
theorem dX7_readPiece_0 : decode cX7_readPiece 0 = .ok (.aload_n 0, 1) := by decide +kernel
theorem dX7_readPiece_1 : decode cX7_readPiece 1 = .ok (.invokevirtual 60, 3) := by decide +kernel
theorem dX7_readPiece_4 : decode cX7_readPiece 4 = .ok (.bipush 33, 2) := by decide +kernel
theorem dX7_readPiece_6 : decode cX7_readPiece 6 = .ok (.if_icmp .ne 35, 3) := by decide +kernel
theorem dX7_readPiece_9 : decode cX7_readPiece 9 = .ok (.aload_n 0, 1) := by decide +kernel
theorem dX7_readPiece_10 : decode cX7_readPiece 10 = .ok (.iload_n 1, 1) := by decide +kernel
theorem dX7_readPiece_11 : decode cX7_readPiece 11 = .ok (.invokevirtual 99, 3) := by decide +kernel
theorem dX7_readPiece_14 : decode cX7_readPiece 14 = .ok (.ifCond .eq 13, 3) := by decide +kernel
theorem dX7_readPiece_17 : decode cX7_readPiece 17 = .ok (.aload_n 0, 1) := by decide +kernel
theorem dX7_readPiece_18 : decode cX7_readPiece 18 = .ok (.iload_n 1, 1) := by decide +kernel
theorem dX7_readPiece_19 : decode cX7_readPiece 19 = .ok (.iconst 1, 1) := by decide +kernel
theorem dX7_readPiece_20 : decode cX7_readPiece 20 = .ok (.iadd, 1) := by decide +kernel
theorem dX7_readPiece_21 : decode cX7_readPiece 21 = .ok (.invokevirtual 96, 3) := by decide +kernel
theorem dX7_readPiece_24 : decode cX7_readPiece 24 = .ok (.ifCond .ne 5, 3) := by decide +kernel
theorem dX7_readPiece_27 : decode cX7_readPiece 27 = .ok (.iconst 0, 1) := by decide +kernel
theorem dX7_readPiece_28 : decode cX7_readPiece 28 = .ok (.ireturn, 1) := by decide +kernel
theorem dX7_readPiece_29 : decode cX7_readPiece 29 = .ok (.aload_n 0, 1) := by decide +kernel
theorem dX7_readPiece_30 : decode cX7_readPiece 30 = .ok (.getfield 18, 3) := by decide +kernel
theorem dX7_readPiece_33 : decode cX7_readPiece 33 = .ok (.bipush 33, 2) := by decide +kernel
theorem dX7_readPiece_35 : decode cX7_readPiece 35 = .ok (.iconst 0, 1) := by decide +kernel
theorem dX7_readPiece_36 : decode cX7_readPiece 36 = .ok (.invokevirtual 89, 3) := by decide +kernel
theorem dX7_readPiece_39 : decode cX7_readPiece 39 = .ok (.iconst 1, 1) := by decide +kernel
theorem dX7_readPiece_40 : decode cX7_readPiece 40 = .ok (.ireturn, 1) := by decide +kernel
theorem dX7_readPiece_41 : decode cX7_readPiece 41 = .ok (.aload_n 0, 1) := by decide +kernel
theorem dX7_readPiece_42 : decode cX7_readPiece 42 = .ok (.invokevirtual 60, 3) := by decide +kernel
theorem dX7_readPiece_45 : decode cX7_readPiece 45 = .ok (.bipush 40, 2) := by decide +kernel
theorem dX7_readPiece_47 : decode cX7_readPiece 47 = .ok (.if_icmp .ne 36, 3) := by decide +kernel
theorem dX7_readPiece_50 : decode cX7_readPiece 50 = .ok (.aload_n 0, 1) := by decide +kernel
theorem dX7_readPiece_51 : decode cX7_readPiece 51 = .ok (.iload_n 1, 1) := by decide +kernel
theorem dX7_readPiece_52 : decode cX7_readPiece 52 = .ok (.invokevirtual 99, 3) := by decide +kernel
theorem dX7_readPiece_55 : decode cX7_readPiece 55 = .ok (.ifCond .eq 26, 3) := by decide +kernel
theorem dX7_readPiece_58 : decode cX7_readPiece 58 = .ok (.aload_n 0, 1) := by decide +kernel
theorem dX7_readPiece_59 : decode cX7_readPiece 59 = .ok (.iload_n 1, 1) := by decide +kernel
theorem dX7_readPiece_60 : decode cX7_readPiece 60 = .ok (.iconst 1, 1) := by decide +kernel
theorem dX7_readPiece_61 : decode cX7_readPiece 61 = .ok (.iadd, 1) := by decide +kernel
theorem dX7_readPiece_62 : decode cX7_readPiece 62 = .ok (.invokevirtual 77, 3) := by decide +kernel
theorem dX7_readPiece_65 : decode cX7_readPiece 65 = .ok (.ifCond .eq 16, 3) := by decide +kernel
theorem dX7_readPiece_68 : decode cX7_readPiece 68 = .ok (.aload_n 0, 1) := by decide +kernel
theorem dX7_readPiece_69 : decode cX7_readPiece 69 = .ok (.bipush 41, 2) := by decide +kernel
theorem dX7_readPiece_71 : decode cX7_readPiece 71 = .ok (.invokevirtual 54, 3) := by decide +kernel
theorem dX7_readPiece_74 : decode cX7_readPiece 74 = .ok (.ifCond .eq 7, 3) := by decide +kernel
theorem dX7_readPiece_77 : decode cX7_readPiece 77 = .ok (.iconst 1, 1) := by decide +kernel
theorem dX7_readPiece_78 : decode cX7_readPiece 78 = .ok (.goto 4, 3) := by decide +kernel
theorem dX7_readPiece_81 : decode cX7_readPiece 81 = .ok (.iconst 0, 1) := by decide +kernel
theorem dX7_readPiece_82 : decode cX7_readPiece 82 = .ok (.ireturn, 1) := by decide +kernel
theorem dX7_readPiece_83 : decode cX7_readPiece 83 = .ok (.aload_n 0, 1) := by decide +kernel
theorem dX7_readPiece_84 : decode cX7_readPiece 84 = .ok (.iload_n 1, 1) := by decide +kernel
theorem dX7_readPiece_85 : decode cX7_readPiece 85 = .ok (.invokevirtual 71, 3) := by decide +kernel
theorem dX7_readPiece_88 : decode cX7_readPiece 88 = .ok (.ifCond .ne 5, 3) := by decide +kernel
theorem dX7_readPiece_91 : decode cX7_readPiece 91 = .ok (.iconst 0, 1) := by decide +kernel
theorem dX7_readPiece_92 : decode cX7_readPiece 92 = .ok (.ireturn, 1) := by decide +kernel
theorem dX7_readPiece_93 : decode cX7_readPiece 93 = .ok (.aload_n 0, 1) := by decide +kernel
theorem dX7_readPiece_94 : decode cX7_readPiece 94 = .ok (.invokevirtual 60, 3) := by decide +kernel
theorem dX7_readPiece_97 : decode cX7_readPiece 97 = .ok (.istore_n 2, 1) := by decide +kernel
theorem dX7_readPiece_98 : decode cX7_readPiece 98 = .ok (.iload_n 2, 1) := by decide +kernel
theorem dX7_readPiece_99 : decode cX7_readPiece 99 = .ok (.bipush 60, 2) := by decide +kernel
theorem dX7_readPiece_101 : decode cX7_readPiece 101 = .ok (.if_icmp .eq 21, 3) := by decide +kernel
theorem dX7_readPiece_104 : decode cX7_readPiece 104 = .ok (.iload_n 2, 1) := by decide +kernel
theorem dX7_readPiece_105 : decode cX7_readPiece 105 = .ok (.bipush 62, 2) := by decide +kernel
theorem dX7_readPiece_107 : decode cX7_readPiece 107 = .ok (.if_icmp .eq 15, 3) := by decide +kernel
theorem dX7_readPiece_110 : decode cX7_readPiece 110 = .ok (.iload_n 2, 1) := by decide +kernel
theorem dX7_readPiece_111 : decode cX7_readPiece 111 = .ok (.bipush 61, 2) := by decide +kernel
theorem dX7_readPiece_113 : decode cX7_readPiece 113 = .ok (.if_icmp .eq 9, 3) := by decide +kernel
theorem dX7_readPiece_116 : decode cX7_readPiece 116 = .ok (.aload_n 0, 1) := by decide +kernel
theorem dX7_readPiece_117 : decode cX7_readPiece 117 = .ok (.iconst 1, 1) := by decide +kernel
theorem dX7_readPiece_118 : decode cX7_readPiece 118 = .ok (.invokevirtual 64, 3) := by decide +kernel
theorem dX7_readPiece_121 : decode cX7_readPiece 121 = .ok (.ireturn, 1) := by decide +kernel
theorem dX7_readPiece_122 : decode cX7_readPiece 122 = .ok (.aload_n 0, 1) := by decide +kernel
theorem dX7_readPiece_123 : decode cX7_readPiece 123 = .ok (.dup, 1) := by decide +kernel
theorem dX7_readPiece_124 : decode cX7_readPiece 124 = .ok (.getfield 26, 3) := by decide +kernel
theorem dX7_readPiece_127 : decode cX7_readPiece 127 = .ok (.iconst 1, 1) := by decide +kernel
theorem dX7_readPiece_128 : decode cX7_readPiece 128 = .ok (.iadd, 1) := by decide +kernel
theorem dX7_readPiece_129 : decode cX7_readPiece 129 = .ok (.putfield 26, 3) := by decide +kernel
theorem dX7_readPiece_132 : decode cX7_readPiece 132 = .ok (.aload_n 0, 1) := by decide +kernel
theorem dX7_readPiece_133 : decode cX7_readPiece 133 = .ok (.iload_n 1, 1) := by decide +kernel
theorem dX7_readPiece_134 : decode cX7_readPiece 134 = .ok (.invokevirtual 71, 3) := by decide +kernel
theorem dX7_readPiece_137 : decode cX7_readPiece 137 = .ok (.ifCond .ne 5, 3) := by decide +kernel
theorem dX7_readPiece_140 : decode cX7_readPiece 140 = .ok (.iconst 0, 1) := by decide +kernel
theorem dX7_readPiece_141 : decode cX7_readPiece 141 = .ok (.ireturn, 1) := by decide +kernel
theorem dX7_readPiece_142 : decode cX7_readPiece 142 = .ok (.aload_n 0, 1) := by decide +kernel
theorem dX7_readPiece_143 : decode cX7_readPiece 143 = .ok (.getfield 18, 3) := by decide +kernel
theorem dX7_readPiece_146 : decode cX7_readPiece 146 = .ok (.iload_n 2, 1) := by decide +kernel
theorem dX7_readPiece_147 : decode cX7_readPiece 147 = .ok (.iconst 0, 1) := by decide +kernel
theorem dX7_readPiece_148 : decode cX7_readPiece 148 = .ok (.invokevirtual 89, 3) := by decide +kernel
theorem dX7_readPiece_151 : decode cX7_readPiece 151 = .ok (.iconst 1, 1) := by decide +kernel
theorem dX7_readPiece_152 : decode cX7_readPiece 152 = .ok (.ireturn, 1) := by decide +kernel
theorem dX7_readSum_0 : decode cX7_readSum 0 = .ok (.aload_n 0, 1) := by decide +kernel
theorem dX7_readSum_1 : decode cX7_readSum 1 = .ok (.iload_n 1, 1) := by decide +kernel
theorem dX7_readSum_2 : decode cX7_readSum 2 = .ok (.invokevirtual 102, 3) := by decide +kernel
theorem dX7_readSum_5 : decode cX7_readSum 5 = .ok (.ifCond .ne 5, 3) := by decide +kernel
theorem dX7_readSum_8 : decode cX7_readSum 8 = .ok (.iconst 0, 1) := by decide +kernel
theorem dX7_readSum_9 : decode cX7_readSum 9 = .ok (.ireturn, 1) := by decide +kernel
theorem dX7_readSum_10 : decode cX7_readSum 10 = .ok (.iconst 0, 1) := by decide +kernel
theorem dX7_readSum_11 : decode cX7_readSum 11 = .ok (.istore_n 2, 1) := by decide +kernel
theorem dX7_readSum_12 : decode cX7_readSum 12 = .ok (.iload_n 2, 1) := by decide +kernel
theorem dX7_readSum_13 : decode cX7_readSum 13 = .ok (.sipush 160, 3) := by decide +kernel
theorem dX7_readSum_16 : decode cX7_readSum 16 = .ok (.if_icmp .ge 61, 3) := by decide +kernel
theorem dX7_readSum_19 : decode cX7_readSum 19 = .ok (.aload_n 0, 1) := by decide +kernel
theorem dX7_readSum_20 : decode cX7_readSum 20 = .ok (.invokevirtual 60, 3) := by decide +kernel
theorem dX7_readSum_23 : decode cX7_readSum 23 = .ok (.bipush 43, 2) := by decide +kernel
theorem dX7_readSum_25 : decode cX7_readSum 25 = .ok (.if_icmp .eq 12, 3) := by decide +kernel
theorem dX7_readSum_28 : decode cX7_readSum 28 = .ok (.aload_n 0, 1) := by decide +kernel
theorem dX7_readSum_29 : decode cX7_readSum 29 = .ok (.invokevirtual 60, 3) := by decide +kernel
theorem dX7_readSum_32 : decode cX7_readSum 32 = .ok (.bipush 45, 2) := by decide +kernel
theorem dX7_readSum_34 : decode cX7_readSum 34 = .ok (.if_icmp .ne 43, 3) := by decide +kernel
theorem dX7_readSum_37 : decode cX7_readSum 37 = .ok (.aload_n 0, 1) := by decide +kernel
theorem dX7_readSum_38 : decode cX7_readSum 38 = .ok (.invokevirtual 60, 3) := by decide +kernel
theorem dX7_readSum_41 : decode cX7_readSum 41 = .ok (.istore_n 3, 1) := by decide +kernel
theorem dX7_readSum_42 : decode cX7_readSum 42 = .ok (.aload_n 0, 1) := by decide +kernel
theorem dX7_readSum_43 : decode cX7_readSum 43 = .ok (.dup, 1) := by decide +kernel
theorem dX7_readSum_44 : decode cX7_readSum 44 = .ok (.getfield 26, 3) := by decide +kernel
theorem dX7_readSum_47 : decode cX7_readSum 47 = .ok (.iconst 1, 1) := by decide +kernel
theorem dX7_readSum_48 : decode cX7_readSum 48 = .ok (.iadd, 1) := by decide +kernel
theorem dX7_readSum_49 : decode cX7_readSum 49 = .ok (.putfield 26, 3) := by decide +kernel
theorem dX7_readSum_52 : decode cX7_readSum 52 = .ok (.aload_n 0, 1) := by decide +kernel
theorem dX7_readSum_53 : decode cX7_readSum 53 = .ok (.iload_n 1, 1) := by decide +kernel
theorem dX7_readSum_54 : decode cX7_readSum 54 = .ok (.invokevirtual 102, 3) := by decide +kernel
theorem dX7_readSum_57 : decode cX7_readSum 57 = .ok (.ifCond .ne 5, 3) := by decide +kernel
theorem dX7_readSum_60 : decode cX7_readSum 60 = .ok (.iconst 0, 1) := by decide +kernel
theorem dX7_readSum_61 : decode cX7_readSum 61 = .ok (.ireturn, 1) := by decide +kernel
theorem dX7_readSum_62 : decode cX7_readSum 62 = .ok (.aload_n 0, 1) := by decide +kernel
theorem dX7_readSum_63 : decode cX7_readSum 63 = .ok (.getfield 18, 3) := by decide +kernel
theorem dX7_readSum_66 : decode cX7_readSum 66 = .ok (.iload_n 3, 1) := by decide +kernel
theorem dX7_readSum_67 : decode cX7_readSum 67 = .ok (.iconst 0, 1) := by decide +kernel
theorem dX7_readSum_68 : decode cX7_readSum 68 = .ok (.invokevirtual 89, 3) := by decide +kernel
theorem dX7_readSum_71 : decode cX7_readSum 71 = .ok (.iinc 2 1, 3) := by decide +kernel
theorem dX7_readSum_74 : decode cX7_readSum 74 = .ok (.goto (-62), 3) := by decide +kernel
theorem dX7_readSum_77 : decode cX7_readSum 77 = .ok (.iconst 1, 1) := by decide +kernel
theorem dX7_readSum_78 : decode cX7_readSum 78 = .ok (.ireturn, 1) := by decide +kernel
theorem dX7_readTerm_0 : decode cX7_readTerm 0 = .ok (.aload_n 0, 1) := by decide +kernel
theorem dX7_readTerm_1 : decode cX7_readTerm 1 = .ok (.iload_n 1, 1) := by decide +kernel
theorem dX7_readTerm_2 : decode cX7_readTerm 2 = .ok (.invokevirtual 105, 3) := by decide +kernel
theorem dX7_readTerm_5 : decode cX7_readTerm 5 = .ok (.ifCond .ne 5, 3) := by decide +kernel
theorem dX7_readTerm_8 : decode cX7_readTerm 8 = .ok (.iconst 0, 1) := by decide +kernel
theorem dX7_readTerm_9 : decode cX7_readTerm 9 = .ok (.ireturn, 1) := by decide +kernel
theorem dX7_readTerm_10 : decode cX7_readTerm 10 = .ok (.iconst 0, 1) := by decide +kernel
theorem dX7_readTerm_11 : decode cX7_readTerm 11 = .ok (.istore_n 2, 1) := by decide +kernel
theorem dX7_readTerm_12 : decode cX7_readTerm 12 = .ok (.iload_n 2, 1) := by decide +kernel
theorem dX7_readTerm_13 : decode cX7_readTerm 13 = .ok (.sipush 160, 3) := by decide +kernel
theorem dX7_readTerm_16 : decode cX7_readTerm 16 = .ok (.if_icmp .ge 50, 3) := by decide +kernel
theorem dX7_readTerm_19 : decode cX7_readTerm 19 = .ok (.aload_n 0, 1) := by decide +kernel
theorem dX7_readTerm_20 : decode cX7_readTerm 20 = .ok (.invokevirtual 108, 3) := by decide +kernel
theorem dX7_readTerm_23 : decode cX7_readTerm 23 = .ok (.ifCond .eq 43, 3) := by decide +kernel
theorem dX7_readTerm_26 : decode cX7_readTerm 26 = .ok (.aload_n 0, 1) := by decide +kernel
theorem dX7_readTerm_27 : decode cX7_readTerm 27 = .ok (.invokevirtual 60, 3) := by decide +kernel
theorem dX7_readTerm_30 : decode cX7_readTerm 30 = .ok (.istore_n 3, 1) := by decide +kernel
theorem dX7_readTerm_31 : decode cX7_readTerm 31 = .ok (.aload_n 0, 1) := by decide +kernel
theorem dX7_readTerm_32 : decode cX7_readTerm 32 = .ok (.dup, 1) := by decide +kernel
theorem dX7_readTerm_33 : decode cX7_readTerm 33 = .ok (.getfield 26, 3) := by decide +kernel
theorem dX7_readTerm_36 : decode cX7_readTerm 36 = .ok (.iconst 1, 1) := by decide +kernel
theorem dX7_readTerm_37 : decode cX7_readTerm 37 = .ok (.iadd, 1) := by decide +kernel
theorem dX7_readTerm_38 : decode cX7_readTerm 38 = .ok (.putfield 26, 3) := by decide +kernel
theorem dX7_readTerm_41 : decode cX7_readTerm 41 = .ok (.aload_n 0, 1) := by decide +kernel
theorem dX7_readTerm_42 : decode cX7_readTerm 42 = .ok (.iload_n 1, 1) := by decide +kernel
theorem dX7_readTerm_43 : decode cX7_readTerm 43 = .ok (.invokevirtual 105, 3) := by decide +kernel
theorem dX7_readTerm_46 : decode cX7_readTerm 46 = .ok (.ifCond .ne 5, 3) := by decide +kernel
theorem dX7_readTerm_49 : decode cX7_readTerm 49 = .ok (.iconst 0, 1) := by decide +kernel
theorem dX7_readTerm_50 : decode cX7_readTerm 50 = .ok (.ireturn, 1) := by decide +kernel
theorem dX7_readTerm_51 : decode cX7_readTerm 51 = .ok (.aload_n 0, 1) := by decide +kernel
theorem dX7_readTerm_52 : decode cX7_readTerm 52 = .ok (.getfield 18, 3) := by decide +kernel
theorem dX7_readTerm_55 : decode cX7_readTerm 55 = .ok (.iload_n 3, 1) := by decide +kernel
theorem dX7_readTerm_56 : decode cX7_readTerm 56 = .ok (.iconst 0, 1) := by decide +kernel
theorem dX7_readTerm_57 : decode cX7_readTerm 57 = .ok (.invokevirtual 89, 3) := by decide +kernel
theorem dX7_readTerm_60 : decode cX7_readTerm 60 = .ok (.iinc 2 1, 3) := by decide +kernel
theorem dX7_readTerm_63 : decode cX7_readTerm 63 = .ok (.goto (-51), 3) := by decide +kernel
theorem dX7_readTerm_66 : decode cX7_readTerm 66 = .ok (.iconst 1, 1) := by decide +kernel
theorem dX7_readTerm_67 : decode cX7_readTerm 67 = .ok (.ireturn, 1) := by decide +kernel
theorem dX7_timesAhead_0 : decode cX7_timesAhead 0 = .ok (.aload_n 0, 1) := by decide +kernel
theorem dX7_timesAhead_1 : decode cX7_timesAhead 1 = .ok (.invokevirtual 60, 3) := by decide +kernel
theorem dX7_timesAhead_4 : decode cX7_timesAhead 4 = .ok (.istore_n 1, 1) := by decide +kernel
theorem dX7_timesAhead_5 : decode cX7_timesAhead 5 = .ok (.iload_n 1, 1) := by decide +kernel
theorem dX7_timesAhead_6 : decode cX7_timesAhead 6 = .ok (.bipush 42, 2) := by decide +kernel
theorem dX7_timesAhead_8 : decode cX7_timesAhead 8 = .ok (.if_icmp .eq 15, 3) := by decide +kernel
theorem dX7_timesAhead_11 : decode cX7_timesAhead 11 = .ok (.iload_n 1, 1) := by decide +kernel
theorem dX7_timesAhead_12 : decode cX7_timesAhead 12 = .ok (.bipush 47, 2) := by decide +kernel
theorem dX7_timesAhead_14 : decode cX7_timesAhead 14 = .ok (.if_icmp .eq 9, 3) := by decide +kernel
theorem dX7_timesAhead_17 : decode cX7_timesAhead 17 = .ok (.iload_n 1, 1) := by decide +kernel
theorem dX7_timesAhead_18 : decode cX7_timesAhead 18 = .ok (.bipush 37, 2) := by decide +kernel
theorem dX7_timesAhead_20 : decode cX7_timesAhead 20 = .ok (.if_icmp .ne 7, 3) := by decide +kernel
theorem dX7_timesAhead_23 : decode cX7_timesAhead 23 = .ok (.iconst 1, 1) := by decide +kernel
theorem dX7_timesAhead_24 : decode cX7_timesAhead 24 = .ok (.goto 4, 3) := by decide +kernel
theorem dX7_timesAhead_27 : decode cX7_timesAhead 27 = .ok (.iconst 0, 1) := by decide +kernel
theorem dX7_timesAhead_28 : decode cX7_timesAhead 28 = .ok (.ireturn, 1) := by decide +kernel
theorem dX8_add_0 : decode cX8_add 0 = .ok (.aload_n 0, 1) := by decide +kernel
theorem dX8_add_1 : decode cX8_add 1 = .ok (.getfield 9, 3) := by decide +kernel
theorem dX8_add_4 : decode cX8_add 4 = .ok (.aload_n 0, 1) := by decide +kernel
theorem dX8_add_5 : decode cX8_add 5 = .ok (.getfield 21, 3) := by decide +kernel
theorem dX8_add_8 : decode cX8_add 8 = .ok (.arraylength, 1) := by decide +kernel
theorem dX8_add_9 : decode cX8_add 9 = .ok (.if_icmp .ge 23, 3) := by decide +kernel
theorem dX8_add_12 : decode cX8_add 12 = .ok (.aload_n 0, 1) := by decide +kernel
theorem dX8_add_13 : decode cX8_add 13 = .ok (.getfield 21, 3) := by decide +kernel
theorem dX8_add_16 : decode cX8_add 16 = .ok (.aload_n 0, 1) := by decide +kernel
theorem dX8_add_17 : decode cX8_add 17 = .ok (.getfield 9, 3) := by decide +kernel
theorem dX8_add_20 : decode cX8_add 20 = .ok (.iload_n 1, 1) := by decide +kernel
theorem dX8_add_21 : decode cX8_add 21 = .ok (.iastore, 1) := by decide +kernel
theorem dX8_add_22 : decode cX8_add 22 = .ok (.aload_n 0, 1) := by decide +kernel
theorem dX8_add_23 : decode cX8_add 23 = .ok (.dup, 1) := by decide +kernel
theorem dX8_add_24 : decode cX8_add 24 = .ok (.getfield 9, 3) := by decide +kernel
theorem dX8_add_27 : decode cX8_add 27 = .ok (.iconst 1, 1) := by decide +kernel
theorem dX8_add_28 : decode cX8_add 28 = .ok (.iadd, 1) := by decide +kernel
theorem dX8_add_29 : decode cX8_add 29 = .ok (.putfield 9, 3) := by decide +kernel
theorem dX8_add_32 : decode cX8_add 32 = .ok (.return_, 1) := by decide +kernel
theorem dX8_at_0 : decode cX8_at 0 = .ok (.iload_n 1, 1) := by decide +kernel
theorem dX8_at_1 : decode cX8_at 1 = .ok (.ifCond .lt 20, 3) := by decide +kernel
theorem dX8_at_4 : decode cX8_at 4 = .ok (.iload_n 1, 1) := by decide +kernel
theorem dX8_at_5 : decode cX8_at 5 = .ok (.aload_n 0, 1) := by decide +kernel
theorem dX8_at_6 : decode cX8_at 6 = .ok (.getfield 9, 3) := by decide +kernel
theorem dX8_at_9 : decode cX8_at 9 = .ok (.if_icmp .ge 12, 3) := by decide +kernel
theorem dX8_at_12 : decode cX8_at 12 = .ok (.aload_n 0, 1) := by decide +kernel
theorem dX8_at_13 : decode cX8_at 13 = .ok (.getfield 21, 3) := by decide +kernel
theorem dX8_at_16 : decode cX8_at 16 = .ok (.iload_n 1, 1) := by decide +kernel
theorem dX8_at_17 : decode cX8_at 17 = .ok (.iaload, 1) := by decide +kernel
theorem dX8_at_18 : decode cX8_at 18 = .ok (.goto 4, 3) := by decide +kernel
theorem dX8_at_21 : decode cX8_at 21 = .ok (.iconst (-1), 1) := by decide +kernel
theorem dX8_at_22 : decode cX8_at 22 = .ok (.ireturn, 1) := by decide +kernel
theorem dX8_comesFrom_0 : decode cX8_comesFrom 0 = .ok (.aload_n 0, 1) := by decide +kernel
theorem dX8_comesFrom_1 : decode cX8_comesFrom 1 = .ok (.aload_n 1, 1) := by decide +kernel
theorem dX8_comesFrom_2 : decode cX8_comesFrom 2 = .ok (.iconst (-1), 1) := by decide +kernel
theorem dX8_comesFrom_3 : decode cX8_comesFrom 3 = .ok (.invokevirtual 25, 3) := by decide +kernel
theorem dX8_comesFrom_6 : decode cX8_comesFrom 6 = .ok (.ireturn, 1) := by decide +kernel
theorem dX8_comesWithout_0 : decode cX8_comesWithout 0 = .ok (.iconst 0, 1) := by decide +kernel
theorem dX8_comesWithout_1 : decode cX8_comesWithout 1 = .ok (.istore_n 3, 1) := by decide +kernel
theorem dX8_comesWithout_2 : decode cX8_comesWithout 2 = .ok (.iconst 0, 1) := by decide +kernel
theorem dX8_comesWithout_3 : decode cX8_comesWithout 3 = .ok (.istore 4, 2) := by decide +kernel
theorem dX8_comesWithout_5 : decode cX8_comesWithout 5 = .ok (.iload 4, 2) := by decide +kernel
theorem dX8_comesWithout_7 : decode cX8_comesWithout 7 = .ok (.aload_n 1, 1) := by decide +kernel
theorem dX8_comesWithout_8 : decode cX8_comesWithout 8 = .ok (.getfield 9, 3) := by decide +kernel
theorem dX8_comesWithout_11 : decode cX8_comesWithout 11 = .ok (.if_icmp .ge 42, 3) := by decide +kernel
theorem dX8_comesWithout_14 : decode cX8_comesWithout 14 = .ok (.iload_n 3, 1) := by decide +kernel
theorem dX8_comesWithout_15 : decode cX8_comesWithout 15 = .ok (.aload_n 0, 1) := by decide +kernel
theorem dX8_comesWithout_16 : decode cX8_comesWithout 16 = .ok (.getfield 9, 3) := by decide +kernel
theorem dX8_comesWithout_19 : decode cX8_comesWithout 19 = .ok (.if_icmp .ge 34, 3) := by decide +kernel
theorem dX8_comesWithout_22 : decode cX8_comesWithout 22 = .ok (.iload 4, 2) := by decide +kernel
theorem dX8_comesWithout_24 : decode cX8_comesWithout 24 = .ok (.iload_n 2, 1) := by decide +kernel
theorem dX8_comesWithout_25 : decode cX8_comesWithout 25 = .ok (.if_icmp .eq 22, 3) := by decide +kernel
theorem dX8_comesWithout_28 : decode cX8_comesWithout 28 = .ok (.aload_n 1, 1) := by decide +kernel
theorem dX8_comesWithout_29 : decode cX8_comesWithout 29 = .ok (.getfield 21, 3) := by decide +kernel
theorem dX8_comesWithout_32 : decode cX8_comesWithout 32 = .ok (.iload 4, 2) := by decide +kernel
theorem dX8_comesWithout_34 : decode cX8_comesWithout 34 = .ok (.iaload, 1) := by decide +kernel
theorem dX8_comesWithout_35 : decode cX8_comesWithout 35 = .ok (.aload_n 0, 1) := by decide +kernel
theorem dX8_comesWithout_36 : decode cX8_comesWithout 36 = .ok (.getfield 21, 3) := by decide +kernel
theorem dX8_comesWithout_39 : decode cX8_comesWithout 39 = .ok (.iload_n 3, 1) := by decide +kernel
theorem dX8_comesWithout_40 : decode cX8_comesWithout 40 = .ok (.iaload, 1) := by decide +kernel
theorem dX8_comesWithout_41 : decode cX8_comesWithout 41 = .ok (.if_icmp .ne 6, 3) := by decide +kernel
theorem dX8_comesWithout_44 : decode cX8_comesWithout 44 = .ok (.iinc 3 1, 3) := by decide +kernel
theorem dX8_comesWithout_47 : decode cX8_comesWithout 47 = .ok (.iinc 4 1, 3) := by decide +kernel
theorem dX8_comesWithout_50 : decode cX8_comesWithout 50 = .ok (.goto (-45), 3) := by decide +kernel
theorem dX8_comesWithout_53 : decode cX8_comesWithout 53 = .ok (.iload_n 3, 1) := by decide +kernel
theorem dX8_comesWithout_54 : decode cX8_comesWithout 54 = .ok (.aload_n 0, 1) := by decide +kernel
theorem dX8_comesWithout_55 : decode cX8_comesWithout 55 = .ok (.getfield 9, 3) := by decide +kernel
theorem dX8_comesWithout_58 : decode cX8_comesWithout 58 = .ok (.if_icmp .ne 7, 3) := by decide +kernel
theorem dX8_comesWithout_61 : decode cX8_comesWithout 61 = .ok (.iconst 1, 1) := by decide +kernel
theorem dX8_comesWithout_62 : decode cX8_comesWithout 62 = .ok (.goto 4, 3) := by decide +kernel
theorem dX8_comesWithout_65 : decode cX8_comesWithout 65 = .ok (.iconst 0, 1) := by decide +kernel
theorem dX8_comesWithout_66 : decode cX8_comesWithout 66 = .ok (.ireturn, 1) := by decide +kernel
theorem dX8_init_0 : decode cX8_init 0 = .ok (.aload_n 0, 1) := by decide +kernel
theorem dX8_init_1 : decode cX8_init 1 = .ok (.invokespecial 3, 3) := by decide +kernel
theorem dX8_init_4 : decode cX8_init 4 = .ok (.aload_n 0, 1) := by decide +kernel
theorem dX8_init_5 : decode cX8_init 5 = .ok (.iconst 0, 1) := by decide +kernel
theorem dX8_init_6 : decode cX8_init 6 = .ok (.putfield 9, 3) := by decide +kernel
theorem dX8_init_9 : decode cX8_init 9 = .ok (.aload_n 0, 1) := by decide +kernel
theorem dX8_init_10 : decode cX8_init 10 = .ok (.iload_n 1, 1) := by decide +kernel
theorem dX8_init_11 : decode cX8_init 11 = .ok (.iconst 0, 1) := by decide +kernel
theorem dX8_init_12 : decode cX8_init 12 = .ok (.invokestatic 15, 3) := by decide +kernel
theorem dX8_init_15 : decode cX8_init 15 = .ok (.newarray .int, 2) := by decide +kernel
theorem dX8_init_17 : decode cX8_init 17 = .ok (.putfield 21, 3) := by decide +kernel
theorem dX8_init_20 : decode cX8_init 20 = .ok (.return_, 1) := by decide +kernel
theorem dX8_placeOf_0 : decode cX8_placeOf 0 = .ok (.iload_n 2, 1) := by decide +kernel
theorem dX8_placeOf_1 : decode cX8_placeOf 1 = .ok (.iconst 0, 1) := by decide +kernel
theorem dX8_placeOf_2 : decode cX8_placeOf 2 = .ok (.invokestatic 15, 3) := by decide +kernel
theorem dX8_placeOf_5 : decode cX8_placeOf 5 = .ok (.istore_n 3, 1) := by decide +kernel
theorem dX8_placeOf_6 : decode cX8_placeOf 6 = .ok (.iload_n 3, 1) := by decide +kernel
theorem dX8_placeOf_7 : decode cX8_placeOf 7 = .ok (.aload_n 0, 1) := by decide +kernel
theorem dX8_placeOf_8 : decode cX8_placeOf 8 = .ok (.getfield 9, 3) := by decide +kernel
theorem dX8_placeOf_11 : decode cX8_placeOf 11 = .ok (.if_icmp .ge 21, 3) := by decide +kernel
theorem dX8_placeOf_14 : decode cX8_placeOf 14 = .ok (.aload_n 0, 1) := by decide +kernel
theorem dX8_placeOf_15 : decode cX8_placeOf 15 = .ok (.getfield 21, 3) := by decide +kernel
theorem dX8_placeOf_18 : decode cX8_placeOf 18 = .ok (.iload_n 3, 1) := by decide +kernel
theorem dX8_placeOf_19 : decode cX8_placeOf 19 = .ok (.iaload, 1) := by decide +kernel
theorem dX8_placeOf_20 : decode cX8_placeOf 20 = .ok (.iload_n 1, 1) := by decide +kernel
theorem dX8_placeOf_21 : decode cX8_placeOf 21 = .ok (.if_icmp .ne 5, 3) := by decide +kernel
theorem dX8_placeOf_24 : decode cX8_placeOf 24 = .ok (.iload_n 3, 1) := by decide +kernel
theorem dX8_placeOf_25 : decode cX8_placeOf 25 = .ok (.ireturn, 1) := by decide +kernel
theorem dX8_placeOf_26 : decode cX8_placeOf 26 = .ok (.iinc 3 1, 3) := by decide +kernel
theorem dX8_placeOf_29 : decode cX8_placeOf 29 = .ok (.goto (-23), 3) := by decide +kernel
theorem dX8_placeOf_32 : decode cX8_placeOf 32 = .ok (.iconst (-1), 1) := by decide +kernel
theorem dX8_placeOf_33 : decode cX8_placeOf 33 = .ok (.ireturn, 1) := by decide +kernel
theorem dX9_init_0 : decode cX9_init 0 = .ok (.aload_n 0, 1) := by decide +kernel
theorem dX9_init_1 : decode cX9_init 1 = .ok (.invokespecial 3, 3) := by decide +kernel
theorem dX9_init_4 : decode cX9_init 4 = .ok (.aload_n 0, 1) := by decide +kernel
theorem dX9_init_5 : decode cX9_init 5 = .ok (.bipush 8, 2) := by decide +kernel
theorem dX9_init_7 : decode cX9_init 7 = .ok (.newarray .int, 2) := by decide +kernel
theorem dX9_init_9 : decode cX9_init 9 = .ok (.putfield 9, 3) := by decide +kernel
theorem dX9_init_12 : decode cX9_init 12 = .ok (.aload_n 0, 1) := by decide +kernel
theorem dX9_init_13 : decode cX9_init 13 = .ok (.iconst 0, 1) := by decide +kernel
theorem dX9_init_14 : decode cX9_init 14 = .ok (.putfield 15, 3) := by decide +kernel
theorem dX9_init_17 : decode cX9_init 17 = .ok (.aload_n 0, 1) := by decide +kernel
theorem dX9_init_18 : decode cX9_init 18 = .ok (.iconst 0, 1) := by decide +kernel
theorem dX9_init_19 : decode cX9_init 19 = .ok (.putfield 19, 3) := by decide +kernel
theorem dX9_init_22 : decode cX9_init 22 = .ok (.aload_n 0, 1) := by decide +kernel
theorem dX9_init_23 : decode cX9_init 23 = .ok (.bipush 64, 2) := by decide +kernel
theorem dX9_init_25 : decode cX9_init 25 = .ok (.newarray .int, 2) := by decide +kernel
theorem dX9_init_27 : decode cX9_init 27 = .ok (.putfield 22, 3) := by decide +kernel
theorem dX9_init_30 : decode cX9_init 30 = .ok (.aload_n 0, 1) := by decide +kernel
theorem dX9_init_31 : decode cX9_init 31 = .ok (.sipush 2304, 3) := by decide +kernel
theorem dX9_init_34 : decode cX9_init 34 = .ok (.newarray .int, 2) := by decide +kernel
theorem dX9_init_36 : decode cX9_init 36 = .ok (.putfield 25, 3) := by decide +kernel
theorem dX9_init_39 : decode cX9_init 39 = .ok (.return_, 1) := by decide +kernel
theorem dX9_solve_0 : decode cX9_solve 0 = .ok (.iconst 0, 1) := by decide +kernel
theorem dX9_solve_1 : decode cX9_solve 1 = .ok (.iload_n 1, 1) := by decide +kernel
theorem dX9_solve_2 : decode cX9_solve 2 = .ok (.bipush 8, 2) := by decide +kernel
theorem dX9_solve_4 : decode cX9_solve 4 = .ok (.invokestatic 28, 3) := by decide +kernel
theorem dX9_solve_7 : decode cX9_solve 7 = .ok (.invokestatic 34, 3) := by decide +kernel
theorem dX9_solve_10 : decode cX9_solve 10 = .ok (.istore_n 2, 1) := by decide +kernel
theorem dX9_solve_11 : decode cX9_solve 11 = .ok (.bipush 7, 2) := by decide +kernel
theorem dX9_solve_13 : decode cX9_solve 13 = .ok (.istore_n 3, 1) := by decide +kernel
theorem dX9_solve_14 : decode cX9_solve 14 = .ok (.iload_n 3, 1) := by decide +kernel
theorem dX9_solve_15 : decode cX9_solve 15 = .ok (.ifCond .lt 89, 3) := by decide +kernel
theorem dX9_solve_18 : decode cX9_solve 18 = .ok (.iconst 0, 1) := by decide +kernel
theorem dX9_solve_19 : decode cX9_solve 19 = .ok (.istore 4, 2) := by decide +kernel
theorem dX9_solve_21 : decode cX9_solve 21 = .ok (.iload 4, 2) := by decide +kernel
theorem dX9_solve_23 : decode cX9_solve 23 = .ok (.iconst 1, 1) := by decide +kernel
theorem dX9_solve_24 : decode cX9_solve 24 = .ok (.iload_n 2, 1) := by decide +kernel
theorem dX9_solve_25 : decode cX9_solve 25 = .ok (.ishl, 1) := by decide +kernel
theorem dX9_solve_26 : decode cX9_solve 26 = .ok (.if_icmp .ge 72, 3) := by decide +kernel
theorem dX9_solve_29 : decode cX9_solve 29 = .ok (.aload_n 0, 1) := by decide +kernel
theorem dX9_solve_30 : decode cX9_solve 30 = .ok (.getfield 25, 3) := by decide +kernel
theorem dX9_solve_33 : decode cX9_solve 33 = .ok (.iload_n 3, 1) := by decide +kernel
theorem dX9_solve_34 : decode cX9_solve 34 = .ok (.iconst 1, 1) := by decide +kernel
theorem dX9_solve_35 : decode cX9_solve 35 = .ok (.iadd, 1) := by decide +kernel
theorem dX9_solve_36 : decode cX9_solve 36 = .ok (.sipush 256, 3) := by decide +kernel
theorem dX9_solve_39 : decode cX9_solve 39 = .ok (.imul, 1) := by decide +kernel
theorem dX9_solve_40 : decode cX9_solve 40 = .ok (.iload 4, 2) := by decide +kernel
theorem dX9_solve_42 : decode cX9_solve 42 = .ok (.iadd, 1) := by decide +kernel
theorem dX9_solve_43 : decode cX9_solve 43 = .ok (.iaload, 1) := by decide +kernel
theorem dX9_solve_44 : decode cX9_solve 44 = .ok (.istore 5, 2) := by decide +kernel
theorem dX9_solve_46 : decode cX9_solve 46 = .ok (.iconst 0, 1) := by decide +kernel
theorem dX9_solve_47 : decode cX9_solve 47 = .ok (.istore 6, 2) := by decide +kernel
theorem dX9_solve_49 : decode cX9_solve 49 = .ok (.iload 6, 2) := by decide +kernel
theorem dX9_solve_51 : decode cX9_solve 51 = .ok (.iload_n 2, 1) := by decide +kernel
theorem dX9_solve_52 : decode cX9_solve 52 = .ok (.if_icmp .ge 25, 3) := by decide +kernel
theorem dX9_solve_55 : decode cX9_solve 55 = .ok (.iload 5, 2) := by decide +kernel
theorem dX9_solve_57 : decode cX9_solve 57 = .ok (.aload_n 0, 1) := by decide +kernel
theorem dX9_solve_58 : decode cX9_solve 58 = .ok (.iload_n 3, 1) := by decide +kernel
theorem dX9_solve_59 : decode cX9_solve 59 = .ok (.iload 4, 2) := by decide +kernel
theorem dX9_solve_61 : decode cX9_solve 61 = .ok (.iload 6, 2) := by decide +kernel
theorem dX9_solve_63 : decode cX9_solve 63 = .ok (.invokevirtual 37, 3) := by decide +kernel
theorem dX9_solve_66 : decode cX9_solve 66 = .ok (.invokestatic 34, 3) := by decide +kernel
theorem dX9_solve_69 : decode cX9_solve 69 = .ok (.istore 5, 2) := by decide +kernel
theorem dX9_solve_71 : decode cX9_solve 71 = .ok (.iinc 6 1, 3) := by decide +kernel
theorem dX9_solve_74 : decode cX9_solve 74 = .ok (.goto (-25), 3) := by decide +kernel
theorem dX9_solve_77 : decode cX9_solve 77 = .ok (.aload_n 0, 1) := by decide +kernel
theorem dX9_solve_78 : decode cX9_solve 78 = .ok (.getfield 25, 3) := by decide +kernel
theorem dX9_solve_81 : decode cX9_solve 81 = .ok (.iload_n 3, 1) := by decide +kernel
theorem dX9_solve_82 : decode cX9_solve 82 = .ok (.sipush 256, 3) := by decide +kernel
theorem dX9_solve_85 : decode cX9_solve 85 = .ok (.imul, 1) := by decide +kernel
theorem dX9_solve_86 : decode cX9_solve 86 = .ok (.iload 4, 2) := by decide +kernel
theorem dX9_solve_88 : decode cX9_solve 88 = .ok (.iadd, 1) := by decide +kernel
theorem dX9_solve_89 : decode cX9_solve 89 = .ok (.iload 5, 2) := by decide +kernel
theorem dX9_solve_91 : decode cX9_solve 91 = .ok (.iastore, 1) := by decide +kernel
theorem dX9_solve_92 : decode cX9_solve 92 = .ok (.iinc 4 1, 3) := by decide +kernel
theorem dX9_solve_95 : decode cX9_solve 95 = .ok (.goto (-74), 3) := by decide +kernel
theorem dX9_solve_98 : decode cX9_solve 98 = .ok (.iinc 3 (-1), 3) := by decide +kernel
theorem dX9_solve_101 : decode cX9_solve 101 = .ok (.goto (-87), 3) := by decide +kernel
theorem dX9_solve_104 : decode cX9_solve 104 = .ok (.return_, 1) := by decide +kernel
theorem dX9_trace_0 : decode cX9_trace 0 = .ok (.iload_n 1, 1) := by decide +kernel
theorem dX9_trace_1 : decode cX9_trace 1 = .ok (.sipush 255, 3) := by decide +kernel
theorem dX9_trace_4 : decode cX9_trace 4 = .ok (.iand, 1) := by decide +kernel
theorem dX9_trace_5 : decode cX9_trace 5 = .ok (.istore_n 2, 1) := by decide +kernel
theorem dX9_trace_6 : decode cX9_trace 6 = .ok (.aload_n 0, 1) := by decide +kernel
theorem dX9_trace_7 : decode cX9_trace 7 = .ok (.iconst 0, 1) := by decide +kernel
theorem dX9_trace_8 : decode cX9_trace 8 = .ok (.putfield 15, 3) := by decide +kernel
theorem dX9_trace_11 : decode cX9_trace 11 = .ok (.aload_n 0, 1) := by decide +kernel
theorem dX9_trace_12 : decode cX9_trace 12 = .ok (.iconst 0, 1) := by decide +kernel
theorem dX9_trace_13 : decode cX9_trace 13 = .ok (.putfield 19, 3) := by decide +kernel
theorem dX9_trace_16 : decode cX9_trace 16 = .ok (.iconst 0, 1) := by decide +kernel
theorem dX9_trace_17 : decode cX9_trace 17 = .ok (.istore_n 3, 1) := by decide +kernel
theorem dX9_trace_18 : decode cX9_trace 18 = .ok (.iload_n 3, 1) := by decide +kernel
theorem dX9_trace_19 : decode cX9_trace 19 = .ok (.bipush 8, 2) := by decide +kernel
theorem dX9_trace_21 : decode cX9_trace 21 = .ok (.if_icmp .ge 105, 3) := by decide +kernel
theorem dX9_trace_24 : decode cX9_trace 24 = .ok (.iconst 0, 1) := by decide +kernel
theorem dX9_trace_25 : decode cX9_trace 25 = .ok (.istore 4, 2) := by decide +kernel
theorem dX9_trace_27 : decode cX9_trace 27 = .ok (.iload 4, 2) := by decide +kernel
theorem dX9_trace_29 : decode cX9_trace 29 = .ok (.bipush 8, 2) := by decide +kernel
theorem dX9_trace_31 : decode cX9_trace 31 = .ok (.if_icmp .ge 32, 3) := by decide +kernel
theorem dX9_trace_34 : decode cX9_trace 34 = .ok (.aload_n 0, 1) := by decide +kernel
theorem dX9_trace_35 : decode cX9_trace 35 = .ok (.iload_n 3, 1) := by decide +kernel
theorem dX9_trace_36 : decode cX9_trace 36 = .ok (.iload_n 2, 1) := by decide +kernel
theorem dX9_trace_37 : decode cX9_trace 37 = .ok (.iload 4, 2) := by decide +kernel
theorem dX9_trace_39 : decode cX9_trace 39 = .ok (.invokevirtual 37, 3) := by decide +kernel
theorem dX9_trace_42 : decode cX9_trace 42 = .ok (.aload_n 0, 1) := by decide +kernel
theorem dX9_trace_43 : decode cX9_trace 43 = .ok (.getfield 25, 3) := by decide +kernel
theorem dX9_trace_46 : decode cX9_trace 46 = .ok (.iload_n 3, 1) := by decide +kernel
theorem dX9_trace_47 : decode cX9_trace 47 = .ok (.sipush 256, 3) := by decide +kernel
theorem dX9_trace_50 : decode cX9_trace 50 = .ok (.imul, 1) := by decide +kernel
theorem dX9_trace_51 : decode cX9_trace 51 = .ok (.iload_n 2, 1) := by decide +kernel
theorem dX9_trace_52 : decode cX9_trace 52 = .ok (.iadd, 1) := by decide +kernel
theorem dX9_trace_53 : decode cX9_trace 53 = .ok (.iaload, 1) := by decide +kernel
theorem dX9_trace_54 : decode cX9_trace 54 = .ok (.if_icmp .eq 9, 3) := by decide +kernel
theorem dX9_trace_57 : decode cX9_trace 57 = .ok (.iinc 4 1, 3) := by decide +kernel
theorem dX9_trace_60 : decode cX9_trace 60 = .ok (.goto (-33), 3) := by decide +kernel
theorem dX9_trace_63 : decode cX9_trace 63 = .ok (.aload_n 0, 1) := by decide +kernel
theorem dX9_trace_64 : decode cX9_trace 64 = .ok (.getfield 9, 3) := by decide +kernel
theorem dX9_trace_67 : decode cX9_trace 67 = .ok (.iload_n 3, 1) := by decide +kernel
theorem dX9_trace_68 : decode cX9_trace 68 = .ok (.iload 4, 2) := by decide +kernel
theorem dX9_trace_70 : decode cX9_trace 70 = .ok (.iastore, 1) := by decide +kernel
theorem dX9_trace_71 : decode cX9_trace 71 = .ok (.iload 4, 2) := by decide +kernel
theorem dX9_trace_73 : decode cX9_trace 73 = .ok (.bipush 8, 2) := by decide +kernel
theorem dX9_trace_75 : decode cX9_trace 75 = .ok (.if_icmp .ge 45, 3) := by decide +kernel
theorem dX9_trace_78 : decode cX9_trace 78 = .ok (.aload_n 0, 1) := by decide +kernel
theorem dX9_trace_79 : decode cX9_trace 79 = .ok (.dup, 1) := by decide +kernel
theorem dX9_trace_80 : decode cX9_trace 80 = .ok (.getfield 15, 3) := by decide +kernel
theorem dX9_trace_83 : decode cX9_trace 83 = .ok (.iconst 1, 1) := by decide +kernel
theorem dX9_trace_84 : decode cX9_trace 84 = .ok (.iadd, 1) := by decide +kernel
theorem dX9_trace_85 : decode cX9_trace 85 = .ok (.putfield 15, 3) := by decide +kernel
theorem dX9_trace_88 : decode cX9_trace 88 = .ok (.aload_n 0, 1) := by decide +kernel
theorem dX9_trace_89 : decode cX9_trace 89 = .ok (.dup, 1) := by decide +kernel
theorem dX9_trace_90 : decode cX9_trace 90 = .ok (.getfield 19, 3) := by decide +kernel
theorem dX9_trace_93 : decode cX9_trace 93 = .ok (.sipush 1000, 3) := by decide +kernel
theorem dX9_trace_96 : decode cX9_trace 96 = .ok (.aload_n 0, 1) := by decide +kernel
theorem dX9_trace_97 : decode cX9_trace 97 = .ok (.getfield 22, 3) := by decide +kernel
theorem dX9_trace_100 : decode cX9_trace 100 = .ok (.iload_n 3, 1) := by decide +kernel
theorem dX9_trace_101 : decode cX9_trace 101 = .ok (.bipush 8, 2) := by decide +kernel
theorem dX9_trace_103 : decode cX9_trace 103 = .ok (.imul, 1) := by decide +kernel
theorem dX9_trace_104 : decode cX9_trace 104 = .ok (.iload 4, 2) := by decide +kernel
theorem dX9_trace_106 : decode cX9_trace 106 = .ok (.iadd, 1) := by decide +kernel
theorem dX9_trace_107 : decode cX9_trace 107 = .ok (.iaload, 1) := by decide +kernel
theorem dX9_trace_108 : decode cX9_trace 108 = .ok (.isub, 1) := by decide +kernel
theorem dX9_trace_109 : decode cX9_trace 109 = .ok (.iadd, 1) := by decide +kernel
theorem dX9_trace_110 : decode cX9_trace 110 = .ok (.putfield 19, 3) := by decide +kernel
theorem dX9_trace_113 : decode cX9_trace 113 = .ok (.iload_n 2, 1) := by decide +kernel
theorem dX9_trace_114 : decode cX9_trace 114 = .ok (.iconst 1, 1) := by decide +kernel
