theorem dX12_laysShortAt_42 : decode cX12_laysShortAt 42 = .ok (.iconst 1, 1) := by decide +kernel
theorem dX12_laysShortAt_43 : decode cX12_laysShortAt 43 = .ok (.goto 4, 3) := by decide +kernel
theorem dX12_laysShortAt_46 : decode cX12_laysShortAt 46 = .ok (.iconst 0, 1) := by decide +kernel
theorem dX12_laysShortAt_47 : decode cX12_laysShortAt 47 = .ok (.istore 4, 2) := by decide +kernel
theorem dX12_laysShortAt_49 : decode cX12_laysShortAt 49 = .ok (.iinc 5 1, 3) := by decide +kernel
theorem dX12_laysShortAt_52 : decode cX12_laysShortAt 52 = .ok (.goto (-40), 3) := by decide +kernel
theorem dX12_laysShortAt_55 : decode cX12_laysShortAt 55 = .ok (.iconst 0, 1) := by decide +kernel
theorem dX12_laysShortAt_56 : decode cX12_laysShortAt 56 = .ok (.istore 5, 2) := by decide +kernel
theorem dX12_laysShortAt_58 : decode cX12_laysShortAt 58 = .ok (.iload 5, 2) := by decide +kernel
theorem dX12_laysShortAt_60 : decode cX12_laysShortAt 60 = .ok (.bipush 26, 2) := by decide +kernel
theorem dX12_laysShortAt_62 : decode cX12_laysShortAt 62 = .ok (.if_icmp .ge 81, 3) := by decide +kernel
theorem dX12_laysShortAt_65 : decode cX12_laysShortAt 65 = .ok (.aload_n 0, 1) := by decide +kernel
theorem dX12_laysShortAt_66 : decode cX12_laysShortAt 66 = .ok (.iload 5, 2) := by decide +kernel
theorem dX12_laysShortAt_68 : decode cX12_laysShortAt 68 = .ok (.invokevirtual 400, 3) := by decide +kernel
theorem dX12_laysShortAt_71 : decode cX12_laysShortAt 71 = .ok (.ifCond .ne 6, 3) := by decide +kernel
theorem dX12_laysShortAt_74 : decode cX12_laysShortAt 74 = .ok (.goto 63, 3) := by decide +kernel
theorem dX12_laysShortAt_77 : decode cX12_laysShortAt 77 = .ok (.iconst 1, 1) := by decide +kernel
theorem dX12_laysShortAt_78 : decode cX12_laysShortAt 78 = .ok (.aload_n 0, 1) := by decide +kernel
theorem dX12_laysShortAt_79 : decode cX12_laysShortAt 79 = .ok (.getfield 130, 3) := by decide +kernel
theorem dX12_laysShortAt_82 : decode cX12_laysShortAt 82 = .ok (.aload_n 0, 1) := by decide +kernel
theorem dX12_laysShortAt_83 : decode cX12_laysShortAt 83 = .ok (.invokevirtual 403, 3) := by decide +kernel
theorem dX12_laysShortAt_86 : decode cX12_laysShortAt 86 = .ok (.iaload, 1) := by decide +kernel
theorem dX12_laysShortAt_87 : decode cX12_laysShortAt 87 = .ok (.iadd, 1) := by decide +kernel
theorem dX12_laysShortAt_88 : decode cX12_laysShortAt 88 = .ok (.istore 6, 2) := by decide +kernel
theorem dX12_laysShortAt_90 : decode cX12_laysShortAt 90 = .ok (.iload 6, 2) := by decide +kernel
theorem dX12_laysShortAt_92 : decode cX12_laysShortAt 92 = .ok (.iload_n 1, 1) := by decide +kernel
theorem dX12_laysShortAt_93 : decode cX12_laysShortAt 93 = .ok (.if_icmp .ge 15, 3) := by decide +kernel
theorem dX12_laysShortAt_96 : decode cX12_laysShortAt 96 = .ok (.aload_n 0, 1) := by decide +kernel
theorem dX12_laysShortAt_97 : decode cX12_laysShortAt 97 = .ok (.getfield 133, 3) := by decide +kernel
theorem dX12_laysShortAt_100 : decode cX12_laysShortAt 100 = .ok (.aload_n 0, 1) := by decide +kernel
theorem dX12_laysShortAt_101 : decode cX12_laysShortAt 101 = .ok (.invokevirtual 403, 3) := by decide +kernel
theorem dX12_laysShortAt_104 : decode cX12_laysShortAt 104 = .ok (.laload, 1) := by decide +kernel
theorem dX12_laysShortAt_105 : decode cX12_laysShortAt 105 = .ok (.goto 24, 3) := by decide +kernel
theorem dX12_laysShortAt_108 : decode cX12_laysShortAt 108 = .ok (.iload 6, 2) := by decide +kernel
theorem dX12_laysShortAt_110 : decode cX12_laysShortAt 110 = .ok (.iload_n 1, 1) := by decide +kernel
theorem dX12_laysShortAt_111 : decode cX12_laysShortAt 111 = .ok (.if_icmp .ne 17, 3) := by decide +kernel
theorem dX12_laysShortAt_114 : decode cX12_laysShortAt 114 = .ok (.lload_n 2, 1) := by decide +kernel
theorem dX12_laysShortAt_115 : decode cX12_laysShortAt 115 = .ok (.aload_n 0, 1) := by decide +kernel
theorem dX12_laysShortAt_116 : decode cX12_laysShortAt 116 = .ok (.getfield 133, 3) := by decide +kernel
theorem dX12_laysShortAt_119 : decode cX12_laysShortAt 119 = .ok (.aload_n 0, 1) := by decide +kernel
theorem dX12_laysShortAt_120 : decode cX12_laysShortAt 120 = .ok (.invokevirtual 403, 3) := by decide +kernel
theorem dX12_laysShortAt_123 : decode cX12_laysShortAt 123 = .ok (.laload, 1) := by decide +kernel
theorem dX12_laysShortAt_124 : decode cX12_laysShortAt 124 = .ok (.ladd, 1) := by decide +kernel
theorem dX12_laysShortAt_125 : decode cX12_laysShortAt 125 = .ok (.goto 4, 3) := by decide +kernel
theorem dX12_laysShortAt_128 : decode cX12_laysShortAt 128 = .ok (.lload_n 2, 1) := by decide +kernel
theorem dX12_laysShortAt_129 : decode cX12_laysShortAt 129 = .ok (.lstore_n 2, 1) := by decide +kernel
theorem dX12_laysShortAt_130 : decode cX12_laysShortAt 130 = .ok (.iload_n 1, 1) := by decide +kernel
theorem dX12_laysShortAt_131 : decode cX12_laysShortAt 131 = .ok (.iload 6, 2) := by decide +kernel
theorem dX12_laysShortAt_133 : decode cX12_laysShortAt 133 = .ok (.invokestatic 360, 3) := by decide +kernel
theorem dX12_laysShortAt_136 : decode cX12_laysShortAt 136 = .ok (.istore_n 1, 1) := by decide +kernel
theorem dX12_laysShortAt_137 : decode cX12_laysShortAt 137 = .ok (.iinc 5 1, 3) := by decide +kernel
theorem dX12_laysShortAt_140 : decode cX12_laysShortAt 140 = .ok (.goto (-82), 3) := by decide +kernel
theorem dX12_laysShortAt_143 : decode cX12_laysShortAt 143 = .ok (.aload_n 0, 1) := by decide +kernel
theorem dX12_laysShortAt_144 : decode cX12_laysShortAt 144 = .ok (.getfield 115, 3) := by decide +kernel
theorem dX12_laysShortAt_147 : decode cX12_laysShortAt 147 = .ok (.iconst 0, 1) := by decide +kernel
theorem dX12_laysShortAt_148 : decode cX12_laysShortAt 148 = .ok (.iaload, 1) := by decide +kernel
theorem dX12_laysShortAt_149 : decode cX12_laysShortAt 149 = .ok (.aload_n 0, 1) := by decide +kernel
theorem dX12_laysShortAt_150 : decode cX12_laysShortAt 150 = .ok (.getfield 115, 3) := by decide +kernel
theorem dX12_laysShortAt_153 : decode cX12_laysShortAt 153 = .ok (.iconst 1, 1) := by decide +kernel
theorem dX12_laysShortAt_154 : decode cX12_laysShortAt 154 = .ok (.iaload, 1) := by decide +kernel
theorem dX12_laysShortAt_155 : decode cX12_laysShortAt 155 = .ok (.aload_n 0, 1) := by decide +kernel
theorem dX12_laysShortAt_156 : decode cX12_laysShortAt 156 = .ok (.getfield 115, 3) := by decide +kernel
theorem dX12_laysShortAt_159 : decode cX12_laysShortAt 159 = .ok (.iconst 2, 1) := by decide +kernel
theorem dX12_laysShortAt_160 : decode cX12_laysShortAt 160 = .ok (.iaload, 1) := by decide +kernel
theorem dX12_laysShortAt_161 : decode cX12_laysShortAt 161 = .ok (.aload_n 0, 1) := by decide +kernel
theorem dX12_laysShortAt_162 : decode cX12_laysShortAt 162 = .ok (.getfield 115, 3) := by decide +kernel
theorem dX12_laysShortAt_165 : decode cX12_laysShortAt 165 = .ok (.iconst 3, 1) := by decide +kernel
theorem dX12_laysShortAt_166 : decode cX12_laysShortAt 166 = .ok (.iaload, 1) := by decide +kernel
theorem dX12_laysShortAt_167 : decode cX12_laysShortAt 167 = .ok (.invokestatic 397, 3) := by decide +kernel
theorem dX12_laysShortAt_170 : decode cX12_laysShortAt 170 = .ok (.istore 5, 2) := by decide +kernel
theorem dX12_laysShortAt_172 : decode cX12_laysShortAt 172 = .ok (.aload_n 0, 1) := by decide +kernel
theorem dX12_laysShortAt_173 : decode cX12_laysShortAt 173 = .ok (.getfield 130, 3) := by decide +kernel
theorem dX12_laysShortAt_176 : decode cX12_laysShortAt 176 = .ok (.iload 5, 2) := by decide +kernel
theorem dX12_laysShortAt_178 : decode cX12_laysShortAt 178 = .ok (.iload 4, 2) := by decide +kernel
theorem dX12_laysShortAt_180 : decode cX12_laysShortAt 180 = .ok (.ifCond .eq 7, 3) := by decide +kernel
theorem dX12_laysShortAt_183 : decode cX12_laysShortAt 183 = .ok (.iconst 0, 1) := by decide +kernel
theorem dX12_laysShortAt_184 : decode cX12_laysShortAt 184 = .ok (.goto 4, 3) := by decide +kernel
theorem dX12_laysShortAt_187 : decode cX12_laysShortAt 187 = .ok (.iload_n 1, 1) := by decide +kernel
theorem dX12_laysShortAt_188 : decode cX12_laysShortAt 188 = .ok (.iastore, 1) := by decide +kernel
theorem dX12_laysShortAt_189 : decode cX12_laysShortAt 189 = .ok (.aload_n 0, 1) := by decide +kernel
theorem dX12_laysShortAt_190 : decode cX12_laysShortAt 190 = .ok (.getfield 133, 3) := by decide +kernel
theorem dX12_laysShortAt_193 : decode cX12_laysShortAt 193 = .ok (.iload 5, 2) := by decide +kernel
theorem dX12_laysShortAt_195 : decode cX12_laysShortAt 195 = .ok (.iload 4, 2) := by decide +kernel
theorem dX12_laysShortAt_197 : decode cX12_laysShortAt 197 = .ok (.ifCond .eq 7, 3) := by decide +kernel
theorem dX12_laysShortAt_200 : decode cX12_laysShortAt 200 = .ok (.lconst 1, 1) := by decide +kernel
theorem dX12_laysShortAt_201 : decode cX12_laysShortAt 201 = .ok (.goto 4, 3) := by decide +kernel
theorem dX12_laysShortAt_204 : decode cX12_laysShortAt 204 = .ok (.lload_n 2, 1) := by decide +kernel
theorem dX12_laysShortAt_205 : decode cX12_laysShortAt 205 = .ok (.lastore, 1) := by decide +kernel
theorem dX12_laysShortAt_206 : decode cX12_laysShortAt 206 = .ok (.return_, 1) := by decide +kernel
theorem dX12_laysStays_0 : decode cX12_laysStays 0 = .ok (.iconst 0, 1) := by decide +kernel
theorem dX12_laysStays_1 : decode cX12_laysStays 1 = .ok (.istore_n 1, 1) := by decide +kernel
theorem dX12_laysStays_2 : decode cX12_laysStays 2 = .ok (.iconst 0, 1) := by decide +kernel
theorem dX12_laysStays_3 : decode cX12_laysStays 3 = .ok (.istore_n 2, 1) := by decide +kernel
theorem dX12_laysStays_4 : decode cX12_laysStays 4 = .ok (.iload_n 2, 1) := by decide +kernel
theorem dX12_laysStays_5 : decode cX12_laysStays 5 = .ok (.aload_n 0, 1) := by decide +kernel
theorem dX12_laysStays_6 : decode cX12_laysStays 6 = .ok (.getfield 320, 3) := by decide +kernel
theorem dX12_laysStays_9 : decode cX12_laysStays 9 = .ok (.if_icmp .ge 75, 3) := by decide +kernel
theorem dX12_laysStays_12 : decode cX12_laysStays 12 = .ok (.iload_n 1, 1) := by decide +kernel
theorem dX12_laysStays_13 : decode cX12_laysStays 13 = .ok (.aload_n 0, 1) := by decide +kernel
theorem dX12_laysStays_14 : decode cX12_laysStays 14 = .ok (.getfield 323, 3) := by decide +kernel
theorem dX12_laysStays_17 : decode cX12_laysStays 17 = .ok (.if_icmp .ge 67, 3) := by decide +kernel
theorem dX12_laysStays_20 : decode cX12_laysStays 20 = .ok (.aload_n 0, 1) := by decide +kernel
theorem dX12_laysStays_21 : decode cX12_laysStays 21 = .ok (.getfield 87, 3) := by decide +kernel
theorem dX12_laysStays_24 : decode cX12_laysStays 24 = .ok (.iload_n 2, 1) := by decide +kernel
theorem dX12_laysStays_25 : decode cX12_laysStays 25 = .ok (.iaload, 1) := by decide +kernel
theorem dX12_laysStays_26 : decode cX12_laysStays 26 = .ok (.aload_n 0, 1) := by decide +kernel
theorem dX12_laysStays_27 : decode cX12_laysStays 27 = .ok (.getfield 90, 3) := by decide +kernel
theorem dX12_laysStays_30 : decode cX12_laysStays 30 = .ok (.iload_n 1, 1) := by decide +kernel
theorem dX12_laysStays_31 : decode cX12_laysStays 31 = .ok (.iaload, 1) := by decide +kernel
theorem dX12_laysStays_32 : decode cX12_laysStays 32 = .ok (.if_icmp .ne 46, 3) := by decide +kernel
theorem dX12_laysStays_35 : decode cX12_laysStays 35 = .ok (.aload_n 0, 1) := by decide +kernel
theorem dX12_laysStays_36 : decode cX12_laysStays 36 = .ok (.getfield 100, 3) := by decide +kernel
theorem dX12_laysStays_39 : decode cX12_laysStays 39 = .ok (.bipush 17, 2) := by decide +kernel
theorem dX12_laysStays_41 : decode cX12_laysStays 41 = .ok (.iload_n 2, 1) := by decide +kernel
theorem dX12_laysStays_42 : decode cX12_laysStays 42 = .ok (.iconst 1, 1) := by decide +kernel
theorem dX12_laysStays_43 : decode cX12_laysStays 43 = .ok (.iadd, 1) := by decide +kernel
theorem dX12_laysStays_44 : decode cX12_laysStays 44 = .ok (.imul, 1) := by decide +kernel
theorem dX12_laysStays_45 : decode cX12_laysStays 45 = .ok (.iload_n 1, 1) := by decide +kernel
theorem dX12_laysStays_46 : decode cX12_laysStays 46 = .ok (.iadd, 1) := by decide +kernel
theorem dX12_laysStays_47 : decode cX12_laysStays 47 = .ok (.iconst 1, 1) := by decide +kernel
theorem dX12_laysStays_48 : decode cX12_laysStays 48 = .ok (.iadd, 1) := by decide +kernel
theorem dX12_laysStays_49 : decode cX12_laysStays 49 = .ok (.iaload, 1) := by decide +kernel
theorem dX12_laysStays_50 : decode cX12_laysStays 50 = .ok (.aload_n 0, 1) := by decide +kernel
theorem dX12_laysStays_51 : decode cX12_laysStays 51 = .ok (.getfield 100, 3) := by decide +kernel
theorem dX12_laysStays_54 : decode cX12_laysStays 54 = .ok (.bipush 17, 2) := by decide +kernel
theorem dX12_laysStays_56 : decode cX12_laysStays 56 = .ok (.iload_n 2, 1) := by decide +kernel
theorem dX12_laysStays_57 : decode cX12_laysStays 57 = .ok (.imul, 1) := by decide +kernel
theorem dX12_laysStays_58 : decode cX12_laysStays 58 = .ok (.iload_n 1, 1) := by decide +kernel
theorem dX12_laysStays_59 : decode cX12_laysStays 59 = .ok (.iadd, 1) := by decide +kernel
theorem dX12_laysStays_60 : decode cX12_laysStays 60 = .ok (.iaload, 1) := by decide +kernel
theorem dX12_laysStays_61 : decode cX12_laysStays 61 = .ok (.if_icmp .eq 6, 3) := by decide +kernel
theorem dX12_laysStays_64 : decode cX12_laysStays 64 = .ok (.goto 14, 3) := by decide +kernel
theorem dX12_laysStays_67 : decode cX12_laysStays 67 = .ok (.aload_n 0, 1) := by decide +kernel
theorem dX12_laysStays_68 : decode cX12_laysStays 68 = .ok (.getfield 103, 3) := by decide +kernel
theorem dX12_laysStays_71 : decode cX12_laysStays 71 = .ok (.iload_n 1, 1) := by decide +kernel
theorem dX12_laysStays_72 : decode cX12_laysStays 72 = .ok (.iload_n 2, 1) := by decide +kernel
theorem dX12_laysStays_73 : decode cX12_laysStays 73 = .ok (.iastore, 1) := by decide +kernel
theorem dX12_laysStays_74 : decode cX12_laysStays 74 = .ok (.iload_n 1, 1) := by decide +kernel
theorem dX12_laysStays_75 : decode cX12_laysStays 75 = .ok (.iconst 1, 1) := by decide +kernel
theorem dX12_laysStays_76 : decode cX12_laysStays 76 = .ok (.iadd, 1) := by decide +kernel
theorem dX12_laysStays_77 : decode cX12_laysStays 77 = .ok (.istore_n 1, 1) := by decide +kernel
theorem dX12_laysStays_78 : decode cX12_laysStays 78 = .ok (.iinc 2 1, 3) := by decide +kernel
theorem dX12_laysStays_81 : decode cX12_laysStays 81 = .ok (.goto (-77), 3) := by decide +kernel
theorem dX12_laysStays_84 : decode cX12_laysStays 84 = .ok (.return_, 1) := by decide +kernel
theorem dX12_least_0 : decode cX12_least 0 = .ok (.iload_n 0, 1) := by decide +kernel
theorem dX12_least_1 : decode cX12_least 1 = .ok (.iload_n 1, 1) := by decide +kernel
theorem dX12_least_2 : decode cX12_least 2 = .ok (.if_icmp .ge 7, 3) := by decide +kernel
theorem dX12_least_5 : decode cX12_least 5 = .ok (.iload_n 0, 1) := by decide +kernel
theorem dX12_least_6 : decode cX12_least 6 = .ok (.goto 4, 3) := by decide +kernel
theorem dX12_least_9 : decode cX12_least 9 = .ok (.iload_n 1, 1) := by decide +kernel
theorem dX12_least_10 : decode cX12_least 10 = .ok (.ireturn, 1) := by decide +kernel
theorem dX12_leaves_0 : decode cX12_leaves 0 = .ok (.iload_n 1, 1) := by decide +kernel
theorem dX12_leaves_1 : decode cX12_leaves 1 = .ok (.istore_n 2, 1) := by decide +kernel
theorem dX12_leaves_2 : decode cX12_leaves 2 = .ok (.iload_n 2, 1) := by decide +kernel
theorem dX12_leaves_3 : decode cX12_leaves 3 = .ok (.iconst 1, 1) := by decide +kernel
theorem dX12_leaves_4 : decode cX12_leaves 4 = .ok (.iadd, 1) := by decide +kernel
theorem dX12_leaves_5 : decode cX12_leaves 5 = .ok (.aload_n 0, 1) := by decide +kernel
theorem dX12_leaves_6 : decode cX12_leaves 6 = .ok (.getfield 306, 3) := by decide +kernel
theorem dX12_leaves_9 : decode cX12_leaves 9 = .ok (.if_icmp .ge 118, 3) := by decide +kernel
theorem dX12_leaves_12 : decode cX12_leaves 12 = .ok (.aload_n 0, 1) := by decide +kernel
theorem dX12_leaves_13 : decode cX12_leaves 13 = .ok (.getfield 69, 3) := by decide +kernel
theorem dX12_leaves_16 : decode cX12_leaves 16 = .ok (.iload_n 2, 1) := by decide +kernel
theorem dX12_leaves_17 : decode cX12_leaves 17 = .ok (.aload_n 0, 1) := by decide +kernel
theorem dX12_leaves_18 : decode cX12_leaves 18 = .ok (.getfield 69, 3) := by decide +kernel
theorem dX12_leaves_21 : decode cX12_leaves 21 = .ok (.iload_n 2, 1) := by decide +kernel
theorem dX12_leaves_22 : decode cX12_leaves 22 = .ok (.iconst 1, 1) := by decide +kernel
theorem dX12_leaves_23 : decode cX12_leaves 23 = .ok (.iadd, 1) := by decide +kernel
theorem dX12_leaves_24 : decode cX12_leaves 24 = .ok (.iaload, 1) := by decide +kernel
theorem dX12_leaves_25 : decode cX12_leaves 25 = .ok (.iastore, 1) := by decide +kernel
theorem dX12_leaves_26 : decode cX12_leaves 26 = .ok (.aload_n 0, 1) := by decide +kernel
theorem dX12_leaves_27 : decode cX12_leaves 27 = .ok (.getfield 72, 3) := by decide +kernel
theorem dX12_leaves_30 : decode cX12_leaves 30 = .ok (.iload_n 2, 1) := by decide +kernel
theorem dX12_leaves_31 : decode cX12_leaves 31 = .ok (.aload_n 0, 1) := by decide +kernel
theorem dX12_leaves_32 : decode cX12_leaves 32 = .ok (.getfield 72, 3) := by decide +kernel
theorem dX12_leaves_35 : decode cX12_leaves 35 = .ok (.iload_n 2, 1) := by decide +kernel
theorem dX12_leaves_36 : decode cX12_leaves 36 = .ok (.iconst 1, 1) := by decide +kernel
theorem dX12_leaves_37 : decode cX12_leaves 37 = .ok (.iadd, 1) := by decide +kernel
theorem dX12_leaves_38 : decode cX12_leaves 38 = .ok (.iaload, 1) := by decide +kernel
theorem dX12_leaves_39 : decode cX12_leaves 39 = .ok (.iastore, 1) := by decide +kernel
theorem dX12_leaves_40 : decode cX12_leaves 40 = .ok (.aload_n 0, 1) := by decide +kernel
theorem dX12_leaves_41 : decode cX12_leaves 41 = .ok (.getfield 75, 3) := by decide +kernel
theorem dX12_leaves_44 : decode cX12_leaves 44 = .ok (.iload_n 2, 1) := by decide +kernel
theorem dX12_leaves_45 : decode cX12_leaves 45 = .ok (.aload_n 0, 1) := by decide +kernel
theorem dX12_leaves_46 : decode cX12_leaves 46 = .ok (.getfield 75, 3) := by decide +kernel
theorem dX12_leaves_49 : decode cX12_leaves 49 = .ok (.iload_n 2, 1) := by decide +kernel
theorem dX12_leaves_50 : decode cX12_leaves 50 = .ok (.iconst 1, 1) := by decide +kernel
theorem dX12_leaves_51 : decode cX12_leaves 51 = .ok (.iadd, 1) := by decide +kernel
theorem dX12_leaves_52 : decode cX12_leaves 52 = .ok (.iaload, 1) := by decide +kernel
theorem dX12_leaves_53 : decode cX12_leaves 53 = .ok (.iastore, 1) := by decide +kernel
theorem dX12_leaves_54 : decode cX12_leaves 54 = .ok (.aload_n 0, 1) := by decide +kernel
theorem dX12_leaves_55 : decode cX12_leaves 55 = .ok (.getfield 78, 3) := by decide +kernel
theorem dX12_leaves_58 : decode cX12_leaves 58 = .ok (.iload_n 2, 1) := by decide +kernel
theorem dX12_leaves_59 : decode cX12_leaves 59 = .ok (.aload_n 0, 1) := by decide +kernel
theorem dX12_leaves_60 : decode cX12_leaves 60 = .ok (.getfield 78, 3) := by decide +kernel
theorem dX12_leaves_63 : decode cX12_leaves 63 = .ok (.iload_n 2, 1) := by decide +kernel
theorem dX12_leaves_64 : decode cX12_leaves 64 = .ok (.iconst 1, 1) := by decide +kernel
theorem dX12_leaves_65 : decode cX12_leaves 65 = .ok (.iadd, 1) := by decide +kernel
theorem dX12_leaves_66 : decode cX12_leaves 66 = .ok (.iaload, 1) := by decide +kernel
theorem dX12_leaves_67 : decode cX12_leaves 67 = .ok (.iastore, 1) := by decide +kernel
theorem dX12_leaves_68 : decode cX12_leaves 68 = .ok (.aload_n 0, 1) := by decide +kernel
theorem dX12_leaves_69 : decode cX12_leaves 69 = .ok (.getfield 81, 3) := by decide +kernel
theorem dX12_leaves_72 : decode cX12_leaves 72 = .ok (.iload_n 2, 1) := by decide +kernel
theorem dX12_leaves_73 : decode cX12_leaves 73 = .ok (.aload_n 0, 1) := by decide +kernel
theorem dX12_leaves_74 : decode cX12_leaves 74 = .ok (.getfield 81, 3) := by decide +kernel
theorem dX12_leaves_77 : decode cX12_leaves 77 = .ok (.iload_n 2, 1) := by decide +kernel
theorem dX12_leaves_78 : decode cX12_leaves 78 = .ok (.iconst 1, 1) := by decide +kernel
theorem dX12_leaves_79 : decode cX12_leaves 79 = .ok (.iadd, 1) := by decide +kernel
theorem dX12_leaves_80 : decode cX12_leaves 80 = .ok (.iaload, 1) := by decide +kernel
theorem dX12_leaves_81 : decode cX12_leaves 81 = .ok (.iastore, 1) := by decide +kernel
theorem dX12_leaves_82 : decode cX12_leaves 82 = .ok (.iconst 0, 1) := by decide +kernel
theorem dX12_leaves_83 : decode cX12_leaves 83 = .ok (.istore_n 3, 1) := by decide +kernel
theorem dX12_leaves_84 : decode cX12_leaves 84 = .ok (.iload_n 3, 1) := by decide +kernel
theorem dX12_leaves_85 : decode cX12_leaves 85 = .ok (.bipush 9, 2) := by decide +kernel
theorem dX12_leaves_87 : decode cX12_leaves 87 = .ok (.if_icmp .ge 34, 3) := by decide +kernel
theorem dX12_leaves_90 : decode cX12_leaves 90 = .ok (.aload_n 0, 1) := by decide +kernel
theorem dX12_leaves_91 : decode cX12_leaves 91 = .ok (.getfield 84, 3) := by decide +kernel
theorem dX12_leaves_94 : decode cX12_leaves 94 = .ok (.bipush 9, 2) := by decide +kernel
theorem dX12_leaves_96 : decode cX12_leaves 96 = .ok (.iload_n 2, 1) := by decide +kernel
theorem dX12_leaves_97 : decode cX12_leaves 97 = .ok (.imul, 1) := by decide +kernel
theorem dX12_leaves_98 : decode cX12_leaves 98 = .ok (.iload_n 3, 1) := by decide +kernel
theorem dX12_leaves_99 : decode cX12_leaves 99 = .ok (.iadd, 1) := by decide +kernel
theorem dX12_leaves_100 : decode cX12_leaves 100 = .ok (.aload_n 0, 1) := by decide +kernel
theorem dX12_leaves_101 : decode cX12_leaves 101 = .ok (.getfield 84, 3) := by decide +kernel
theorem dX12_leaves_104 : decode cX12_leaves 104 = .ok (.bipush 9, 2) := by decide +kernel
theorem dX12_leaves_106 : decode cX12_leaves 106 = .ok (.iload_n 2, 1) := by decide +kernel
theorem dX12_leaves_107 : decode cX12_leaves 107 = .ok (.imul, 1) := by decide +kernel
theorem dX12_leaves_108 : decode cX12_leaves 108 = .ok (.bipush 9, 2) := by decide +kernel
theorem dX12_leaves_110 : decode cX12_leaves 110 = .ok (.iadd, 1) := by decide +kernel
theorem dX12_leaves_111 : decode cX12_leaves 111 = .ok (.iload_n 3, 1) := by decide +kernel
theorem dX12_leaves_112 : decode cX12_leaves 112 = .ok (.iadd, 1) := by decide +kernel
theorem dX12_leaves_113 : decode cX12_leaves 113 = .ok (.iaload, 1) := by decide +kernel
theorem dX12_leaves_114 : decode cX12_leaves 114 = .ok (.iastore, 1) := by decide +kernel
theorem dX12_leaves_115 : decode cX12_leaves 115 = .ok (.iinc 3 1, 3) := by decide +kernel
theorem dX12_leaves_118 : decode cX12_leaves 118 = .ok (.goto (-34), 3) := by decide +kernel
theorem dX12_leaves_121 : decode cX12_leaves 121 = .ok (.iinc 2 1, 3) := by decide +kernel
theorem dX12_leaves_124 : decode cX12_leaves 124 = .ok (.goto (-122), 3) := by decide +kernel
theorem dX12_leaves_127 : decode cX12_leaves 127 = .ok (.aload_n 0, 1) := by decide +kernel
theorem dX12_leaves_128 : decode cX12_leaves 128 = .ok (.aload_n 0, 1) := by decide +kernel
theorem dX12_leaves_129 : decode cX12_leaves 129 = .ok (.getfield 306, 3) := by decide +kernel
theorem dX12_leaves_132 : decode cX12_leaves 132 = .ok (.iconst 1, 1) := by decide +kernel
theorem dX12_leaves_133 : decode cX12_leaves 133 = .ok (.isub, 1) := by decide +kernel
theorem dX12_leaves_134 : decode cX12_leaves 134 = .ok (.putfield 306, 3) := by decide +kernel
theorem dX12_leaves_137 : decode cX12_leaves 137 = .ok (.return_, 1) := by decide +kernel
theorem dX12_left_0 : decode cX12_left 0 = .ok (.aload_n 0, 1) := by decide +kernel
theorem dX12_left_1 : decode cX12_left 1 = .ok (.iload_n 1, 1) := by decide +kernel
theorem dX12_left_2 : decode cX12_left 2 = .ok (.invokevirtual 172, 3) := by decide +kernel
theorem dX12_left_5 : decode cX12_left 5 = .ok (.ifCond .eq 25, 3) := by decide +kernel
theorem dX12_left_8 : decode cX12_left 8 = .ok (.iload_n 2, 1) := by decide +kernel
theorem dX12_left_9 : decode cX12_left 9 = .ok (.ifCond .lt 21, 3) := by decide +kernel
theorem dX12_left_12 : decode cX12_left 12 = .ok (.iload_n 2, 1) := by decide +kernel
theorem dX12_left_13 : decode cX12_left 13 = .ok (.aload_n 0, 1) := by decide +kernel
theorem dX12_left_14 : decode cX12_left 14 = .ok (.iload_n 1, 1) := by decide +kernel
theorem dX12_left_15 : decode cX12_left 15 = .ok (.invokevirtual 175, 3) := by decide +kernel
theorem dX12_left_18 : decode cX12_left 18 = .ok (.if_icmp .ge 12, 3) := by decide +kernel
theorem dX12_left_21 : decode cX12_left 21 = .ok (.iload_n 3, 1) := by decide +kernel
theorem dX12_left_22 : decode cX12_left 22 = .ok (.iconst 0, 1) := by decide +kernel
theorem dX12_left_23 : decode cX12_left 23 = .ok (.iconst 1, 1) := by decide +kernel
theorem dX12_left_24 : decode cX12_left 24 = .ok (.invokestatic 161, 3) := by decide +kernel
theorem dX12_left_27 : decode cX12_left 27 = .ok (.ifCond .ne 5, 3) := by decide +kernel
theorem dX12_left_30 : decode cX12_left 30 = .ok (.iconst (-1), 1) := by decide +kernel
theorem dX12_left_31 : decode cX12_left 31 = .ok (.ireturn, 1) := by decide +kernel
theorem dX12_left_32 : decode cX12_left 32 = .ok (.aload_n 0, 1) := by decide +kernel
theorem dX12_left_33 : decode cX12_left 33 = .ok (.iload_n 1, 1) := by decide +kernel
theorem dX12_left_34 : decode cX12_left 34 = .ok (.iload_n 2, 1) := by decide +kernel
theorem dX12_left_35 : decode cX12_left 35 = .ok (.invokevirtual 179, 3) := by decide +kernel
theorem dX12_left_38 : decode cX12_left 38 = .ok (.istore 4, 2) := by decide +kernel
theorem dX12_left_40 : decode cX12_left 40 = .ok (.iload_n 3, 1) := by decide +kernel
theorem dX12_left_41 : decode cX12_left 41 = .ok (.ifCond .ne 18, 3) := by decide +kernel
theorem dX12_left_44 : decode cX12_left 44 = .ok (.aload_n 0, 1) := by decide +kernel
theorem dX12_left_45 : decode cX12_left 45 = .ok (.getfield 13, 3) := by decide +kernel
theorem dX12_left_48 : decode cX12_left 48 = .ok (.bipush 40, 2) := by decide +kernel
theorem dX12_left_50 : decode cX12_left 50 = .ok (.iload_n 1, 1) := by decide +kernel
theorem dX12_left_51 : decode cX12_left 51 = .ok (.imul, 1) := by decide +kernel
theorem dX12_left_52 : decode cX12_left 52 = .ok (.iload 4, 2) := by decide +kernel
theorem dX12_left_54 : decode cX12_left 54 = .ok (.iadd, 1) := by decide +kernel
theorem dX12_left_55 : decode cX12_left 55 = .ok (.iaload, 1) := by decide +kernel
theorem dX12_left_56 : decode cX12_left 56 = .ok (.goto 5, 3) := by decide +kernel
theorem dX12_left_59 : decode cX12_left 59 = .ok (.iload 4, 2) := by decide +kernel
theorem dX12_left_61 : decode cX12_left 61 = .ok (.ireturn, 1) := by decide +kernel
theorem dX12_leftMany_0 : decode cX12_leftMany 0 = .ok (.iconst 0, 1) := by decide +kernel
theorem dX12_leftMany_1 : decode cX12_leftMany 1 = .ok (.istore_n 2, 1) := by decide +kernel
theorem dX12_leftMany_2 : decode cX12_leftMany 2 = .ok (.iconst 0, 1) := by decide +kernel
theorem dX12_leftMany_3 : decode cX12_leftMany 3 = .ok (.istore_n 3, 1) := by decide +kernel
theorem dX12_leftMany_4 : decode cX12_leftMany 4 = .ok (.iload_n 3, 1) := by decide +kernel
theorem dX12_leftMany_5 : decode cX12_leftMany 5 = .ok (.aload_n 0, 1) := by decide +kernel
theorem dX12_leftMany_6 : decode cX12_leftMany 6 = .ok (.getfield 7, 3) := by decide +kernel
theorem dX12_leftMany_9 : decode cX12_leftMany 9 = .ok (.iload_n 1, 1) := by decide +kernel
theorem dX12_leftMany_10 : decode cX12_leftMany 10 = .ok (.iaload, 1) := by decide +kernel
theorem dX12_leftMany_11 : decode cX12_leftMany 11 = .ok (.if_icmp .ge 31, 3) := by decide +kernel
theorem dX12_leftMany_14 : decode cX12_leftMany 14 = .ok (.iload_n 2, 1) := by decide +kernel
theorem dX12_leftMany_15 : decode cX12_leftMany 15 = .ok (.aload_n 0, 1) := by decide +kernel
theorem dX12_leftMany_16 : decode cX12_leftMany 16 = .ok (.getfield 22, 3) := by decide +kernel
theorem dX12_leftMany_19 : decode cX12_leftMany 19 = .ok (.bipush 40, 2) := by decide +kernel
theorem dX12_leftMany_21 : decode cX12_leftMany 21 = .ok (.iload_n 1, 1) := by decide +kernel
theorem dX12_leftMany_22 : decode cX12_leftMany 22 = .ok (.imul, 1) := by decide +kernel
theorem dX12_leftMany_23 : decode cX12_leftMany 23 = .ok (.iload_n 3, 1) := by decide +kernel
theorem dX12_leftMany_24 : decode cX12_leftMany 24 = .ok (.iadd, 1) := by decide +kernel
theorem dX12_leftMany_25 : decode cX12_leftMany 25 = .ok (.baload, 1) := by decide +kernel
theorem dX12_leftMany_26 : decode cX12_leftMany 26 = .ok (.ifCond .eq 7, 3) := by decide +kernel
theorem dX12_leftMany_29 : decode cX12_leftMany 29 = .ok (.iconst 0, 1) := by decide +kernel
theorem dX12_leftMany_30 : decode cX12_leftMany 30 = .ok (.goto 4, 3) := by decide +kernel
theorem dX12_leftMany_33 : decode cX12_leftMany 33 = .ok (.iconst 1, 1) := by decide +kernel
theorem dX12_leftMany_34 : decode cX12_leftMany 34 = .ok (.iadd, 1) := by decide +kernel
theorem dX12_leftMany_35 : decode cX12_leftMany 35 = .ok (.istore_n 2, 1) := by decide +kernel
theorem dX12_leftMany_36 : decode cX12_leftMany 36 = .ok (.iinc 3 1, 3) := by decide +kernel
theorem dX12_leftMany_39 : decode cX12_leftMany 39 = .ok (.goto (-35), 3) := by decide +kernel
theorem dX12_leftMany_42 : decode cX12_leftMany 42 = .ok (.iload_n 2, 1) := by decide +kernel
theorem dX12_leftMany_43 : decode cX12_leftMany 43 = .ok (.ireturn, 1) := by decide +kernel
theorem dX12_letterAt_0 : decode cX12_letterAt 0 = .ok (.iload_n 2, 1) := by decide +kernel
theorem dX12_letterAt_1 : decode cX12_letterAt 1 = .ok (.aload_n 0, 1) := by decide +kernel
theorem dX12_letterAt_2 : decode cX12_letterAt 2 = .ok (.getfield 16, 3) := by decide +kernel
theorem dX12_letterAt_5 : decode cX12_letterAt 5 = .ok (.aload_n 0, 1) := by decide +kernel
theorem dX12_letterAt_6 : decode cX12_letterAt 6 = .ok (.getfield 112, 3) := by decide +kernel
theorem dX12_letterAt_9 : decode cX12_letterAt 9 = .ok (.iload_n 1, 1) := by decide +kernel
theorem dX12_letterAt_10 : decode cX12_letterAt 10 = .ok (.iaload, 1) := by decide +kernel
theorem dX12_letterAt_11 : decode cX12_letterAt 11 = .ok (.iaload, 1) := by decide +kernel
theorem dX12_letterAt_12 : decode cX12_letterAt 12 = .ok (.if_icmp .ge 22, 3) := by decide +kernel
theorem dX12_letterAt_15 : decode cX12_letterAt 15 = .ok (.aload_n 0, 1) := by decide +kernel
theorem dX12_letterAt_16 : decode cX12_letterAt 16 = .ok (.getfield 19, 3) := by decide +kernel
theorem dX12_letterAt_19 : decode cX12_letterAt 19 = .ok (.bipush 16, 2) := by decide +kernel
theorem dX12_letterAt_21 : decode cX12_letterAt 21 = .ok (.aload_n 0, 1) := by decide +kernel
theorem dX12_letterAt_22 : decode cX12_letterAt 22 = .ok (.getfield 112, 3) := by decide +kernel
theorem dX12_letterAt_25 : decode cX12_letterAt 25 = .ok (.iload_n 1, 1) := by decide +kernel
theorem dX12_letterAt_26 : decode cX12_letterAt 26 = .ok (.iaload, 1) := by decide +kernel
theorem dX12_letterAt_27 : decode cX12_letterAt 27 = .ok (.imul, 1) := by decide +kernel
theorem dX12_letterAt_28 : decode cX12_letterAt 28 = .ok (.iload_n 2, 1) := by decide +kernel
theorem dX12_letterAt_29 : decode cX12_letterAt 29 = .ok (.iadd, 1) := by decide +kernel
theorem dX12_letterAt_30 : decode cX12_letterAt 30 = .ok (.iaload, 1) := by decide +kernel
theorem dX12_letterAt_31 : decode cX12_letterAt 31 = .ok (.goto 4, 3) := by decide +kernel
theorem dX12_letterAt_34 : decode cX12_letterAt 34 = .ok (.iconst (-1), 1) := by decide +kernel
theorem dX12_letterAt_35 : decode cX12_letterAt 35 = .ok (.ireturn, 1) := by decide +kernel
theorem dX12_longBy_0 : decode cX12_longBy 0 = .ok (.aload_n 0, 1) := by decide +kernel
theorem dX12_longBy_1 : decode cX12_longBy 1 = .ok (.getfield 142, 3) := by decide +kernel
theorem dX12_longBy_4 : decode cX12_longBy 4 = .ok (.bipush 8, 2) := by decide +kernel
theorem dX12_longBy_6 : decode cX12_longBy 6 = .ok (.iload_n 1, 1) := by decide +kernel
theorem dX12_longBy_7 : decode cX12_longBy 7 = .ok (.imul, 1) := by decide +kernel
theorem dX12_longBy_8 : decode cX12_longBy 8 = .ok (.iload_n 2, 1) := by decide +kernel
theorem dX12_longBy_9 : decode cX12_longBy 9 = .ok (.iadd, 1) := by decide +kernel
theorem dX12_longBy_10 : decode cX12_longBy 10 = .ok (.baload, 1) := by decide +kernel
theorem dX12_longBy_11 : decode cX12_longBy 11 = .ok (.ifCond .eq 32, 3) := by decide +kernel
theorem dX12_longBy_14 : decode cX12_longBy 14 = .ok (.iload_n 3, 1) := by decide +kernel
theorem dX12_longBy_15 : decode cX12_longBy 15 = .ok (.iload_n 2, 1) := by decide +kernel
theorem dX12_longBy_16 : decode cX12_longBy 16 = .ok (.ishr, 1) := by decide +kernel
theorem dX12_longBy_17 : decode cX12_longBy 17 = .ok (.iconst 1, 1) := by decide +kernel
theorem dX12_longBy_18 : decode cX12_longBy 18 = .ok (.iand, 1) := by decide +kernel
theorem dX12_longBy_19 : decode cX12_longBy 19 = .ok (.ifCond .ne 24, 3) := by decide +kernel
theorem dX12_longBy_22 : decode cX12_longBy 22 = .ok (.iconst 1, 1) := by decide +kernel
theorem dX12_longBy_23 : decode cX12_longBy 23 = .ok (.aload_n 0, 1) := by decide +kernel
theorem dX12_longBy_24 : decode cX12_longBy 24 = .ok (.getfield 145, 3) := by decide +kernel
theorem dX12_longBy_27 : decode cX12_longBy 27 = .ok (.sipush 256, 3) := by decide +kernel
theorem dX12_longBy_30 : decode cX12_longBy 30 = .ok (.iload_n 2, 1) := by decide +kernel
theorem dX12_longBy_31 : decode cX12_longBy 31 = .ok (.imul, 1) := by decide +kernel
theorem dX12_longBy_32 : decode cX12_longBy 32 = .ok (.iload_n 3, 1) := by decide +kernel
theorem dX12_longBy_33 : decode cX12_longBy 33 = .ok (.iconst 1, 1) := by decide +kernel
theorem dX12_longBy_34 : decode cX12_longBy 34 = .ok (.iload_n 2, 1) := by decide +kernel
theorem dX12_longBy_35 : decode cX12_longBy 35 = .ok (.ishl, 1) := by decide +kernel
theorem dX12_longBy_36 : decode cX12_longBy 36 = .ok (.ior, 1) := by decide +kernel
theorem dX12_longBy_37 : decode cX12_longBy 37 = .ok (.iadd, 1) := by decide +kernel
theorem dX12_longBy_38 : decode cX12_longBy 38 = .ok (.iaload, 1) := by decide +kernel
theorem dX12_longBy_39 : decode cX12_longBy 39 = .ok (.iadd, 1) := by decide +kernel
theorem dX12_longBy_40 : decode cX12_longBy 40 = .ok (.goto 4, 3) := by decide +kernel
theorem dX12_longBy_43 : decode cX12_longBy 43 = .ok (.iconst 0, 1) := by decide +kernel
theorem dX12_longBy_44 : decode cX12_longBy 44 = .ok (.ireturn, 1) := by decide +kernel
theorem dX12_longOf_0 : decode cX12_longOf 0 = .ok (.iload_n 1, 1) := by decide +kernel
theorem dX12_longOf_1 : decode cX12_longOf 1 = .ok (.aload_n 0, 1) := by decide +kernel
theorem dX12_longOf_2 : decode cX12_longOf 2 = .ok (.getfield 369, 3) := by decide +kernel
theorem dX12_longOf_5 : decode cX12_longOf 5 = .ok (.if_icmp .ge 17, 3) := by decide +kernel
theorem dX12_longOf_8 : decode cX12_longOf 8 = .ok (.aload_n 0, 1) := by decide +kernel
theorem dX12_longOf_9 : decode cX12_longOf 9 = .ok (.getfield 16, 3) := by decide +kernel
theorem dX12_longOf_12 : decode cX12_longOf 12 = .ok (.aload_n 0, 1) := by decide +kernel
theorem dX12_longOf_13 : decode cX12_longOf 13 = .ok (.getfield 112, 3) := by decide +kernel
theorem dX12_longOf_16 : decode cX12_longOf 16 = .ok (.iload_n 1, 1) := by decide +kernel
theorem dX12_longOf_17 : decode cX12_longOf 17 = .ok (.iaload, 1) := by decide +kernel
theorem dX12_longOf_18 : decode cX12_longOf 18 = .ok (.iaload, 1) := by decide +kernel
theorem dX12_longOf_19 : decode cX12_longOf 19 = .ok (.goto 4, 3) := by decide +kernel
theorem dX12_longOf_22 : decode cX12_longOf 22 = .ok (.iconst 0, 1) := by decide +kernel
theorem dX12_longOf_23 : decode cX12_longOf 23 = .ok (.ireturn, 1) := by decide +kernel
theorem dX12_lostOf_0 : decode cX12_lostOf 0 = .ok (.sipush 1000, 3) := by decide +kernel
theorem dX12_lostOf_3 : decode cX12_lostOf 3 = .ok (.aload_n 0, 1) := by decide +kernel
theorem dX12_lostOf_4 : decode cX12_lostOf 4 = .ok (.iload_n 1, 1) := by decide +kernel
theorem dX12_lostOf_5 : decode cX12_lostOf 5 = .ok (.invokevirtual 433, 3) := by decide +kernel
theorem dX12_lostOf_8 : decode cX12_lostOf 8 = .ok (.imul, 1) := by decide +kernel
theorem dX12_lostOf_9 : decode cX12_lostOf 9 = .ok (.iload_n 1, 1) := by decide +kernel
theorem dX12_lostOf_10 : decode cX12_lostOf 10 = .ok (.isub, 1) := by decide +kernel
theorem dX12_lostOf_11 : decode cX12_lostOf 11 = .ok (.ireturn, 1) := by decide +kernel
theorem dX12_makes_0 : decode cX12_makes 0 = .ok (.iconst 0, 1) := by decide +kernel
theorem dX12_makes_1 : decode cX12_makes 1 = .ok (.istore 6, 2) := by decide +kernel
theorem dX12_makes_3 : decode cX12_makes 3 = .ok (.iload 6, 2) := by decide +kernel
theorem dX12_makes_5 : decode cX12_makes 5 = .ok (.iload_n 3, 1) := by decide +kernel
theorem dX12_makes_6 : decode cX12_makes 6 = .ok (.if_icmp .ge 47, 3) := by decide +kernel
theorem dX12_makes_9 : decode cX12_makes 9 = .ok (.aload_n 0, 1) := by decide +kernel
theorem dX12_makes_10 : decode cX12_makes 10 = .ok (.iload_n 1, 1) := by decide +kernel
theorem dX12_makes_11 : decode cX12_makes 11 = .ok (.iload_n 2, 1) := by decide +kernel
theorem dX12_makes_12 : decode cX12_makes 12 = .ok (.invokevirtual 179, 3) := by decide +kernel
theorem dX12_makes_15 : decode cX12_makes 15 = .ok (.istore 7, 2) := by decide +kernel
theorem dX12_makes_17 : decode cX12_makes 17 = .ok (.aload_n 0, 1) := by decide +kernel
theorem dX12_makes_18 : decode cX12_makes 18 = .ok (.getfield 84, 3) := by decide +kernel
theorem dX12_makes_21 : decode cX12_makes 21 = .ok (.bipush 9, 2) := by decide +kernel
theorem dX12_makes_23 : decode cX12_makes 23 = .ok (.aload_n 0, 1) := by decide +kernel
theorem dX12_makes_24 : decode cX12_makes 24 = .ok (.getfield 306, 3) := by decide +kernel
theorem dX12_makes_27 : decode cX12_makes 27 = .ok (.imul, 1) := by decide +kernel
theorem dX12_makes_28 : decode cX12_makes 28 = .ok (.iload 6, 2) := by decide +kernel
theorem dX12_makes_30 : decode cX12_makes 30 = .ok (.iadd, 1) := by decide +kernel
theorem dX12_makes_31 : decode cX12_makes 31 = .ok (.iload 7, 2) := by decide +kernel
theorem dX12_makes_33 : decode cX12_makes 33 = .ok (.iastore, 1) := by decide +kernel
theorem dX12_makes_34 : decode cX12_makes 34 = .ok (.aload_n 0, 1) := by decide +kernel
theorem dX12_makes_35 : decode cX12_makes 35 = .ok (.getfield 22, 3) := by decide +kernel
theorem dX12_makes_38 : decode cX12_makes 38 = .ok (.bipush 40, 2) := by decide +kernel
theorem dX12_makes_40 : decode cX12_makes 40 = .ok (.iload_n 1, 1) := by decide +kernel
theorem dX12_makes_41 : decode cX12_makes 41 = .ok (.imul, 1) := by decide +kernel
theorem dX12_makes_42 : decode cX12_makes 42 = .ok (.iload 7, 2) := by decide +kernel
theorem dX12_makes_44 : decode cX12_makes 44 = .ok (.iadd, 1) := by decide +kernel
theorem dX12_makes_45 : decode cX12_makes 45 = .ok (.iconst 1, 1) := by decide +kernel
theorem dX12_makes_46 : decode cX12_makes 46 = .ok (.bastore, 1) := by decide +kernel
theorem dX12_makes_47 : decode cX12_makes 47 = .ok (.iinc 6 1, 3) := by decide +kernel
theorem dX12_makes_50 : decode cX12_makes 50 = .ok (.goto (-47), 3) := by decide +kernel
theorem dX12_makes_53 : decode cX12_makes 53 = .ok (.aload_n 0, 1) := by decide +kernel
theorem dX12_makes_54 : decode cX12_makes 54 = .ok (.iload_n 1, 1) := by decide +kernel
theorem dX12_makes_55 : decode cX12_makes 55 = .ok (.iload 4, 2) := by decide +kernel
theorem dX12_makes_57 : decode cX12_makes 57 = .ok (.iload 5, 2) := by decide +kernel
theorem dX12_makes_59 : decode cX12_makes 59 = .ok (.iload_n 3, 1) := by decide +kernel
theorem dX12_makes_60 : decode cX12_makes 60 = .ok (.invokevirtual 309, 3) := by decide +kernel
theorem dX12_makes_63 : decode cX12_makes 63 = .ok (.return_, 1) := by decide +kernel
theorem dX12_manyOf_0 : decode cX12_manyOf 0 = .ok (.iload_n 1, 1) := by decide +kernel
theorem dX12_manyOf_1 : decode cX12_manyOf 1 = .ok (.sipush 999, 3) := by decide +kernel
theorem dX12_manyOf_4 : decode cX12_manyOf 4 = .ok (.iadd, 1) := by decide +kernel
theorem dX12_manyOf_5 : decode cX12_manyOf 5 = .ok (.sipush 1000, 3) := by decide +kernel
theorem dX12_manyOf_8 : decode cX12_manyOf 8 = .ok (.idiv, 1) := by decide +kernel
theorem dX12_manyOf_9 : decode cX12_manyOf 9 = .ok (.ireturn, 1) := by decide +kernel
theorem dX12_may_0 : decode cX12_may 0 = .ok (.aload_n 0, 1) := by decide +kernel
theorem dX12_may_1 : decode cX12_may 1 = .ok (.iload_n 1, 1) := by decide +kernel
theorem dX12_may_2 : decode cX12_may 2 = .ok (.invokevirtual 172, 3) := by decide +kernel
theorem dX12_may_5 : decode cX12_may 5 = .ok (.ifCond .eq 33, 3) := by decide +kernel
theorem dX12_may_8 : decode cX12_may 8 = .ok (.iload_n 2, 1) := by decide +kernel
theorem dX12_may_9 : decode cX12_may 9 = .ok (.ifCond .lt 29, 3) := by decide +kernel
theorem dX12_may_12 : decode cX12_may 12 = .ok (.iload_n 2, 1) := by decide +kernel
theorem dX12_may_13 : decode cX12_may 13 = .ok (.aload_n 0, 1) := by decide +kernel
theorem dX12_may_14 : decode cX12_may 14 = .ok (.iload_n 1, 1) := by decide +kernel
theorem dX12_may_15 : decode cX12_may 15 = .ok (.invokevirtual 175, 3) := by decide +kernel
theorem dX12_may_18 : decode cX12_may 18 = .ok (.if_icmp .ge 20, 3) := by decide +kernel
theorem dX12_may_21 : decode cX12_may 21 = .ok (.iload_n 3, 1) := by decide +kernel
theorem dX12_may_22 : decode cX12_may 22 = .ok (.invokestatic 297, 3) := by decide +kernel
theorem dX12_may_25 : decode cX12_may 25 = .ok (.ifCond .eq 13, 3) := by decide +kernel
theorem dX12_may_28 : decode cX12_may 28 = .ok (.iload 4, 2) := by decide +kernel
theorem dX12_may_30 : decode cX12_may 30 = .ok (.iconst 0, 1) := by decide +kernel
theorem dX12_may_31 : decode cX12_may 31 = .ok (.iconst 1, 1) := by decide +kernel
theorem dX12_may_32 : decode cX12_may 32 = .ok (.invokestatic 161, 3) := by decide +kernel
theorem dX12_may_35 : decode cX12_may 35 = .ok (.ifCond .ne 5, 3) := by decide +kernel
theorem dX12_may_38 : decode cX12_may 38 = .ok (.iconst (-1), 1) := by decide +kernel
theorem dX12_may_39 : decode cX12_may 39 = .ok (.ireturn, 1) := by decide +kernel
theorem dX12_may_40 : decode cX12_may 40 = .ok (.iload 4, 2) := by decide +kernel
theorem dX12_may_42 : decode cX12_may 42 = .ok (.iconst 1, 1) := by decide +kernel
theorem dX12_may_43 : decode cX12_may 43 = .ok (.if_icmp .ne 13, 3) := by decide +kernel
theorem dX12_may_46 : decode cX12_may 46 = .ok (.aload_n 0, 1) := by decide +kernel
theorem dX12_may_47 : decode cX12_may 47 = .ok (.iload_n 1, 1) := by decide +kernel
theorem dX12_may_48 : decode cX12_may 48 = .ok (.iload_n 2, 1) := by decide +kernel
theorem dX12_may_49 : decode cX12_may 49 = .ok (.iload_n 3, 1) := by decide +kernel
theorem dX12_may_50 : decode cX12_may 50 = .ok (.invokevirtual 300, 3) := by decide +kernel
theorem dX12_may_53 : decode cX12_may 53 = .ok (.goto 18, 3) := by decide +kernel
theorem dX12_may_56 : decode cX12_may 56 = .ok (.aload_n 0, 1) := by decide +kernel
theorem dX12_may_57 : decode cX12_may 57 = .ok (.iload_n 1, 1) := by decide +kernel
theorem dX12_may_58 : decode cX12_may 58 = .ok (.iload_n 2, 1) := by decide +kernel
theorem dX12_may_59 : decode cX12_may 59 = .ok (.iload_n 3, 1) := by decide +kernel
theorem dX12_may_60 : decode cX12_may 60 = .ok (.invokevirtual 303, 3) := by decide +kernel
theorem dX12_may_63 : decode cX12_may 63 = .ok (.ifCond .eq 7, 3) := by decide +kernel
theorem dX12_may_66 : decode cX12_may 66 = .ok (.iconst 1, 1) := by decide +kernel
theorem dX12_may_67 : decode cX12_may 67 = .ok (.goto 4, 3) := by decide +kernel
theorem dX12_may_70 : decode cX12_may 70 = .ok (.iconst 0, 1) := by decide +kernel
theorem dX12_may_71 : decode cX12_may 71 = .ok (.ireturn, 1) := by decide +kernel
theorem dX12_mayStrike_0 : decode cX12_mayStrike 0 = .ok (.aload_n 0, 1) := by decide +kernel
theorem dX12_mayStrike_1 : decode cX12_mayStrike 1 = .ok (.iload_n 1, 1) := by decide +kernel
theorem dX12_mayStrike_2 : decode cX12_mayStrike 2 = .ok (.iload_n 2, 1) := by decide +kernel
theorem dX12_mayStrike_3 : decode cX12_mayStrike 3 = .ok (.iload_n 3, 1) := by decide +kernel
theorem dX12_mayStrike_4 : decode cX12_mayStrike 4 = .ok (.invokevirtual 290, 3) := by decide +kernel
theorem dX12_mayStrike_7 : decode cX12_mayStrike 7 = .ok (.iconst 0, 1) := by decide +kernel
theorem dX12_mayStrike_8 : decode cX12_mayStrike 8 = .ok (.istore 4, 2) := by decide +kernel
theorem dX12_mayStrike_10 : decode cX12_mayStrike 10 = .ok (.iload 4, 2) := by decide +kernel
theorem dX12_mayStrike_12 : decode cX12_mayStrike 12 = .ok (.aload_n 0, 1) := by decide +kernel
theorem dX12_mayStrike_13 : decode cX12_mayStrike 13 = .ok (.getfield 277, 3) := by decide +kernel
theorem dX12_mayStrike_16 : decode cX12_mayStrike 16 = .ok (.if_icmp .ge 45, 3) := by decide +kernel
theorem dX12_mayStrike_19 : decode cX12_mayStrike 19 = .ok (.aload_n 0, 1) := by decide +kernel
theorem dX12_mayStrike_20 : decode cX12_mayStrike 20 = .ok (.getfield 51, 3) := by decide +kernel
theorem dX12_mayStrike_23 : decode cX12_mayStrike 23 = .ok (.iload 4, 2) := by decide +kernel
theorem dX12_mayStrike_25 : decode cX12_mayStrike 25 = .ok (.iaload, 1) := by decide +kernel
theorem dX12_mayStrike_26 : decode cX12_mayStrike 26 = .ok (.bipush 110, 2) := by decide +kernel
theorem dX12_mayStrike_28 : decode cX12_mayStrike 28 = .ok (.if_icmp .ne 27, 3) := by decide +kernel
theorem dX12_mayStrike_31 : decode cX12_mayStrike 31 = .ok (.aload_n 0, 1) := by decide +kernel
theorem dX12_mayStrike_32 : decode cX12_mayStrike 32 = .ok (.aload_n 0, 1) := by decide +kernel
theorem dX12_mayStrike_33 : decode cX12_mayStrike 33 = .ok (.getfield 57, 3) := by decide +kernel
theorem dX12_mayStrike_36 : decode cX12_mayStrike 36 = .ok (.iload 4, 2) := by decide +kernel
theorem dX12_mayStrike_38 : decode cX12_mayStrike 38 = .ok (.iaload, 1) := by decide +kernel
theorem dX12_mayStrike_39 : decode cX12_mayStrike 39 = .ok (.aload_n 0, 1) := by decide +kernel
theorem dX12_mayStrike_40 : decode cX12_mayStrike 40 = .ok (.getfield 60, 3) := by decide +kernel
theorem dX12_mayStrike_43 : decode cX12_mayStrike 43 = .ok (.iload 4, 2) := by decide +kernel
theorem dX12_mayStrike_45 : decode cX12_mayStrike 45 = .ok (.iaload, 1) := by decide +kernel
theorem dX12_mayStrike_46 : decode cX12_mayStrike 46 = .ok (.invokevirtual 294, 3) := by decide +kernel
theorem dX12_mayStrike_49 : decode cX12_mayStrike 49 = .ok (.iconst 1, 1) := by decide +kernel
theorem dX12_mayStrike_50 : decode cX12_mayStrike 50 = .ok (.if_icmp .ne 5, 3) := by decide +kernel
theorem dX12_mayStrike_53 : decode cX12_mayStrike 53 = .ok (.iconst 0, 1) := by decide +kernel
theorem dX12_mayStrike_54 : decode cX12_mayStrike 54 = .ok (.ireturn, 1) := by decide +kernel
theorem dX12_mayStrike_55 : decode cX12_mayStrike 55 = .ok (.iinc 4 1, 3) := by decide +kernel
theorem dX12_mayStrike_58 : decode cX12_mayStrike 58 = .ok (.goto (-48), 3) := by decide +kernel
theorem dX12_mayStrike_61 : decode cX12_mayStrike 61 = .ok (.iconst 1, 1) := by decide +kernel
theorem dX12_mayStrike_62 : decode cX12_mayStrike 62 = .ok (.ireturn, 1) := by decide +kernel
theorem dX12_nextOf_0 : decode cX12_nextOf 0 = .ok (.iload_n 1, 1) := by decide +kernel
theorem dX12_nextOf_1 : decode cX12_nextOf 1 = .ok (.aload_n 0, 1) := by decide +kernel
theorem dX12_nextOf_2 : decode cX12_nextOf 2 = .ok (.getfield 369, 3) := by decide +kernel
theorem dX12_nextOf_5 : decode cX12_nextOf 5 = .ok (.if_icmp .lt 5, 3) := by decide +kernel
theorem dX12_nextOf_8 : decode cX12_nextOf 8 = .ok (.iconst 0, 1) := by decide +kernel
theorem dX12_nextOf_9 : decode cX12_nextOf 9 = .ok (.ireturn, 1) := by decide +kernel
theorem dX12_nextOf_10 : decode cX12_nextOf 10 = .ok (.iload_n 2, 1) := by decide +kernel
theorem dX12_nextOf_11 : decode cX12_nextOf 11 = .ok (.istore 4, 2) := by decide +kernel
theorem dX12_nextOf_13 : decode cX12_nextOf 13 = .ok (.iload 4, 2) := by decide +kernel
theorem dX12_nextOf_15 : decode cX12_nextOf 15 = .ok (.aload_n 0, 1) := by decide +kernel
theorem dX12_nextOf_16 : decode cX12_nextOf 16 = .ok (.iload_n 1, 1) := by decide +kernel
theorem dX12_nextOf_17 : decode cX12_nextOf 17 = .ok (.invokevirtual 372, 3) := by decide +kernel
theorem dX12_nextOf_20 : decode cX12_nextOf 20 = .ok (.if_icmp .ge 23, 3) := by decide +kernel
theorem dX12_nextOf_23 : decode cX12_nextOf 23 = .ok (.aload_n 0, 1) := by decide +kernel
theorem dX12_nextOf_24 : decode cX12_nextOf 24 = .ok (.iload_n 1, 1) := by decide +kernel
theorem dX12_nextOf_25 : decode cX12_nextOf 25 = .ok (.iload 4, 2) := by decide +kernel
theorem dX12_nextOf_27 : decode cX12_nextOf 27 = .ok (.invokevirtual 375, 3) := by decide +kernel
theorem dX12_nextOf_30 : decode cX12_nextOf 30 = .ok (.iload_n 3, 1) := by decide +kernel
theorem dX12_nextOf_31 : decode cX12_nextOf 31 = .ok (.if_icmp .ne 6, 3) := by decide +kernel
theorem dX12_nextOf_34 : decode cX12_nextOf 34 = .ok (.iload 4, 2) := by decide +kernel
theorem dX12_nextOf_36 : decode cX12_nextOf 36 = .ok (.ireturn, 1) := by decide +kernel
theorem dX12_nextOf_37 : decode cX12_nextOf 37 = .ok (.iinc 4 1, 3) := by decide +kernel
theorem dX12_nextOf_40 : decode cX12_nextOf 40 = .ok (.goto (-27), 3) := by decide +kernel
theorem dX12_nextOf_43 : decode cX12_nextOf 43 = .ok (.iconst (-1), 1) := by decide +kernel
theorem dX12_nextOf_44 : decode cX12_nextOf 44 = .ok (.ireturn, 1) := by decide +kernel
theorem dX12_nextShort_0 : decode cX12_nextShort 0 = .ok (.aload_n 0, 1) := by decide +kernel
theorem dX12_nextShort_1 : decode cX12_nextShort 1 = .ok (.getfield 118, 3) := by decide +kernel
theorem dX12_nextShort_4 : decode cX12_nextShort 4 = .ok (.iconst 0, 1) := by decide +kernel
theorem dX12_nextShort_5 : decode cX12_nextShort 5 = .ok (.iaload, 1) := by decide +kernel
theorem dX12_nextShort_6 : decode cX12_nextShort 6 = .ok (.aload_n 0, 1) := by decide +kernel
theorem dX12_nextShort_7 : decode cX12_nextShort 7 = .ok (.getfield 118, 3) := by decide +kernel
theorem dX12_nextShort_10 : decode cX12_nextShort 10 = .ok (.iconst 1, 1) := by decide +kernel
theorem dX12_nextShort_11 : decode cX12_nextShort 11 = .ok (.iaload, 1) := by decide +kernel
theorem dX12_nextShort_12 : decode cX12_nextShort 12 = .ok (.aload_n 0, 1) := by decide +kernel
theorem dX12_nextShort_13 : decode cX12_nextShort 13 = .ok (.getfield 118, 3) := by decide +kernel
theorem dX12_nextShort_16 : decode cX12_nextShort 16 = .ok (.iconst 2, 1) := by decide +kernel
theorem dX12_nextShort_17 : decode cX12_nextShort 17 = .ok (.iaload, 1) := by decide +kernel
theorem dX12_nextShort_18 : decode cX12_nextShort 18 = .ok (.aload_n 0, 1) := by decide +kernel
theorem dX12_nextShort_19 : decode cX12_nextShort 19 = .ok (.getfield 118, 3) := by decide +kernel
theorem dX12_nextShort_22 : decode cX12_nextShort 22 = .ok (.iconst 3, 1) := by decide +kernel
theorem dX12_nextShort_23 : decode cX12_nextShort 23 = .ok (.iaload, 1) := by decide +kernel
theorem dX12_nextShort_24 : decode cX12_nextShort 24 = .ok (.invokestatic 397, 3) := by decide +kernel
theorem dX12_nextShort_27 : decode cX12_nextShort 27 = .ok (.ireturn, 1) := by decide +kernel
theorem dX12_notes_0 : decode cX12_notes 0 = .ok (.aload_n 0, 1) := by decide +kernel
theorem dX12_notes_1 : decode cX12_notes 1 = .ok (.getfield 30, 3) := by decide +kernel
theorem dX12_notes_4 : decode cX12_notes 4 = .ok (.aload_n 0, 1) := by decide +kernel
theorem dX12_notes_5 : decode cX12_notes 5 = .ok (.getfield 211, 3) := by decide +kernel
theorem dX12_notes_8 : decode cX12_notes 8 = .ok (.ldc 214, 2) := by decide +kernel
theorem dX12_notes_10 : decode cX12_notes 10 = .ok (.iload_n 1, 1) := by decide +kernel
theorem dX12_notes_11 : decode cX12_notes 11 = .ok (.imul, 1) := by decide +kernel
theorem dX12_notes_12 : decode cX12_notes 12 = .ok (.iload_n 2, 1) := by decide +kernel
theorem dX12_notes_13 : decode cX12_notes 13 = .ok (.iadd, 1) := by decide +kernel
theorem dX12_notes_14 : decode cX12_notes 14 = .ok (.iastore, 1) := by decide +kernel
theorem dX12_notes_15 : decode cX12_notes 15 = .ok (.aload_n 0, 1) := by decide +kernel
theorem dX12_notes_16 : decode cX12_notes 16 = .ok (.aload_n 0, 1) := by decide +kernel
theorem dX12_notes_17 : decode cX12_notes 17 = .ok (.getfield 211, 3) := by decide +kernel
theorem dX12_notes_20 : decode cX12_notes 20 = .ok (.iconst 1, 1) := by decide +kernel
theorem dX12_notes_21 : decode cX12_notes 21 = .ok (.iadd, 1) := by decide +kernel
theorem dX12_notes_22 : decode cX12_notes 22 = .ok (.putfield 211, 3) := by decide +kernel
theorem dX12_notes_25 : decode cX12_notes 25 = .ok (.return_, 1) := by decide +kernel
theorem dX12_numberAt_0 : decode cX12_numberAt 0 = .ok (.iload_n 2, 1) := by decide +kernel
theorem dX12_numberAt_1 : decode cX12_numberAt 1 = .ok (.istore_n 3, 1) := by decide +kernel
theorem dX12_numberAt_2 : decode cX12_numberAt 2 = .ok (.iconst 0, 1) := by decide +kernel
theorem dX12_numberAt_3 : decode cX12_numberAt 3 = .ok (.istore 4, 2) := by decide +kernel
theorem dX12_numberAt_5 : decode cX12_numberAt 5 = .ok (.aload_n 0, 1) := by decide +kernel
theorem dX12_numberAt_6 : decode cX12_numberAt 6 = .ok (.getfield 22, 3) := by decide +kernel
theorem dX12_numberAt_9 : decode cX12_numberAt 9 = .ok (.bipush 40, 2) := by decide +kernel
theorem dX12_numberAt_11 : decode cX12_numberAt 11 = .ok (.iload_n 1, 1) := by decide +kernel
theorem dX12_numberAt_12 : decode cX12_numberAt 12 = .ok (.imul, 1) := by decide +kernel
theorem dX12_numberAt_13 : decode cX12_numberAt 13 = .ok (.iload 4, 2) := by decide +kernel
theorem dX12_numberAt_15 : decode cX12_numberAt 15 = .ok (.iadd, 1) := by decide +kernel
theorem dX12_numberAt_16 : decode cX12_numberAt 16 = .ok (.baload, 1) := by decide +kernel
theorem dX12_numberAt_17 : decode cX12_numberAt 17 = .ok (.ifCond .ne 7, 3) := by decide +kernel
theorem dX12_numberAt_20 : decode cX12_numberAt 20 = .ok (.iload_n 3, 1) := by decide +kernel
theorem dX12_numberAt_21 : decode cX12_numberAt 21 = .ok (.ifCond .le 35, 3) := by decide +kernel
theorem dX12_numberAt_24 : decode cX12_numberAt 24 = .ok (.aload_n 0, 1) := by decide +kernel
theorem dX12_numberAt_25 : decode cX12_numberAt 25 = .ok (.getfield 22, 3) := by decide +kernel
theorem dX12_numberAt_28 : decode cX12_numberAt 28 = .ok (.bipush 40, 2) := by decide +kernel
theorem dX12_numberAt_30 : decode cX12_numberAt 30 = .ok (.iload_n 1, 1) := by decide +kernel
theorem dX12_numberAt_31 : decode cX12_numberAt 31 = .ok (.imul, 1) := by decide +kernel
theorem dX12_numberAt_32 : decode cX12_numberAt 32 = .ok (.iload 4, 2) := by decide +kernel
theorem dX12_numberAt_34 : decode cX12_numberAt 34 = .ok (.iadd, 1) := by decide +kernel
theorem dX12_numberAt_35 : decode cX12_numberAt 35 = .ok (.baload, 1) := by decide +kernel
theorem dX12_numberAt_36 : decode cX12_numberAt 36 = .ok (.ifCond .eq 7, 3) := by decide +kernel
theorem dX12_numberAt_39 : decode cX12_numberAt 39 = .ok (.iload_n 3, 1) := by decide +kernel
theorem dX12_numberAt_40 : decode cX12_numberAt 40 = .ok (.goto 6, 3) := by decide +kernel
theorem dX12_numberAt_43 : decode cX12_numberAt 43 = .ok (.iload_n 3, 1) := by decide +kernel
theorem dX12_numberAt_44 : decode cX12_numberAt 44 = .ok (.iconst 1, 1) := by decide +kernel
theorem dX12_numberAt_45 : decode cX12_numberAt 45 = .ok (.isub, 1) := by decide +kernel
theorem dX12_numberAt_46 : decode cX12_numberAt 46 = .ok (.istore_n 3, 1) := by decide +kernel
theorem dX12_numberAt_47 : decode cX12_numberAt 47 = .ok (.iload 4, 2) := by decide +kernel
theorem dX12_numberAt_49 : decode cX12_numberAt 49 = .ok (.iconst 1, 1) := by decide +kernel
theorem dX12_numberAt_50 : decode cX12_numberAt 50 = .ok (.iadd, 1) := by decide +kernel
theorem dX12_numberAt_51 : decode cX12_numberAt 51 = .ok (.istore 4, 2) := by decide +kernel
theorem dX12_numberAt_53 : decode cX12_numberAt 53 = .ok (.goto (-48), 3) := by decide +kernel
theorem dX12_numberAt_56 : decode cX12_numberAt 56 = .ok (.iload 4, 2) := by decide +kernel
theorem dX12_numberAt_58 : decode cX12_numberAt 58 = .ok (.ireturn, 1) := by decide +kernel
theorem dX12_opens_0 : decode cX12_opens 0 = .ok (.aload_n 0, 1) := by decide +kernel
theorem dX12_opens_1 : decode cX12_opens 1 = .ok (.getfield 215, 3) := by decide +kernel
theorem dX12_opens_4 : decode cX12_opens 4 = .ok (.bipush 6, 2) := by decide +kernel
theorem dX12_opens_6 : decode cX12_opens 6 = .ok (.if_icmp .ne 13, 3) := by decide +kernel
theorem dX12_opens_9 : decode cX12_opens 9 = .ok (.aload_n 0, 1) := by decide +kernel
theorem dX12_opens_10 : decode cX12_opens 10 = .ok (.iconst 5, 1) := by decide +kernel
theorem dX12_opens_11 : decode cX12_opens 11 = .ok (.aload_n 0, 1) := by decide +kernel
theorem dX12_opens_12 : decode cX12_opens 12 = .ok (.getfield 187, 3) := by decide +kernel
theorem dX12_opens_15 : decode cX12_opens 15 = .ok (.invokevirtual 200, 3) := by decide +kernel
theorem dX12_opens_18 : decode cX12_opens 18 = .ok (.ireturn, 1) := by decide +kernel
theorem dX12_opens_19 : decode cX12_opens 19 = .ok (.aload_n 0, 1) := by decide +kernel
theorem dX12_opens_20 : decode cX12_opens 20 = .ok (.aload_n 0, 1) := by decide +kernel
theorem dX12_opens_21 : decode cX12_opens 21 = .ok (.getfield 215, 3) := by decide +kernel
theorem dX12_opens_24 : decode cX12_opens 24 = .ok (.iconst 1, 1) := by decide +kernel
theorem dX12_opens_25 : decode cX12_opens 25 = .ok (.iadd, 1) := by decide +kernel
theorem dX12_opens_26 : decode cX12_opens 26 = .ok (.putfield 215, 3) := by decide +kernel
theorem dX12_opens_29 : decode cX12_opens 29 = .ok (.aload_n 0, 1) := by decide +kernel
theorem dX12_opens_30 : decode cX12_opens 30 = .ok (.getfield 33, 3) := by decide +kernel
theorem dX12_opens_33 : decode cX12_opens 33 = .ok (.aload_n 0, 1) := by decide +kernel
theorem dX12_opens_34 : decode cX12_opens 34 = .ok (.getfield 218, 3) := by decide +kernel
theorem dX12_opens_37 : decode cX12_opens 37 = .ok (.ldc 214, 2) := by decide +kernel
theorem dX12_opens_39 : decode cX12_opens 39 = .ok (.iload_n 1, 1) := by decide +kernel
theorem dX12_opens_40 : decode cX12_opens 40 = .ok (.imul, 1) := by decide +kernel
theorem dX12_opens_41 : decode cX12_opens 41 = .ok (.iastore, 1) := by decide +kernel
theorem dX12_opens_42 : decode cX12_opens 42 = .ok (.aload_n 0, 1) := by decide +kernel
theorem dX12_opens_43 : decode cX12_opens 43 = .ok (.aload_n 0, 1) := by decide +kernel
theorem dX12_opens_44 : decode cX12_opens 44 = .ok (.getfield 218, 3) := by decide +kernel
theorem dX12_opens_47 : decode cX12_opens 47 = .ok (.iconst 1, 1) := by decide +kernel
theorem dX12_opens_48 : decode cX12_opens 48 = .ok (.iadd, 1) := by decide +kernel
theorem dX12_opens_49 : decode cX12_opens 49 = .ok (.putfield 218, 3) := by decide +kernel
theorem dX12_opens_52 : decode cX12_opens 52 = .ok (.aload_n 0, 1) := by decide +kernel
theorem dX12_opens_53 : decode cX12_opens 53 = .ok (.aload_n 0, 1) := by decide +kernel
theorem dX12_opens_54 : decode cX12_opens 54 = .ok (.getfield 187, 3) := by decide +kernel
theorem dX12_opens_57 : decode cX12_opens 57 = .ok (.iconst 1, 1) := by decide +kernel
theorem dX12_opens_58 : decode cX12_opens 58 = .ok (.iadd, 1) := by decide +kernel
theorem dX12_opens_59 : decode cX12_opens 59 = .ok (.putfield 187, 3) := by decide +kernel
theorem dX12_opens_62 : decode cX12_opens 62 = .ok (.iconst 1, 1) := by decide +kernel
theorem dX12_opens_63 : decode cX12_opens 63 = .ok (.ireturn, 1) := by decide +kernel
theorem dX12_parentOf_0 : decode cX12_parentOf 0 = .ok (.aload_n 0, 1) := by decide +kernel
theorem dX12_parentOf_1 : decode cX12_parentOf 1 = .ok (.iload 4, 2) := by decide +kernel
theorem dX12_parentOf_3 : decode cX12_parentOf 3 = .ok (.invokevirtual 338, 3) := by decide +kernel
theorem dX12_parentOf_6 : decode cX12_parentOf 6 = .ok (.aload_n 0, 1) := by decide +kernel
theorem dX12_parentOf_7 : decode cX12_parentOf 7 = .ok (.iload_n 1, 1) := by decide +kernel
theorem dX12_parentOf_8 : decode cX12_parentOf 8 = .ok (.iconst 1, 1) := by decide +kernel
theorem dX12_parentOf_9 : decode cX12_parentOf 9 = .ok (.invokevirtual 334, 3) := by decide +kernel
theorem dX12_parentOf_12 : decode cX12_parentOf 12 = .ok (.bipush 8, 2) := by decide +kernel
theorem dX12_parentOf_14 : decode cX12_parentOf 14 = .ok (.istore 5, 2) := by decide +kernel
theorem dX12_parentOf_16 : decode cX12_parentOf 16 = .ok (.aload_n 0, 1) := by decide +kernel
theorem dX12_parentOf_17 : decode cX12_parentOf 17 = .ok (.aload_n 0, 1) := by decide +kernel
theorem dX12_parentOf_18 : decode cX12_parentOf 18 = .ok (.iload_n 3, 1) := by decide +kernel
theorem dX12_parentOf_19 : decode cX12_parentOf 19 = .ok (.invokevirtual 363, 3) := by decide +kernel
theorem dX12_parentOf_22 : decode cX12_parentOf 22 = .ok (.putfield 445, 3) := by decide +kernel
theorem dX12_parentOf_25 : decode cX12_parentOf 25 = .ok (.iconst 0, 1) := by decide +kernel
theorem dX12_parentOf_26 : decode cX12_parentOf 26 = .ok (.istore 6, 2) := by decide +kernel
theorem dX12_parentOf_28 : decode cX12_parentOf 28 = .ok (.iload 6, 2) := by decide +kernel
theorem dX12_parentOf_30 : decode cX12_parentOf 30 = .ok (.bipush 8, 2) := by decide +kernel
theorem dX12_parentOf_32 : decode cX12_parentOf 32 = .ok (.if_icmp .ge 104, 3) := by decide +kernel
theorem dX12_parentOf_35 : decode cX12_parentOf 35 = .ok (.iload_n 2, 1) := by decide +kernel
theorem dX12_parentOf_36 : decode cX12_parentOf 36 = .ok (.iload 6, 2) := by decide +kernel
theorem dX12_parentOf_38 : decode cX12_parentOf 38 = .ok (.ishr, 1) := by decide +kernel
theorem dX12_parentOf_39 : decode cX12_parentOf 39 = .ok (.iconst 1, 1) := by decide +kernel
theorem dX12_parentOf_40 : decode cX12_parentOf 40 = .ok (.iand, 1) := by decide +kernel
theorem dX12_parentOf_41 : decode cX12_parentOf 41 = .ok (.ifCond .eq 89, 3) := by decide +kernel
theorem dX12_parentOf_44 : decode cX12_parentOf 44 = .ok (.iload 6, 2) := by decide +kernel
theorem dX12_parentOf_46 : decode cX12_parentOf 46 = .ok (.iload 4, 2) := by decide +kernel
theorem dX12_parentOf_48 : decode cX12_parentOf 48 = .ok (.if_icmp .eq 82, 3) := by decide +kernel
theorem dX12_parentOf_51 : decode cX12_parentOf 51 = .ok (.aload_n 0, 1) := by decide +kernel
theorem dX12_parentOf_52 : decode cX12_parentOf 52 = .ok (.getfield 16, 3) := by decide +kernel
theorem dX12_parentOf_55 : decode cX12_parentOf 55 = .ok (.iload 6, 2) := by decide +kernel
theorem dX12_parentOf_57 : decode cX12_parentOf 57 = .ok (.iaload, 1) := by decide +kernel
theorem dX12_parentOf_58 : decode cX12_parentOf 58 = .ok (.aload_n 0, 1) := by decide +kernel
theorem dX12_parentOf_59 : decode cX12_parentOf 59 = .ok (.getfield 16, 3) := by decide +kernel
theorem dX12_parentOf_62 : decode cX12_parentOf 62 = .ok (.iload 4, 2) := by decide +kernel
theorem dX12_parentOf_64 : decode cX12_parentOf 64 = .ok (.iaload, 1) := by decide +kernel
theorem dX12_parentOf_65 : decode cX12_parentOf 65 = .ok (.if_icmp .lt 65, 3) := by decide +kernel
theorem dX12_parentOf_68 : decode cX12_parentOf 68 = .ok (.aload_n 0, 1) := by decide +kernel
theorem dX12_parentOf_69 : decode cX12_parentOf 69 = .ok (.getfield 16, 3) := by decide +kernel
theorem dX12_parentOf_72 : decode cX12_parentOf 72 = .ok (.iload 6, 2) := by decide +kernel
theorem dX12_parentOf_74 : decode cX12_parentOf 74 = .ok (.iaload, 1) := by decide +kernel
theorem dX12_parentOf_75 : decode cX12_parentOf 75 = .ok (.aload_n 0, 1) := by decide +kernel
theorem dX12_parentOf_76 : decode cX12_parentOf 76 = .ok (.getfield 16, 3) := by decide +kernel
theorem dX12_parentOf_79 : decode cX12_parentOf 79 = .ok (.iload 4, 2) := by decide +kernel
theorem dX12_parentOf_81 : decode cX12_parentOf 81 = .ok (.iaload, 1) := by decide +kernel
theorem dX12_parentOf_82 : decode cX12_parentOf 82 = .ok (.if_icmp .ne 13, 3) := by decide +kernel
theorem dX12_parentOf_85 : decode cX12_parentOf 85 = .ok (.iload 6, 2) := by decide +kernel
theorem dX12_parentOf_87 : decode cX12_parentOf 87 = .ok (.iload 4, 2) := by decide +kernel
theorem dX12_parentOf_89 : decode cX12_parentOf 89 = .ok (.if_icmp .le 6, 3) := by decide +kernel
theorem dX12_parentOf_92 : decode cX12_parentOf 92 = .ok (.goto 38, 3) := by decide +kernel
theorem dX12_parentOf_95 : decode cX12_parentOf 95 = .ok (.aload_n 0, 1) := by decide +kernel
theorem dX12_parentOf_96 : decode cX12_parentOf 96 = .ok (.iload 6, 2) := by decide +kernel
theorem dX12_parentOf_98 : decode cX12_parentOf 98 = .ok (.invokevirtual 448, 3) := by decide +kernel
theorem dX12_parentOf_101 : decode cX12_parentOf 101 = .ok (.aload_n 0, 1) := by decide +kernel
theorem dX12_parentOf_102 : decode cX12_parentOf 102 = .ok (.iload_n 3, 1) := by decide +kernel
theorem dX12_parentOf_103 : decode cX12_parentOf 103 = .ok (.invokevirtual 363, 3) := by decide +kernel
theorem dX12_parentOf_106 : decode cX12_parentOf 106 = .ok (.istore 7, 2) := by decide +kernel
theorem dX12_parentOf_108 : decode cX12_parentOf 108 = .ok (.iload 7, 2) := by decide +kernel
theorem dX12_parentOf_110 : decode cX12_parentOf 110 = .ok (.aload_n 0, 1) := by decide +kernel
theorem dX12_parentOf_111 : decode cX12_parentOf 111 = .ok (.getfield 445, 3) := by decide +kernel
theorem dX12_parentOf_114 : decode cX12_parentOf 114 = .ok (.if_icmp .lt 6, 3) := by decide +kernel
theorem dX12_parentOf_117 : decode cX12_parentOf 117 = .ok (.goto 13, 3) := by decide +kernel
theorem dX12_parentOf_120 : decode cX12_parentOf 120 = .ok (.aload_n 0, 1) := by decide +kernel
theorem dX12_parentOf_121 : decode cX12_parentOf 121 = .ok (.iload 7, 2) := by decide +kernel
theorem dX12_parentOf_123 : decode cX12_parentOf 123 = .ok (.putfield 445, 3) := by decide +kernel
theorem dX12_parentOf_126 : decode cX12_parentOf 126 = .ok (.iload 6, 2) := by decide +kernel
theorem dX12_parentOf_128 : decode cX12_parentOf 128 = .ok (.istore 5, 2) := by decide +kernel
theorem dX12_parentOf_130 : decode cX12_parentOf 130 = .ok (.iinc 6 1, 3) := by decide +kernel
theorem dX12_parentOf_133 : decode cX12_parentOf 133 = .ok (.goto (-105), 3) := by decide +kernel
theorem dX12_parentOf_136 : decode cX12_parentOf 136 = .ok (.iload 5, 2) := by decide +kernel
theorem dX12_parentOf_138 : decode cX12_parentOf 138 = .ok (.ireturn, 1) := by decide +kernel
theorem dX12_priceOf_0 : decode cX12_priceOf 0 = .ok (.aload_n 0, 1) := by decide +kernel
theorem dX12_priceOf_1 : decode cX12_priceOf 1 = .ok (.iload_n 1, 1) := by decide +kernel
theorem dX12_priceOf_2 : decode cX12_priceOf 2 = .ok (.iload_n 2, 1) := by decide +kernel
theorem dX12_priceOf_3 : decode cX12_priceOf 3 = .ok (.iload_n 3, 1) := by decide +kernel
theorem dX12_priceOf_4 : decode cX12_priceOf 4 = .ok (.invokevirtual 290, 3) := by decide +kernel
theorem dX12_priceOf_7 : decode cX12_priceOf 7 = .ok (.iconst 0, 1) := by decide +kernel
theorem dX12_priceOf_8 : decode cX12_priceOf 8 = .ok (.istore 4, 2) := by decide +kernel
theorem dX12_priceOf_10 : decode cX12_priceOf 10 = .ok (.iload 4, 2) := by decide +kernel
theorem dX12_priceOf_12 : decode cX12_priceOf 12 = .ok (.aload_n 0, 1) := by decide +kernel
theorem dX12_priceOf_13 : decode cX12_priceOf 13 = .ok (.getfield 277, 3) := by decide +kernel
theorem dX12_priceOf_16 : decode cX12_priceOf 16 = .ok (.if_icmp .ge 90, 3) := by decide +kernel
theorem dX12_priceOf_19 : decode cX12_priceOf 19 = .ok (.aload_n 0, 1) := by decide +kernel
theorem dX12_priceOf_20 : decode cX12_priceOf 20 = .ok (.getfield 51, 3) := by decide +kernel
theorem dX12_priceOf_23 : decode cX12_priceOf 23 = .ok (.iload 4, 2) := by decide +kernel
theorem dX12_priceOf_25 : decode cX12_priceOf 25 = .ok (.iaload, 1) := by decide +kernel
theorem dX12_priceOf_26 : decode cX12_priceOf 26 = .ok (.bipush 112, 2) := by decide +kernel
theorem dX12_priceOf_28 : decode cX12_priceOf 28 = .ok (.if_icmp .ne 72, 3) := by decide +kernel
theorem dX12_priceOf_31 : decode cX12_priceOf 31 = .ok (.aload_n 0, 1) := by decide +kernel
theorem dX12_priceOf_32 : decode cX12_priceOf 32 = .ok (.aload_n 0, 1) := by decide +kernel
theorem dX12_priceOf_33 : decode cX12_priceOf 33 = .ok (.getfield 57, 3) := by decide +kernel
theorem dX12_priceOf_36 : decode cX12_priceOf 36 = .ok (.iload 4, 2) := by decide +kernel
theorem dX12_priceOf_38 : decode cX12_priceOf 38 = .ok (.iaload, 1) := by decide +kernel
theorem dX12_priceOf_39 : decode cX12_priceOf 39 = .ok (.aload_n 0, 1) := by decide +kernel
theorem dX12_priceOf_40 : decode cX12_priceOf 40 = .ok (.getfield 60, 3) := by decide +kernel
theorem dX12_priceOf_43 : decode cX12_priceOf 43 = .ok (.iload 4, 2) := by decide +kernel
theorem dX12_priceOf_45 : decode cX12_priceOf 45 = .ok (.iaload, 1) := by decide +kernel
theorem dX12_priceOf_46 : decode cX12_priceOf 46 = .ok (.invokevirtual 294, 3) := by decide +kernel
theorem dX12_priceOf_49 : decode cX12_priceOf 49 = .ok (.iconst 1, 1) := by decide +kernel
theorem dX12_priceOf_50 : decode cX12_priceOf 50 = .ok (.if_icmp .eq 6, 3) := by decide +kernel
theorem dX12_priceOf_53 : decode cX12_priceOf 53 = .ok (.goto 47, 3) := by decide +kernel
theorem dX12_priceOf_56 : decode cX12_priceOf 56 = .ok (.aload_n 0, 1) := by decide +kernel
theorem dX12_priceOf_57 : decode cX12_priceOf 57 = .ok (.aload_n 0, 1) := by decide +kernel
theorem dX12_priceOf_58 : decode cX12_priceOf 58 = .ok (.getfield 54, 3) := by decide +kernel
theorem dX12_priceOf_61 : decode cX12_priceOf 61 = .ok (.iload 4, 2) := by decide +kernel
theorem dX12_priceOf_63 : decode cX12_priceOf 63 = .ok (.iaload, 1) := by decide +kernel
theorem dX12_priceOf_64 : decode cX12_priceOf 64 = .ok (.aload_n 0, 1) := by decide +kernel
theorem dX12_priceOf_65 : decode cX12_priceOf 65 = .ok (.getfield 57, 3) := by decide +kernel
theorem dX12_priceOf_68 : decode cX12_priceOf 68 = .ok (.iload 4, 2) := by decide +kernel
theorem dX12_priceOf_70 : decode cX12_priceOf 70 = .ok (.iaload, 1) := by decide +kernel
theorem dX12_priceOf_71 : decode cX12_priceOf 71 = .ok (.invokevirtual 294, 3) := by decide +kernel
theorem dX12_priceOf_74 : decode cX12_priceOf 74 = .ok (.istore 5, 2) := by decide +kernel
theorem dX12_priceOf_76 : decode cX12_priceOf 76 = .ok (.iload 5, 2) := by decide +kernel
theorem dX12_priceOf_78 : decode cX12_priceOf 78 = .ok (.ifCond .ge 7, 3) := by decide +kernel
theorem dX12_priceOf_81 : decode cX12_priceOf 81 = .ok (.iconst 0, 1) := by decide +kernel
theorem dX12_priceOf_82 : decode cX12_priceOf 82 = .ok (.goto 17, 3) := by decide +kernel
theorem dX12_priceOf_85 : decode cX12_priceOf 85 = .ok (.iload 5, 2) := by decide +kernel
theorem dX12_priceOf_87 : decode cX12_priceOf 87 = .ok (.bipush 99, 2) := by decide +kernel
theorem dX12_priceOf_89 : decode cX12_priceOf 89 = .ok (.if_icmp .le 8, 3) := by decide +kernel
theorem dX12_priceOf_92 : decode cX12_priceOf 92 = .ok (.bipush 99, 2) := by decide +kernel
theorem dX12_priceOf_94 : decode cX12_priceOf 94 = .ok (.goto 5, 3) := by decide +kernel
theorem dX12_priceOf_97 : decode cX12_priceOf 97 = .ok (.iload 5, 2) := by decide +kernel
theorem dX12_priceOf_99 : decode cX12_priceOf 99 = .ok (.ireturn, 1) := by decide +kernel
theorem dX12_priceOf_100 : decode cX12_priceOf 100 = .ok (.iinc 4 1, 3) := by decide +kernel
theorem dX12_priceOf_103 : decode cX12_priceOf 103 = .ok (.goto (-93), 3) := by decide +kernel
theorem dX12_priceOf_106 : decode cX12_priceOf 106 = .ok (.iconst 1, 1) := by decide +kernel
theorem dX12_priceOf_107 : decode cX12_priceOf 107 = .ok (.ireturn, 1) := by decide +kernel
theorem dX12_readsClause_0 : decode cX12_readsClause 0 = .ok (.aload_n 0, 1) := by decide +kernel
theorem dX12_readsClause_1 : decode cX12_readsClause 1 = .ok (.invokevirtual 193, 3) := by decide +kernel
theorem dX12_readsClause_4 : decode cX12_readsClause 4 = .ok (.istore_n 1, 1) := by decide +kernel
theorem dX12_readsClause_5 : decode cX12_readsClause 5 = .ok (.iload_n 1, 1) := by decide +kernel
theorem dX12_readsClause_6 : decode cX12_readsClause 6 = .ok (.bipush 110, 2) := by decide +kernel
theorem dX12_readsClause_8 : decode cX12_readsClause 8 = .ok (.if_icmp .eq 19, 3) := by decide +kernel
theorem dX12_readsClause_11 : decode cX12_readsClause 11 = .ok (.iload_n 1, 1) := by decide +kernel
theorem dX12_readsClause_12 : decode cX12_readsClause 12 = .ok (.bipush 112, 2) := by decide +kernel
theorem dX12_readsClause_14 : decode cX12_readsClause 14 = .ok (.if_icmp .eq 13, 3) := by decide +kernel
theorem dX12_readsClause_17 : decode cX12_readsClause 17 = .ok (.aload_n 0, 1) := by decide +kernel
theorem dX12_readsClause_18 : decode cX12_readsClause 18 = .ok (.iconst 1, 1) := by decide +kernel
theorem dX12_readsClause_19 : decode cX12_readsClause 19 = .ok (.aload_n 0, 1) := by decide +kernel
theorem dX12_readsClause_20 : decode cX12_readsClause 20 = .ok (.getfield 187, 3) := by decide +kernel
theorem dX12_readsClause_23 : decode cX12_readsClause 23 = .ok (.invokevirtual 200, 3) := by decide +kernel
theorem dX12_readsClause_26 : decode cX12_readsClause 26 = .ok (.ireturn, 1) := by decide +kernel
theorem dX12_readsClause_27 : decode cX12_readsClause 27 = .ok (.aload_n 0, 1) := by decide +kernel
theorem dX12_readsClause_28 : decode cX12_readsClause 28 = .ok (.getfield 265, 3) := by decide +kernel
theorem dX12_readsClause_31 : decode cX12_readsClause 31 = .ok (.bipush 12, 2) := by decide +kernel
theorem dX12_readsClause_33 : decode cX12_readsClause 33 = .ok (.if_icmp .ne 13, 3) := by decide +kernel
theorem dX12_readsClause_36 : decode cX12_readsClause 36 = .ok (.aload_n 0, 1) := by decide +kernel
theorem dX12_readsClause_37 : decode cX12_readsClause 37 = .ok (.iconst 4, 1) := by decide +kernel
theorem dX12_readsClause_38 : decode cX12_readsClause 38 = .ok (.aload_n 0, 1) := by decide +kernel
theorem dX12_readsClause_39 : decode cX12_readsClause 39 = .ok (.getfield 187, 3) := by decide +kernel
theorem dX12_readsClause_42 : decode cX12_readsClause 42 = .ok (.invokevirtual 200, 3) := by decide +kernel
theorem dX12_readsClause_45 : decode cX12_readsClause 45 = .ok (.ireturn, 1) := by decide +kernel
theorem dX12_readsClause_46 : decode cX12_readsClause 46 = .ok (.aload_n 0, 1) := by decide +kernel
theorem dX12_readsClause_47 : decode cX12_readsClause 47 = .ok (.getfield 36, 3) := by decide +kernel
theorem dX12_readsClause_50 : decode cX12_readsClause 50 = .ok (.aload_n 0, 1) := by decide +kernel
theorem dX12_readsClause_51 : decode cX12_readsClause 51 = .ok (.getfield 265, 3) := by decide +kernel
theorem dX12_readsClause_54 : decode cX12_readsClause 54 = .ok (.iload_n 1, 1) := by decide +kernel
theorem dX12_readsClause_55 : decode cX12_readsClause 55 = .ok (.iastore, 1) := by decide +kernel
theorem dX12_readsClause_56 : decode cX12_readsClause 56 = .ok (.aload_n 0, 1) := by decide +kernel
theorem dX12_readsClause_57 : decode cX12_readsClause 57 = .ok (.aload_n 0, 1) := by decide +kernel
theorem dX12_readsClause_58 : decode cX12_readsClause 58 = .ok (.getfield 187, 3) := by decide +kernel
theorem dX12_readsClause_61 : decode cX12_readsClause 61 = .ok (.iconst 1, 1) := by decide +kernel
theorem dX12_readsClause_62 : decode cX12_readsClause 62 = .ok (.iadd, 1) := by decide +kernel
theorem dX12_readsClause_63 : decode cX12_readsClause 63 = .ok (.putfield 187, 3) := by decide +kernel
theorem dX12_readsClause_66 : decode cX12_readsClause 66 = .ok (.aload_n 0, 1) := by decide +kernel
theorem dX12_readsClause_67 : decode cX12_readsClause 67 = .ok (.getfield 39, 3) := by decide +kernel
theorem dX12_readsClause_70 : decode cX12_readsClause 70 = .ok (.aload_n 0, 1) := by decide +kernel
theorem dX12_readsClause_71 : decode cX12_readsClause 71 = .ok (.getfield 265, 3) := by decide +kernel
theorem dX12_readsClause_74 : decode cX12_readsClause 74 = .ok (.aload_n 0, 1) := by decide +kernel
theorem dX12_readsClause_75 : decode cX12_readsClause 75 = .ok (.getfield 211, 3) := by decide +kernel
theorem dX12_readsClause_78 : decode cX12_readsClause 78 = .ok (.iastore, 1) := by decide +kernel
theorem dX12_readsClause_79 : decode cX12_readsClause 79 = .ok (.aload_n 0, 1) := by decide +kernel
theorem dX12_readsClause_80 : decode cX12_readsClause 80 = .ok (.iconst 0, 1) := by decide +kernel
theorem dX12_readsClause_81 : decode cX12_readsClause 81 = .ok (.putfield 215, 3) := by decide +kernel
theorem dX12_readsClause_84 : decode cX12_readsClause 84 = .ok (.aload_n 0, 1) := by decide +kernel
theorem dX12_readsClause_85 : decode cX12_readsClause 85 = .ok (.iconst 0, 1) := by decide +kernel
theorem dX12_readsClause_86 : decode cX12_readsClause 86 = .ok (.putfield 218, 3) := by decide +kernel
theorem dX12_readsClause_89 : decode cX12_readsClause 89 = .ok (.iload_n 1, 1) := by decide +kernel
theorem dX12_readsClause_90 : decode cX12_readsClause 90 = .ok (.bipush 112, 2) := by decide +kernel
theorem dX12_readsClause_92 : decode cX12_readsClause 92 = .ok (.if_icmp .ne 12, 3) := by decide +kernel
theorem dX12_readsClause_95 : decode cX12_readsClause 95 = .ok (.aload_n 0, 1) := by decide +kernel
theorem dX12_readsClause_96 : decode cX12_readsClause 96 = .ok (.invokevirtual 250, 3) := by decide +kernel
theorem dX12_readsClause_99 : decode cX12_readsClause 99 = .ok (.ifCond .ne 5, 3) := by decide +kernel
theorem dX12_readsClause_102 : decode cX12_readsClause 102 = .ok (.iconst 0, 1) := by decide +kernel
theorem dX12_readsClause_103 : decode cX12_readsClause 103 = .ok (.ireturn, 1) := by decide +kernel
theorem dX12_readsClause_104 : decode cX12_readsClause 104 = .ok (.aload_n 0, 1) := by decide +kernel
theorem dX12_readsClause_105 : decode cX12_readsClause 105 = .ok (.getfield 42, 3) := by decide +kernel
theorem dX12_readsClause_108 : decode cX12_readsClause 108 = .ok (.aload_n 0, 1) := by decide +kernel
theorem dX12_readsClause_109 : decode cX12_readsClause 109 = .ok (.getfield 265, 3) := by decide +kernel
theorem dX12_readsClause_112 : decode cX12_readsClause 112 = .ok (.aload_n 0, 1) := by decide +kernel
theorem dX12_readsClause_113 : decode cX12_readsClause 113 = .ok (.getfield 211, 3) := by decide +kernel
theorem dX12_readsClause_116 : decode cX12_readsClause 116 = .ok (.iastore, 1) := by decide +kernel
theorem dX12_readsClause_117 : decode cX12_readsClause 117 = .ok (.aload_n 0, 1) := by decide +kernel
theorem dX12_readsClause_118 : decode cX12_readsClause 118 = .ok (.invokevirtual 268, 3) := by decide +kernel
theorem dX12_readsClause_121 : decode cX12_readsClause 121 = .ok (.ifCond .ne 5, 3) := by decide +kernel
theorem dX12_readsClause_124 : decode cX12_readsClause 124 = .ok (.iconst 0, 1) := by decide +kernel
theorem dX12_readsClause_125 : decode cX12_readsClause 125 = .ok (.ireturn, 1) := by decide +kernel
theorem dX12_readsClause_126 : decode cX12_readsClause 126 = .ok (.aload_n 0, 1) := by decide +kernel
theorem dX12_readsClause_127 : decode cX12_readsClause 127 = .ok (.getfield 45, 3) := by decide +kernel
theorem dX12_readsClause_130 : decode cX12_readsClause 130 = .ok (.aload_n 0, 1) := by decide +kernel
theorem dX12_readsClause_131 : decode cX12_readsClause 131 = .ok (.getfield 265, 3) := by decide +kernel
theorem dX12_readsClause_134 : decode cX12_readsClause 134 = .ok (.aload_n 0, 1) := by decide +kernel
theorem dX12_readsClause_135 : decode cX12_readsClause 135 = .ok (.getfield 211, 3) := by decide +kernel
theorem dX12_readsClause_138 : decode cX12_readsClause 138 = .ok (.iastore, 1) := by decide +kernel
theorem dX12_readsClause_139 : decode cX12_readsClause 139 = .ok (.aload_n 0, 1) := by decide +kernel
theorem dX12_readsClause_140 : decode cX12_readsClause 140 = .ok (.aload_n 0, 1) := by decide +kernel
theorem dX12_readsClause_141 : decode cX12_readsClause 141 = .ok (.getfield 265, 3) := by decide +kernel
theorem dX12_readsClause_144 : decode cX12_readsClause 144 = .ok (.iconst 1, 1) := by decide +kernel
theorem dX12_readsClause_145 : decode cX12_readsClause 145 = .ok (.iadd, 1) := by decide +kernel
theorem dX12_readsClause_146 : decode cX12_readsClause 146 = .ok (.putfield 265, 3) := by decide +kernel
theorem dX12_readsClause_149 : decode cX12_readsClause 149 = .ok (.iconst 1, 1) := by decide +kernel
theorem dX12_readsClause_150 : decode cX12_readsClause 150 = .ok (.ireturn, 1) := by decide +kernel
theorem dX12_readsCompared_0 : decode cX12_readsCompared 0 = .ok (.aload_n 0, 1) := by decide +kernel
theorem dX12_readsCompared_1 : decode cX12_readsCompared 1 = .ok (.invokevirtual 250, 3) := by decide +kernel
theorem dX12_readsCompared_4 : decode cX12_readsCompared 4 = .ok (.ifCond .ne 5, 3) := by decide +kernel
theorem dX12_readsCompared_7 : decode cX12_readsCompared 7 = .ok (.iconst 0, 1) := by decide +kernel
theorem dX12_readsCompared_8 : decode cX12_readsCompared 8 = .ok (.ireturn, 1) := by decide +kernel
theorem dX12_readsCompared_9 : decode cX12_readsCompared 9 = .ok (.aload_n 0, 1) := by decide +kernel
theorem dX12_readsCompared_10 : decode cX12_readsCompared 10 = .ok (.invokevirtual 193, 3) := by decide +kernel
theorem dX12_readsCompared_13 : decode cX12_readsCompared 13 = .ok (.bipush 60, 2) := by decide +kernel
theorem dX12_readsCompared_15 : decode cX12_readsCompared 15 = .ok (.if_icmp .ne 8, 3) := by decide +kernel
theorem dX12_readsCompared_18 : decode cX12_readsCompared 18 = .ok (.bipush 7, 2) := by decide +kernel
theorem dX12_readsCompared_20 : decode cX12_readsCompared 20 = .ok (.goto 32, 3) := by decide +kernel
theorem dX12_readsCompared_23 : decode cX12_readsCompared 23 = .ok (.aload_n 0, 1) := by decide +kernel
theorem dX12_readsCompared_24 : decode cX12_readsCompared 24 = .ok (.invokevirtual 193, 3) := by decide +kernel
theorem dX12_readsCompared_27 : decode cX12_readsCompared 27 = .ok (.bipush 62, 2) := by decide +kernel
theorem dX12_readsCompared_29 : decode cX12_readsCompared 29 = .ok (.if_icmp .ne 8, 3) := by decide +kernel
theorem dX12_readsCompared_32 : decode cX12_readsCompared 32 = .ok (.bipush 8, 2) := by decide +kernel
theorem dX12_readsCompared_34 : decode cX12_readsCompared 34 = .ok (.goto 18, 3) := by decide +kernel
theorem dX12_readsCompared_37 : decode cX12_readsCompared 37 = .ok (.aload_n 0, 1) := by decide +kernel
theorem dX12_readsCompared_38 : decode cX12_readsCompared 38 = .ok (.invokevirtual 193, 3) := by decide +kernel
theorem dX12_readsCompared_41 : decode cX12_readsCompared 41 = .ok (.bipush 61, 2) := by decide +kernel
theorem dX12_readsCompared_43 : decode cX12_readsCompared 43 = .ok (.if_icmp .ne 8, 3) := by decide +kernel
theorem dX12_readsCompared_46 : decode cX12_readsCompared 46 = .ok (.bipush 9, 2) := by decide +kernel
theorem dX12_readsCompared_48 : decode cX12_readsCompared 48 = .ok (.goto 4, 3) := by decide +kernel
theorem dX12_readsCompared_51 : decode cX12_readsCompared 51 = .ok (.iconst (-1), 1) := by decide +kernel
theorem dX12_readsCompared_52 : decode cX12_readsCompared 52 = .ok (.istore_n 1, 1) := by decide +kernel
theorem dX12_readsCompared_53 : decode cX12_readsCompared 53 = .ok (.iload_n 1, 1) := by decide +kernel
theorem dX12_readsCompared_54 : decode cX12_readsCompared 54 = .ok (.iconst (-1), 1) := by decide +kernel
theorem dX12_readsCompared_55 : decode cX12_readsCompared 55 = .ok (.if_icmp .ne 13, 3) := by decide +kernel
theorem dX12_readsCompared_58 : decode cX12_readsCompared 58 = .ok (.aload_n 0, 1) := by decide +kernel
theorem dX12_readsCompared_59 : decode cX12_readsCompared 59 = .ok (.iconst 1, 1) := by decide +kernel
theorem dX12_readsCompared_60 : decode cX12_readsCompared 60 = .ok (.aload_n 0, 1) := by decide +kernel
theorem dX12_readsCompared_61 : decode cX12_readsCompared 61 = .ok (.getfield 187, 3) := by decide +kernel
theorem dX12_readsCompared_64 : decode cX12_readsCompared 64 = .ok (.invokevirtual 200, 3) := by decide +kernel
theorem dX12_readsCompared_67 : decode cX12_readsCompared 67 = .ok (.ireturn, 1) := by decide +kernel
theorem dX12_readsCompared_68 : decode cX12_readsCompared 68 = .ok (.aload_n 0, 1) := by decide +kernel
theorem dX12_readsCompared_69 : decode cX12_readsCompared 69 = .ok (.aload_n 0, 1) := by decide +kernel
theorem dX12_readsCompared_70 : decode cX12_readsCompared 70 = .ok (.getfield 187, 3) := by decide +kernel
theorem dX12_readsCompared_73 : decode cX12_readsCompared 73 = .ok (.iconst 1, 1) := by decide +kernel
theorem dX12_readsCompared_74 : decode cX12_readsCompared 74 = .ok (.iadd, 1) := by decide +kernel
theorem dX12_readsCompared_75 : decode cX12_readsCompared 75 = .ok (.putfield 187, 3) := by decide +kernel
theorem dX12_readsCompared_78 : decode cX12_readsCompared 78 = .ok (.aload_n 0, 1) := by decide +kernel
theorem dX12_readsCompared_79 : decode cX12_readsCompared 79 = .ok (.invokevirtual 250, 3) := by decide +kernel
theorem dX12_readsCompared_82 : decode cX12_readsCompared 82 = .ok (.ifCond .ne 5, 3) := by decide +kernel
theorem dX12_readsCompared_85 : decode cX12_readsCompared 85 = .ok (.iconst 0, 1) := by decide +kernel
theorem dX12_readsCompared_86 : decode cX12_readsCompared 86 = .ok (.ireturn, 1) := by decide +kernel
theorem dX12_readsCompared_87 : decode cX12_readsCompared 87 = .ok (.aload_n 0, 1) := by decide +kernel
theorem dX12_readsCompared_88 : decode cX12_readsCompared 88 = .ok (.iload_n 1, 1) := by decide +kernel
theorem dX12_readsCompared_89 : decode cX12_readsCompared 89 = .ok (.iconst 0, 1) := by decide +kernel
theorem dX12_readsCompared_90 : decode cX12_readsCompared 90 = .ok (.invokevirtual 224, 3) := by decide +kernel
theorem dX12_readsCompared_93 : decode cX12_readsCompared 93 = .ok (.aload_n 0, 1) := by decide +kernel
theorem dX12_readsCompared_94 : decode cX12_readsCompared 94 = .ok (.invokevirtual 253, 3) := by decide +kernel
theorem dX12_readsCompared_97 : decode cX12_readsCompared 97 = .ok (.iconst 1, 1) := by decide +kernel
theorem dX12_readsCompared_98 : decode cX12_readsCompared 98 = .ok (.ireturn, 1) := by decide +kernel
theorem dX12_readsCondition_0 : decode cX12_readsCondition 0 = .ok (.aload_n 0, 1) := by decide +kernel
theorem dX12_readsCondition_1 : decode cX12_readsCondition 1 = .ok (.invokevirtual 193, 3) := by decide +kernel
theorem dX12_readsCondition_4 : decode cX12_readsCondition 4 = .ok (.bipush 40, 2) := by decide +kernel
theorem dX12_readsCondition_6 : decode cX12_readsCondition 6 = .ok (.if_icmp .eq 13, 3) := by decide +kernel
theorem dX12_readsCondition_9 : decode cX12_readsCondition 9 = .ok (.aload_n 0, 1) := by decide +kernel
theorem dX12_readsCondition_10 : decode cX12_readsCondition 10 = .ok (.iconst 1, 1) := by decide +kernel
theorem dX12_readsCondition_11 : decode cX12_readsCondition 11 = .ok (.aload_n 0, 1) := by decide +kernel
theorem dX12_readsCondition_12 : decode cX12_readsCondition 12 = .ok (.getfield 187, 3) := by decide +kernel
theorem dX12_readsCondition_15 : decode cX12_readsCondition 15 = .ok (.invokevirtual 200, 3) := by decide +kernel
theorem dX12_readsCondition_18 : decode cX12_readsCondition 18 = .ok (.ireturn, 1) := by decide +kernel
theorem dX12_readsCondition_19 : decode cX12_readsCondition 19 = .ok (.aload_n 0, 1) := by decide +kernel
theorem dX12_readsCondition_20 : decode cX12_readsCondition 20 = .ok (.iconst 0, 1) := by decide +kernel
theorem dX12_readsCondition_21 : decode cX12_readsCondition 21 = .ok (.putfield 215, 3) := by decide +kernel
theorem dX12_readsCondition_24 : decode cX12_readsCondition 24 = .ok (.aload_n 0, 1) := by decide +kernel
theorem dX12_readsCondition_25 : decode cX12_readsCondition 25 = .ok (.iconst 0, 1) := by decide +kernel
theorem dX12_readsCondition_26 : decode cX12_readsCondition 26 = .ok (.putfield 218, 3) := by decide +kernel
theorem dX12_readsCondition_29 : decode cX12_readsCondition 29 = .ok (.aload_n 0, 1) := by decide +kernel
theorem dX12_readsCondition_30 : decode cX12_readsCondition 30 = .ok (.bipush 13, 2) := by decide +kernel
theorem dX12_readsCondition_32 : decode cX12_readsCondition 32 = .ok (.invokevirtual 228, 3) := by decide +kernel
theorem dX12_readsCondition_35 : decode cX12_readsCondition 35 = .ok (.ifCond .ne 5, 3) := by decide +kernel
theorem dX12_readsCondition_38 : decode cX12_readsCondition 38 = .ok (.iconst 0, 1) := by decide +kernel
theorem dX12_readsCondition_39 : decode cX12_readsCondition 39 = .ok (.ireturn, 1) := by decide +kernel
theorem dX12_readsCondition_40 : decode cX12_readsCondition 40 = .ok (.aload_n 0, 1) := by decide +kernel
theorem dX12_readsCondition_41 : decode cX12_readsCondition 41 = .ok (.invokevirtual 193, 3) := by decide +kernel
theorem dX12_readsCondition_44 : decode cX12_readsCondition 44 = .ok (.bipush 33, 2) := by decide +kernel
theorem dX12_readsCondition_46 : decode cX12_readsCondition 46 = .ok (.if_icmp .eq 12, 3) := by decide +kernel
theorem dX12_readsCondition_49 : decode cX12_readsCondition 49 = .ok (.aload_n 0, 1) := by decide +kernel
theorem dX12_readsCondition_50 : decode cX12_readsCondition 50 = .ok (.invokevirtual 193, 3) := by decide +kernel
theorem dX12_readsCondition_53 : decode cX12_readsCondition 53 = .ok (.bipush 40, 2) := by decide +kernel
theorem dX12_readsCondition_55 : decode cX12_readsCondition 55 = .ok (.if_icmp .ne 28, 3) := by decide +kernel
theorem dX12_readsCondition_58 : decode cX12_readsCondition 58 = .ok (.aload_n 0, 1) := by decide +kernel
theorem dX12_readsCondition_59 : decode cX12_readsCondition 59 = .ok (.aload_n 0, 1) := by decide +kernel
theorem dX12_readsCondition_60 : decode cX12_readsCondition 60 = .ok (.invokevirtual 193, 3) := by decide +kernel
theorem dX12_readsCondition_63 : decode cX12_readsCondition 63 = .ok (.bipush 33, 2) := by decide +kernel
theorem dX12_readsCondition_65 : decode cX12_readsCondition 65 = .ok (.if_icmp .ne 8, 3) := by decide +kernel
theorem dX12_readsCondition_68 : decode cX12_readsCondition 68 = .ok (.bipush 10, 2) := by decide +kernel
theorem dX12_readsCondition_70 : decode cX12_readsCondition 70 = .ok (.goto 5, 3) := by decide +kernel
theorem dX12_readsCondition_73 : decode cX12_readsCondition 73 = .ok (.bipush 13, 2) := by decide +kernel
theorem dX12_readsCondition_75 : decode cX12_readsCondition 75 = .ok (.invokevirtual 228, 3) := by decide +kernel
theorem dX12_readsCondition_78 : decode cX12_readsCondition 78 = .ok (.ifCond .ne (-38), 3) := by decide +kernel
theorem dX12_readsCondition_81 : decode cX12_readsCondition 81 = .ok (.iconst 0, 1) := by decide +kernel
theorem dX12_readsCondition_82 : decode cX12_readsCondition 82 = .ok (.ireturn, 1) := by decide +kernel
theorem dX12_readsCondition_83 : decode cX12_readsCondition 83 = .ok (.aload_n 0, 1) := by decide +kernel
theorem dX12_readsCondition_84 : decode cX12_readsCondition 84 = .ok (.invokevirtual 256, 3) := by decide +kernel
theorem dX12_readsCondition_87 : decode cX12_readsCondition 87 = .ok (.ifCond .ne 5, 3) := by decide +kernel
theorem dX12_readsCondition_90 : decode cX12_readsCondition 90 = .ok (.iconst 0, 1) := by decide +kernel
theorem dX12_readsCondition_91 : decode cX12_readsCondition 91 = .ok (.ireturn, 1) := by decide +kernel
theorem dX12_readsCondition_92 : decode cX12_readsCondition 92 = .ok (.aload_n 0, 1) := by decide +kernel
theorem dX12_readsCondition_93 : decode cX12_readsCondition 93 = .ok (.invokevirtual 193, 3) := by decide +kernel
theorem dX12_readsCondition_96 : decode cX12_readsCondition 96 = .ok (.bipush 41, 2) := by decide +kernel
theorem dX12_readsCondition_98 : decode cX12_readsCondition 98 = .ok (.if_icmp .ne 54, 3) := by decide +kernel
theorem dX12_readsCondition_101 : decode cX12_readsCondition 101 = .ok (.aload_n 0, 1) := by decide +kernel
theorem dX12_readsCondition_102 : decode cX12_readsCondition 102 = .ok (.iconst 1, 1) := by decide +kernel
theorem dX12_readsCondition_103 : decode cX12_readsCondition 103 = .ok (.invokevirtual 259, 3) := by decide +kernel
theorem dX12_readsCondition_106 : decode cX12_readsCondition 106 = .ok (.aload_n 0, 1) := by decide +kernel
theorem dX12_readsCondition_107 : decode cX12_readsCondition 107 = .ok (.aload_n 0, 1) := by decide +kernel
theorem dX12_readsCondition_108 : decode cX12_readsCondition 108 = .ok (.getfield 218, 3) := by decide +kernel
theorem dX12_readsCondition_111 : decode cX12_readsCondition 111 = .ok (.iconst 1, 1) := by decide +kernel
theorem dX12_readsCondition_112 : decode cX12_readsCondition 112 = .ok (.isub, 1) := by decide +kernel
theorem dX12_readsCondition_113 : decode cX12_readsCondition 113 = .ok (.putfield 218, 3) := by decide +kernel
theorem dX12_readsCondition_116 : decode cX12_readsCondition 116 = .ok (.aload_n 0, 1) := by decide +kernel
theorem dX12_readsCondition_117 : decode cX12_readsCondition 117 = .ok (.aload_n 0, 1) := by decide +kernel
theorem dX12_readsCondition_118 : decode cX12_readsCondition 118 = .ok (.getfield 215, 3) := by decide +kernel
theorem dX12_readsCondition_121 : decode cX12_readsCondition 121 = .ok (.iconst 1, 1) := by decide +kernel
theorem dX12_readsCondition_122 : decode cX12_readsCondition 122 = .ok (.isub, 1) := by decide +kernel
theorem dX12_readsCondition_123 : decode cX12_readsCondition 123 = .ok (.putfield 215, 3) := by decide +kernel
theorem dX12_readsCondition_126 : decode cX12_readsCondition 126 = .ok (.aload_n 0, 1) := by decide +kernel
theorem dX12_readsCondition_127 : decode cX12_readsCondition 127 = .ok (.aload_n 0, 1) := by decide +kernel
theorem dX12_readsCondition_128 : decode cX12_readsCondition 128 = .ok (.getfield 187, 3) := by decide +kernel
theorem dX12_readsCondition_131 : decode cX12_readsCondition 131 = .ok (.iconst 1, 1) := by decide +kernel
theorem dX12_readsCondition_132 : decode cX12_readsCondition 132 = .ok (.iadd, 1) := by decide +kernel
theorem dX12_readsCondition_133 : decode cX12_readsCondition 133 = .ok (.putfield 187, 3) := by decide +kernel
theorem dX12_readsCondition_136 : decode cX12_readsCondition 136 = .ok (.aload_n 0, 1) := by decide +kernel
theorem dX12_readsCondition_137 : decode cX12_readsCondition 137 = .ok (.getfield 218, 3) := by decide +kernel
theorem dX12_readsCondition_140 : decode cX12_readsCondition 140 = .ok (.ifCond .ne 5, 3) := by decide +kernel
theorem dX12_readsCondition_143 : decode cX12_readsCondition 143 = .ok (.iconst 1, 1) := by decide +kernel
theorem dX12_readsCondition_144 : decode cX12_readsCondition 144 = .ok (.ireturn, 1) := by decide +kernel
theorem dX12_readsCondition_145 : decode cX12_readsCondition 145 = .ok (.aload_n 0, 1) := by decide +kernel
theorem dX12_readsCondition_146 : decode cX12_readsCondition 146 = .ok (.invokevirtual 253, 3) := by decide +kernel
theorem dX12_readsCondition_149 : decode cX12_readsCondition 149 = .ok (.goto (-57), 3) := by decide +kernel
theorem dX12_readsCondition_152 : decode cX12_readsCondition 152 = .ok (.aload_n 0, 1) := by decide +kernel
theorem dX12_readsCondition_153 : decode cX12_readsCondition 153 = .ok (.invokevirtual 193, 3) := by decide +kernel
theorem dX12_readsCondition_156 : decode cX12_readsCondition 156 = .ok (.bipush 38, 2) := by decide +kernel
theorem dX12_readsCondition_158 : decode cX12_readsCondition 158 = .ok (.if_icmp .eq 22, 3) := by decide +kernel
theorem dX12_readsCondition_161 : decode cX12_readsCondition 161 = .ok (.aload_n 0, 1) := by decide +kernel
theorem dX12_readsCondition_162 : decode cX12_readsCondition 162 = .ok (.invokevirtual 193, 3) := by decide +kernel
theorem dX12_readsCondition_165 : decode cX12_readsCondition 165 = .ok (.bipush 124, 2) := by decide +kernel
theorem dX12_readsCondition_167 : decode cX12_readsCondition 167 = .ok (.if_icmp .eq 13, 3) := by decide +kernel
theorem dX12_readsCondition_170 : decode cX12_readsCondition 170 = .ok (.aload_n 0, 1) := by decide +kernel
theorem dX12_readsCondition_171 : decode cX12_readsCondition 171 = .ok (.iconst 1, 1) := by decide +kernel
theorem dX12_readsCondition_172 : decode cX12_readsCondition 172 = .ok (.aload_n 0, 1) := by decide +kernel
theorem dX12_readsCondition_173 : decode cX12_readsCondition 173 = .ok (.getfield 187, 3) := by decide +kernel
theorem dX12_readsCondition_176 : decode cX12_readsCondition 176 = .ok (.invokevirtual 200, 3) := by decide +kernel
theorem dX12_readsCondition_179 : decode cX12_readsCondition 179 = .ok (.ireturn, 1) := by decide +kernel
theorem dX12_readsCondition_180 : decode cX12_readsCondition 180 = .ok (.aload_n 0, 1) := by decide +kernel
theorem dX12_readsCondition_181 : decode cX12_readsCondition 181 = .ok (.aload_n 0, 1) := by decide +kernel
theorem dX12_readsCondition_182 : decode cX12_readsCondition 182 = .ok (.invokevirtual 193, 3) := by decide +kernel
theorem dX12_readsCondition_185 : decode cX12_readsCondition 185 = .ok (.bipush 124, 2) := by decide +kernel
theorem dX12_readsCondition_187 : decode cX12_readsCondition 187 = .ok (.if_icmp .ne 7, 3) := by decide +kernel
theorem dX12_readsCondition_190 : decode cX12_readsCondition 190 = .ok (.iconst 1, 1) := by decide +kernel
theorem dX12_readsCondition_191 : decode cX12_readsCondition 191 = .ok (.goto 4, 3) := by decide +kernel
theorem dX12_readsCondition_194 : decode cX12_readsCondition 194 = .ok (.iconst 0, 1) := by decide +kernel
theorem dX12_readsCondition_195 : decode cX12_readsCondition 195 = .ok (.invokevirtual 259, 3) := by decide +kernel
theorem dX12_readsCondition_198 : decode cX12_readsCondition 198 = .ok (.aload_n 0, 1) := by decide +kernel
theorem dX12_readsCondition_199 : decode cX12_readsCondition 199 = .ok (.aload_n 0, 1) := by decide +kernel
theorem dX12_readsCondition_200 : decode cX12_readsCondition 200 = .ok (.invokevirtual 193, 3) := by decide +kernel
theorem dX12_readsCondition_203 : decode cX12_readsCondition 203 = .ok (.bipush 38, 2) := by decide +kernel
theorem dX12_readsCondition_205 : decode cX12_readsCondition 205 = .ok (.if_icmp .ne 8, 3) := by decide +kernel
theorem dX12_readsCondition_208 : decode cX12_readsCondition 208 = .ok (.bipush 11, 2) := by decide +kernel
theorem dX12_readsCondition_210 : decode cX12_readsCondition 210 = .ok (.goto 5, 3) := by decide +kernel
theorem dX12_readsCondition_213 : decode cX12_readsCondition 213 = .ok (.bipush 12, 2) := by decide +kernel
theorem dX12_readsCondition_215 : decode cX12_readsCondition 215 = .ok (.invokevirtual 262, 3) := by decide +kernel
theorem dX12_readsCondition_218 : decode cX12_readsCondition 218 = .ok (.goto (-178), 3) := by decide +kernel
theorem dX12_readsFactor_0 : decode cX12_readsFactor 0 = .ok (.aload_n 0, 1) := by decide +kernel
theorem dX12_readsFactor_1 : decode cX12_readsFactor 1 = .ok (.invokevirtual 193, 3) := by decide +kernel
theorem dX12_readsFactor_4 : decode cX12_readsFactor 4 = .ok (.bipush 91, 2) := by decide +kernel
theorem dX12_readsFactor_6 : decode cX12_readsFactor 6 = .ok (.if_icmp .ne 14, 3) := by decide +kernel
theorem dX12_readsFactor_9 : decode cX12_readsFactor 9 = .ok (.aload_n 0, 1) := by decide +kernel
theorem dX12_readsFactor_10 : decode cX12_readsFactor 10 = .ok (.bipush 14, 2) := by decide +kernel
theorem dX12_readsFactor_12 : decode cX12_readsFactor 12 = .ok (.invokevirtual 228, 3) := by decide +kernel
theorem dX12_readsFactor_15 : decode cX12_readsFactor 15 = .ok (.ifCond .ne (-15), 3) := by decide +kernel
theorem dX12_readsFactor_18 : decode cX12_readsFactor 18 = .ok (.iconst 0, 1) := by decide +kernel
theorem dX12_readsFactor_19 : decode cX12_readsFactor 19 = .ok (.ireturn, 1) := by decide +kernel
theorem dX12_readsFactor_20 : decode cX12_readsFactor 20 = .ok (.aload_n 0, 1) := by decide +kernel
theorem dX12_readsFactor_21 : decode cX12_readsFactor 21 = .ok (.invokevirtual 207, 3) := by decide +kernel
theorem dX12_readsFactor_24 : decode cX12_readsFactor 24 = .ok (.ifCond .eq 23, 3) := by decide +kernel
theorem dX12_readsFactor_27 : decode cX12_readsFactor 27 = .ok (.aload_n 0, 1) := by decide +kernel
theorem dX12_readsFactor_28 : decode cX12_readsFactor 28 = .ok (.invokevirtual 231, 3) := by decide +kernel
theorem dX12_readsFactor_31 : decode cX12_readsFactor 31 = .ok (.ifCond .ne 5, 3) := by decide +kernel
theorem dX12_readsFactor_34 : decode cX12_readsFactor 34 = .ok (.iconst 0, 1) := by decide +kernel
theorem dX12_readsFactor_35 : decode cX12_readsFactor 35 = .ok (.ireturn, 1) := by decide +kernel
theorem dX12_readsFactor_36 : decode cX12_readsFactor 36 = .ok (.aload_n 0, 1) := by decide +kernel
theorem dX12_readsFactor_37 : decode cX12_readsFactor 37 = .ok (.iconst 0, 1) := by decide +kernel
theorem dX12_readsFactor_38 : decode cX12_readsFactor 38 = .ok (.aload_n 0, 1) := by decide +kernel
theorem dX12_readsFactor_39 : decode cX12_readsFactor 39 = .ok (.getfield 204, 3) := by decide +kernel
theorem dX12_readsFactor_42 : decode cX12_readsFactor 42 = .ok (.invokevirtual 224, 3) := by decide +kernel
theorem dX12_readsFactor_45 : decode cX12_readsFactor 45 = .ok (.iconst 1, 1) := by decide +kernel
theorem dX12_readsFactor_46 : decode cX12_readsFactor 46 = .ok (.ireturn, 1) := by decide +kernel
theorem dX12_readsFactor_47 : decode cX12_readsFactor 47 = .ok (.aload_n 0, 1) := by decide +kernel
theorem dX12_readsFactor_48 : decode cX12_readsFactor 48 = .ok (.invokevirtual 193, 3) := by decide +kernel
theorem dX12_readsFactor_51 : decode cX12_readsFactor 51 = .ok (.invokestatic 234, 3) := by decide +kernel
theorem dX12_readsFactor_54 : decode cX12_readsFactor 54 = .ok (.istore_n 1, 1) := by decide +kernel
theorem dX12_readsFactor_55 : decode cX12_readsFactor 55 = .ok (.iload_n 1, 1) := by decide +kernel
theorem dX12_readsFactor_56 : decode cX12_readsFactor 56 = .ok (.iconst (-1), 1) := by decide +kernel
theorem dX12_readsFactor_57 : decode cX12_readsFactor 57 = .ok (.if_icmp .ne 13, 3) := by decide +kernel
theorem dX12_readsFactor_60 : decode cX12_readsFactor 60 = .ok (.aload_n 0, 1) := by decide +kernel
theorem dX12_readsFactor_61 : decode cX12_readsFactor 61 = .ok (.iconst 1, 1) := by decide +kernel
theorem dX12_readsFactor_62 : decode cX12_readsFactor 62 = .ok (.aload_n 0, 1) := by decide +kernel
theorem dX12_readsFactor_63 : decode cX12_readsFactor 63 = .ok (.getfield 187, 3) := by decide +kernel
theorem dX12_readsFactor_66 : decode cX12_readsFactor 66 = .ok (.invokevirtual 200, 3) := by decide +kernel
theorem dX12_readsFactor_69 : decode cX12_readsFactor 69 = .ok (.ireturn, 1) := by decide +kernel
theorem dX12_readsFactor_70 : decode cX12_readsFactor 70 = .ok (.aload_n 0, 1) := by decide +kernel
theorem dX12_readsFactor_71 : decode cX12_readsFactor 71 = .ok (.iconst 1, 1) := by decide +kernel
theorem dX12_readsFactor_72 : decode cX12_readsFactor 72 = .ok (.iload_n 1, 1) := by decide +kernel
theorem dX12_readsFactor_73 : decode cX12_readsFactor 73 = .ok (.invokevirtual 224, 3) := by decide +kernel
theorem dX12_readsFactor_76 : decode cX12_readsFactor 76 = .ok (.aload_n 0, 1) := by decide +kernel
theorem dX12_readsFactor_77 : decode cX12_readsFactor 77 = .ok (.aload_n 0, 1) := by decide +kernel
theorem dX12_readsFactor_78 : decode cX12_readsFactor 78 = .ok (.getfield 187, 3) := by decide +kernel
theorem dX12_readsFactor_81 : decode cX12_readsFactor 81 = .ok (.iconst 1, 1) := by decide +kernel
theorem dX12_readsFactor_82 : decode cX12_readsFactor 82 = .ok (.iadd, 1) := by decide +kernel
theorem dX12_readsFactor_83 : decode cX12_readsFactor 83 = .ok (.putfield 187, 3) := by decide +kernel
theorem dX12_readsFactor_86 : decode cX12_readsFactor 86 = .ok (.iconst 1, 1) := by decide +kernel
theorem dX12_readsFactor_87 : decode cX12_readsFactor 87 = .ok (.ireturn, 1) := by decide +kernel
theorem dX12_readsNumber_0 : decode cX12_readsNumber 0 = .ok (.aload_n 0, 1) := by decide +kernel
theorem dX12_readsNumber_1 : decode cX12_readsNumber 1 = .ok (.getfield 187, 3) := by decide +kernel
theorem dX12_readsNumber_4 : decode cX12_readsNumber 4 = .ok (.istore_n 1, 1) := by decide +kernel
theorem dX12_readsNumber_5 : decode cX12_readsNumber 5 = .ok (.aload_n 0, 1) := by decide +kernel
theorem dX12_readsNumber_6 : decode cX12_readsNumber 6 = .ok (.iconst 0, 1) := by decide +kernel
theorem dX12_readsNumber_7 : decode cX12_readsNumber 7 = .ok (.putfield 204, 3) := by decide +kernel
theorem dX12_readsNumber_10 : decode cX12_readsNumber 10 = .ok (.aload_n 0, 1) := by decide +kernel
theorem dX12_readsNumber_11 : decode cX12_readsNumber 11 = .ok (.invokevirtual 207, 3) := by decide +kernel
theorem dX12_readsNumber_14 : decode cX12_readsNumber 14 = .ok (.ifCond .eq 55, 3) := by decide +kernel
theorem dX12_readsNumber_17 : decode cX12_readsNumber 17 = .ok (.aload_n 0, 1) := by decide +kernel
theorem dX12_readsNumber_18 : decode cX12_readsNumber 18 = .ok (.getfield 187, 3) := by decide +kernel
theorem dX12_readsNumber_21 : decode cX12_readsNumber 21 = .ok (.iload_n 1, 1) := by decide +kernel
theorem dX12_readsNumber_22 : decode cX12_readsNumber 22 = .ok (.iconst 5, 1) := by decide +kernel
theorem dX12_readsNumber_23 : decode cX12_readsNumber 23 = .ok (.iadd, 1) := by decide +kernel
theorem dX12_readsNumber_24 : decode cX12_readsNumber 24 = .ok (.if_icmp .ne 13, 3) := by decide +kernel
theorem dX12_readsNumber_27 : decode cX12_readsNumber 27 = .ok (.aload_n 0, 1) := by decide +kernel
theorem dX12_readsNumber_28 : decode cX12_readsNumber 28 = .ok (.iconst 2, 1) := by decide +kernel
theorem dX12_readsNumber_29 : decode cX12_readsNumber 29 = .ok (.aload_n 0, 1) := by decide +kernel
theorem dX12_readsNumber_30 : decode cX12_readsNumber 30 = .ok (.getfield 187, 3) := by decide +kernel
theorem dX12_readsNumber_33 : decode cX12_readsNumber 33 = .ok (.invokevirtual 200, 3) := by decide +kernel
theorem dX12_readsNumber_36 : decode cX12_readsNumber 36 = .ok (.ireturn, 1) := by decide +kernel
theorem dX12_readsNumber_37 : decode cX12_readsNumber 37 = .ok (.aload_n 0, 1) := by decide +kernel
theorem dX12_readsNumber_38 : decode cX12_readsNumber 38 = .ok (.bipush 10, 2) := by decide +kernel
theorem dX12_readsNumber_40 : decode cX12_readsNumber 40 = .ok (.aload_n 0, 1) := by decide +kernel
theorem dX12_readsNumber_41 : decode cX12_readsNumber 41 = .ok (.getfield 204, 3) := by decide +kernel
theorem dX12_readsNumber_44 : decode cX12_readsNumber 44 = .ok (.imul, 1) := by decide +kernel
theorem dX12_readsNumber_45 : decode cX12_readsNumber 45 = .ok (.aload_n 0, 1) := by decide +kernel
theorem dX12_readsNumber_46 : decode cX12_readsNumber 46 = .ok (.invokevirtual 193, 3) := by decide +kernel
theorem dX12_readsNumber_49 : decode cX12_readsNumber 49 = .ok (.iadd, 1) := by decide +kernel
theorem dX12_readsNumber_50 : decode cX12_readsNumber 50 = .ok (.bipush 48, 2) := by decide +kernel
theorem dX12_readsNumber_52 : decode cX12_readsNumber 52 = .ok (.isub, 1) := by decide +kernel
theorem dX12_readsNumber_53 : decode cX12_readsNumber 53 = .ok (.putfield 204, 3) := by decide +kernel
theorem dX12_readsNumber_56 : decode cX12_readsNumber 56 = .ok (.aload_n 0, 1) := by decide +kernel
theorem dX12_readsNumber_57 : decode cX12_readsNumber 57 = .ok (.aload_n 0, 1) := by decide +kernel
theorem dX12_readsNumber_58 : decode cX12_readsNumber 58 = .ok (.getfield 187, 3) := by decide +kernel
theorem dX12_readsNumber_61 : decode cX12_readsNumber 61 = .ok (.iconst 1, 1) := by decide +kernel
theorem dX12_readsNumber_62 : decode cX12_readsNumber 62 = .ok (.iadd, 1) := by decide +kernel
theorem dX12_readsNumber_63 : decode cX12_readsNumber 63 = .ok (.putfield 187, 3) := by decide +kernel
theorem dX12_readsNumber_66 : decode cX12_readsNumber 66 = .ok (.goto (-56), 3) := by decide +kernel
theorem dX12_readsNumber_69 : decode cX12_readsNumber 69 = .ok (.iconst 1, 1) := by decide +kernel
theorem dX12_readsNumber_70 : decode cX12_readsNumber 70 = .ok (.ireturn, 1) := by decide +kernel
theorem dX12_readsSum_0 : decode cX12_readsSum 0 = .ok (.aload_n 0, 1) := by decide +kernel
theorem dX12_readsSum_1 : decode cX12_readsSum 1 = .ok (.getfield 218, 3) := by decide +kernel
theorem dX12_readsSum_4 : decode cX12_readsSum 4 = .ok (.istore_n 1, 1) := by decide +kernel
theorem dX12_readsSum_5 : decode cX12_readsSum 5 = .ok (.aload_n 0, 1) := by decide +kernel
theorem dX12_readsSum_6 : decode cX12_readsSum 6 = .ok (.invokevirtual 237, 3) := by decide +kernel
theorem dX12_readsSum_9 : decode cX12_readsSum 9 = .ok (.ifCond .ne 5, 3) := by decide +kernel
theorem dX12_readsSum_12 : decode cX12_readsSum 12 = .ok (.iconst 0, 1) := by decide +kernel
theorem dX12_readsSum_13 : decode cX12_readsSum 13 = .ok (.ireturn, 1) := by decide +kernel
theorem dX12_readsSum_14 : decode cX12_readsSum 14 = .ok (.aload_n 0, 1) := by decide +kernel
theorem dX12_readsSum_15 : decode cX12_readsSum 15 = .ok (.invokevirtual 193, 3) := by decide +kernel
theorem dX12_readsSum_18 : decode cX12_readsSum 18 = .ok (.invokestatic 240, 3) := by decide +kernel
theorem dX12_readsSum_21 : decode cX12_readsSum 21 = .ok (.istore_n 2, 1) := by decide +kernel
theorem dX12_readsSum_22 : decode cX12_readsSum 22 = .ok (.iload_n 2, 1) := by decide +kernel
theorem dX12_readsSum_23 : decode cX12_readsSum 23 = .ok (.iconst (-1), 1) := by decide +kernel
theorem dX12_readsSum_24 : decode cX12_readsSum 24 = .ok (.if_icmp .eq 59, 3) := by decide +kernel
theorem dX12_readsSum_27 : decode cX12_readsSum 27 = .ok (.aload_n 0, 1) := by decide +kernel
theorem dX12_readsSum_28 : decode cX12_readsSum 28 = .ok (.iload_n 2, 1) := by decide +kernel
theorem dX12_readsSum_29 : decode cX12_readsSum 29 = .ok (.iconst 4, 1) := by decide +kernel
theorem dX12_readsSum_30 : decode cX12_readsSum 30 = .ok (.if_icmp .ge 7, 3) := by decide +kernel
theorem dX12_readsSum_33 : decode cX12_readsSum 33 = .ok (.iconst 1, 1) := by decide +kernel
theorem dX12_readsSum_34 : decode cX12_readsSum 34 = .ok (.goto 4, 3) := by decide +kernel
theorem dX12_readsSum_37 : decode cX12_readsSum 37 = .ok (.iconst 0, 1) := by decide +kernel
theorem dX12_readsSum_38 : decode cX12_readsSum 38 = .ok (.invokevirtual 243, 3) := by decide +kernel
theorem dX12_readsSum_41 : decode cX12_readsSum 41 = .ok (.aload_n 0, 1) := by decide +kernel
theorem dX12_readsSum_42 : decode cX12_readsSum 42 = .ok (.getfield 33, 3) := by decide +kernel
theorem dX12_readsSum_45 : decode cX12_readsSum 45 = .ok (.aload_n 0, 1) := by decide +kernel
theorem dX12_readsSum_46 : decode cX12_readsSum 46 = .ok (.getfield 218, 3) := by decide +kernel
theorem dX12_readsSum_49 : decode cX12_readsSum 49 = .ok (.ldc 214, 2) := by decide +kernel
theorem dX12_readsSum_51 : decode cX12_readsSum 51 = .ok (.iload_n 2, 1) := by decide +kernel
theorem dX12_readsSum_52 : decode cX12_readsSum 52 = .ok (.imul, 1) := by decide +kernel
theorem dX12_readsSum_53 : decode cX12_readsSum 53 = .ok (.iastore, 1) := by decide +kernel
theorem dX12_readsSum_54 : decode cX12_readsSum 54 = .ok (.aload_n 0, 1) := by decide +kernel
theorem dX12_readsSum_55 : decode cX12_readsSum 55 = .ok (.aload_n 0, 1) := by decide +kernel
theorem dX12_readsSum_56 : decode cX12_readsSum 56 = .ok (.getfield 218, 3) := by decide +kernel
theorem dX12_readsSum_59 : decode cX12_readsSum 59 = .ok (.iconst 1, 1) := by decide +kernel
theorem dX12_readsSum_60 : decode cX12_readsSum 60 = .ok (.iadd, 1) := by decide +kernel
theorem dX12_readsSum_61 : decode cX12_readsSum 61 = .ok (.putfield 218, 3) := by decide +kernel
theorem dX12_readsSum_64 : decode cX12_readsSum 64 = .ok (.aload_n 0, 1) := by decide +kernel
theorem dX12_readsSum_65 : decode cX12_readsSum 65 = .ok (.aload_n 0, 1) := by decide +kernel
theorem dX12_readsSum_66 : decode cX12_readsSum 66 = .ok (.getfield 187, 3) := by decide +kernel
theorem dX12_readsSum_69 : decode cX12_readsSum 69 = .ok (.iconst 1, 1) := by decide +kernel
theorem dX12_readsSum_70 : decode cX12_readsSum 70 = .ok (.iadd, 1) := by decide +kernel
theorem dX12_readsSum_71 : decode cX12_readsSum 71 = .ok (.putfield 187, 3) := by decide +kernel
theorem dX12_readsSum_74 : decode cX12_readsSum 74 = .ok (.aload_n 0, 1) := by decide +kernel
theorem dX12_readsSum_75 : decode cX12_readsSum 75 = .ok (.invokevirtual 237, 3) := by decide +kernel
theorem dX12_readsSum_78 : decode cX12_readsSum 78 = .ok (.ifCond .ne 85, 3) := by decide +kernel
theorem dX12_readsSum_81 : decode cX12_readsSum 81 = .ok (.iconst 0, 1) := by decide +kernel
theorem dX12_readsSum_82 : decode cX12_readsSum 82 = .ok (.ireturn, 1) := by decide +kernel
theorem dX12_readsSum_83 : decode cX12_readsSum 83 = .ok (.aload_n 0, 1) := by decide +kernel
theorem dX12_readsSum_84 : decode cX12_readsSum 84 = .ok (.invokevirtual 193, 3) := by decide +kernel
theorem dX12_readsSum_87 : decode cX12_readsSum 87 = .ok (.bipush 93, 2) := by decide +kernel
theorem dX12_readsSum_89 : decode cX12_readsSum 89 = .ok (.if_icmp .ne 49, 3) := by decide +kernel
theorem dX12_readsSum_92 : decode cX12_readsSum 92 = .ok (.aload_n 0, 1) := by decide +kernel
theorem dX12_readsSum_93 : decode cX12_readsSum 93 = .ok (.iload_n 1, 1) := by decide +kernel
theorem dX12_readsSum_94 : decode cX12_readsSum 94 = .ok (.invokevirtual 247, 3) := by decide +kernel
theorem dX12_readsSum_97 : decode cX12_readsSum 97 = .ok (.ifCond .eq 41, 3) := by decide +kernel
theorem dX12_readsSum_100 : decode cX12_readsSum 100 = .ok (.aload_n 0, 1) := by decide +kernel
theorem dX12_readsSum_101 : decode cX12_readsSum 101 = .ok (.iconst 1, 1) := by decide +kernel
theorem dX12_readsSum_102 : decode cX12_readsSum 102 = .ok (.invokevirtual 243, 3) := by decide +kernel
theorem dX12_readsSum_105 : decode cX12_readsSum 105 = .ok (.aload_n 0, 1) := by decide +kernel
theorem dX12_readsSum_106 : decode cX12_readsSum 106 = .ok (.aload_n 0, 1) := by decide +kernel
theorem dX12_readsSum_107 : decode cX12_readsSum 107 = .ok (.getfield 218, 3) := by decide +kernel
theorem dX12_readsSum_110 : decode cX12_readsSum 110 = .ok (.iconst 1, 1) := by decide +kernel
theorem dX12_readsSum_111 : decode cX12_readsSum 111 = .ok (.isub, 1) := by decide +kernel
theorem dX12_readsSum_112 : decode cX12_readsSum 112 = .ok (.putfield 218, 3) := by decide +kernel
theorem dX12_readsSum_115 : decode cX12_readsSum 115 = .ok (.aload_n 0, 1) := by decide +kernel
theorem dX12_readsSum_116 : decode cX12_readsSum 116 = .ok (.aload_n 0, 1) := by decide +kernel
theorem dX12_readsSum_117 : decode cX12_readsSum 117 = .ok (.getfield 215, 3) := by decide +kernel
theorem dX12_readsSum_120 : decode cX12_readsSum 120 = .ok (.iconst 1, 1) := by decide +kernel
theorem dX12_readsSum_121 : decode cX12_readsSum 121 = .ok (.isub, 1) := by decide +kernel
theorem dX12_readsSum_122 : decode cX12_readsSum 122 = .ok (.putfield 215, 3) := by decide +kernel
theorem dX12_readsSum_125 : decode cX12_readsSum 125 = .ok (.aload_n 0, 1) := by decide +kernel
theorem dX12_readsSum_126 : decode cX12_readsSum 126 = .ok (.aload_n 0, 1) := by decide +kernel
theorem dX12_readsSum_127 : decode cX12_readsSum 127 = .ok (.getfield 187, 3) := by decide +kernel
theorem dX12_readsSum_130 : decode cX12_readsSum 130 = .ok (.iconst 1, 1) := by decide +kernel
theorem dX12_readsSum_131 : decode cX12_readsSum 131 = .ok (.iadd, 1) := by decide +kernel
theorem dX12_readsSum_132 : decode cX12_readsSum 132 = .ok (.putfield 187, 3) := by decide +kernel
theorem dX12_readsSum_135 : decode cX12_readsSum 135 = .ok (.goto 28, 3) := by decide +kernel
theorem dX12_readsSum_138 : decode cX12_readsSum 138 = .ok (.aload_n 0, 1) := by decide +kernel
theorem dX12_readsSum_139 : decode cX12_readsSum 139 = .ok (.iload_n 1, 1) := by decide +kernel
theorem dX12_readsSum_140 : decode cX12_readsSum 140 = .ok (.invokevirtual 247, 3) := by decide +kernel
theorem dX12_readsSum_143 : decode cX12_readsSum 143 = .ok (.ifCond .eq 13, 3) := by decide +kernel
theorem dX12_readsSum_146 : decode cX12_readsSum 146 = .ok (.aload_n 0, 1) := by decide +kernel
theorem dX12_readsSum_147 : decode cX12_readsSum 147 = .ok (.iconst 1, 1) := by decide +kernel
theorem dX12_readsSum_148 : decode cX12_readsSum 148 = .ok (.aload_n 0, 1) := by decide +kernel
theorem dX12_readsSum_149 : decode cX12_readsSum 149 = .ok (.getfield 187, 3) := by decide +kernel
theorem dX12_readsSum_152 : decode cX12_readsSum 152 = .ok (.invokevirtual 200, 3) := by decide +kernel
theorem dX12_readsSum_155 : decode cX12_readsSum 155 = .ok (.ireturn, 1) := by decide +kernel
theorem dX12_readsSum_156 : decode cX12_readsSum 156 = .ok (.aload_n 0, 1) := by decide +kernel
theorem dX12_readsSum_157 : decode cX12_readsSum 157 = .ok (.iconst 1, 1) := by decide +kernel
theorem dX12_readsSum_158 : decode cX12_readsSum 158 = .ok (.invokevirtual 243, 3) := by decide +kernel
theorem dX12_readsSum_161 : decode cX12_readsSum 161 = .ok (.iconst 1, 1) := by decide +kernel
theorem dX12_readsSum_162 : decode cX12_readsSum 162 = .ok (.ireturn, 1) := by decide +kernel
theorem dX12_readsSum_163 : decode cX12_readsSum 163 = .ok (.goto (-149), 3) := by decide +kernel
theorem dX12_reckon_0 : decode cX12_reckon 0 = .ok (.iload_n 0, 1) := by decide +kernel
theorem dX12_reckon_1 : decode cX12_reckon 1 = .ok (.tableswitch 85 2 8 #[43, 47, 51, 55, 59, 63, 74], 43) := by decide +kernel
theorem dX12_reckon_44 : decode cX12_reckon 44 = .ok (.iload_n 1, 1) := by decide +kernel
theorem dX12_reckon_45 : decode cX12_reckon 45 = .ok (.iload_n 2, 1) := by decide +kernel
theorem dX12_reckon_46 : decode cX12_reckon 46 = .ok (.iadd, 1) := by decide +kernel
theorem dX12_reckon_47 : decode cX12_reckon 47 = .ok (.ireturn, 1) := by decide +kernel
theorem dX12_reckon_48 : decode cX12_reckon 48 = .ok (.iload_n 1, 1) := by decide +kernel
theorem dX12_reckon_49 : decode cX12_reckon 49 = .ok (.iload_n 2, 1) := by decide +kernel
theorem dX12_reckon_50 : decode cX12_reckon 50 = .ok (.isub, 1) := by decide +kernel
theorem dX12_reckon_51 : decode cX12_reckon 51 = .ok (.ireturn, 1) := by decide +kernel
theorem dX12_reckon_52 : decode cX12_reckon 52 = .ok (.iload_n 1, 1) := by decide +kernel
theorem dX12_reckon_53 : decode cX12_reckon 53 = .ok (.iload_n 2, 1) := by decide +kernel
theorem dX12_reckon_54 : decode cX12_reckon 54 = .ok (.imul, 1) := by decide +kernel
theorem dX12_reckon_55 : decode cX12_reckon 55 = .ok (.ireturn, 1) := by decide +kernel
theorem dX12_reckon_56 : decode cX12_reckon 56 = .ok (.iload_n 1, 1) := by decide +kernel
theorem dX12_reckon_57 : decode cX12_reckon 57 = .ok (.iload_n 2, 1) := by decide +kernel
theorem dX12_reckon_58 : decode cX12_reckon 58 = .ok (.idiv, 1) := by decide +kernel
theorem dX12_reckon_59 : decode cX12_reckon 59 = .ok (.ireturn, 1) := by decide +kernel
theorem dX12_reckon_60 : decode cX12_reckon 60 = .ok (.iload_n 1, 1) := by decide +kernel
theorem dX12_reckon_61 : decode cX12_reckon 61 = .ok (.iload_n 2, 1) := by decide +kernel
theorem dX12_reckon_62 : decode cX12_reckon 62 = .ok (.irem, 1) := by decide +kernel
theorem dX12_reckon_63 : decode cX12_reckon 63 = .ok (.ireturn, 1) := by decide +kernel
theorem dX12_reckon_64 : decode cX12_reckon 64 = .ok (.iload_n 1, 1) := by decide +kernel
theorem dX12_reckon_65 : decode cX12_reckon 65 = .ok (.iload_n 2, 1) := by decide +kernel
theorem dX12_reckon_66 : decode cX12_reckon 66 = .ok (.if_icmp .ge 7, 3) := by decide +kernel
theorem dX12_reckon_69 : decode cX12_reckon 69 = .ok (.iconst 1, 1) := by decide +kernel
theorem dX12_reckon_70 : decode cX12_reckon 70 = .ok (.goto 4, 3) := by decide +kernel
theorem dX12_reckon_73 : decode cX12_reckon 73 = .ok (.iconst 0, 1) := by decide +kernel
theorem dX12_reckon_74 : decode cX12_reckon 74 = .ok (.ireturn, 1) := by decide +kernel
theorem dX12_reckon_75 : decode cX12_reckon 75 = .ok (.iload_n 1, 1) := by decide +kernel
theorem dX12_reckon_76 : decode cX12_reckon 76 = .ok (.iload_n 2, 1) := by decide +kernel
theorem dX12_reckon_77 : decode cX12_reckon 77 = .ok (.if_icmp .le 7, 3) := by decide +kernel
theorem dX12_reckon_80 : decode cX12_reckon 80 = .ok (.iconst 1, 1) := by decide +kernel
theorem dX12_reckon_81 : decode cX12_reckon 81 = .ok (.goto 4, 3) := by decide +kernel
theorem dX12_reckon_84 : decode cX12_reckon 84 = .ok (.iconst 0, 1) := by decide +kernel
theorem dX12_reckon_85 : decode cX12_reckon 85 = .ok (.ireturn, 1) := by decide +kernel
theorem dX12_reckon_86 : decode cX12_reckon 86 = .ok (.iload_n 1, 1) := by decide +kernel
theorem dX12_reckon_87 : decode cX12_reckon 87 = .ok (.iload_n 2, 1) := by decide +kernel
theorem dX12_reckon_88 : decode cX12_reckon 88 = .ok (.if_icmp .ne 7, 3) := by decide +kernel
theorem dX12_reckon_91 : decode cX12_reckon 91 = .ok (.iconst 1, 1) := by decide +kernel
theorem dX12_reckon_92 : decode cX12_reckon 92 = .ok (.goto 4, 3) := by decide +kernel
theorem dX12_reckon_95 : decode cX12_reckon 95 = .ok (.iconst 0, 1) := by decide +kernel
theorem dX12_reckon_96 : decode cX12_reckon 96 = .ok (.ireturn, 1) := by decide +kernel
theorem dX12_seed_0 : decode cX12_seed 0 = .ok (.iload_n 1, 1) := by decide +kernel
theorem dX12_seed_1 : decode cX12_seed 1 = .ok (.iconst 0, 1) := by decide +kernel
theorem dX12_seed_2 : decode cX12_seed 2 = .ok (.ldc_w 463, 3) := by decide +kernel
theorem dX12_seed_5 : decode cX12_seed 5 = .ok (.invokestatic 161, 3) := by decide +kernel
theorem dX12_seed_8 : decode cX12_seed 8 = .ok (.ifCond .ne 5, 3) := by decide +kernel
theorem dX12_seed_11 : decode cX12_seed 11 = .ok (.iconst 0, 1) := by decide +kernel
theorem dX12_seed_12 : decode cX12_seed 12 = .ok (.ireturn, 1) := by decide +kernel
theorem dX12_seed_13 : decode cX12_seed 13 = .ok (.aload_n 0, 1) := by decide +kernel
theorem dX12_seed_14 : decode cX12_seed 14 = .ok (.iload_n 1, 1) := by decide +kernel
theorem dX12_seed_15 : decode cX12_seed 15 = .ok (.putfield 148, 3) := by decide +kernel
theorem dX12_seed_18 : decode cX12_seed 18 = .ok (.iconst 1, 1) := by decide +kernel
theorem dX12_seed_19 : decode cX12_seed 19 = .ok (.ireturn, 1) := by decide +kernel
theorem dX12_shortAt_0 : decode cX12_shortAt 0 = .ok (.bipush 13, 2) := by decide +kernel
theorem dX12_shortAt_2 : decode cX12_shortAt 2 = .ok (.iload_n 0, 1) := by decide +kernel
theorem dX12_shortAt_3 : decode cX12_shortAt 3 = .ok (.imul, 1) := by decide +kernel
theorem dX12_shortAt_4 : decode cX12_shortAt 4 = .ok (.iload_n 1, 1) := by decide +kernel
theorem dX12_shortAt_5 : decode cX12_shortAt 5 = .ok (.iadd, 1) := by decide +kernel
theorem dX12_shortAt_6 : decode cX12_shortAt 6 = .ok (.bipush 13, 2) := by decide +kernel
theorem dX12_shortAt_8 : decode cX12_shortAt 8 = .ok (.imul, 1) := by decide +kernel
theorem dX12_shortAt_9 : decode cX12_shortAt 9 = .ok (.iload_n 2, 1) := by decide +kernel
theorem dX12_shortAt_10 : decode cX12_shortAt 10 = .ok (.iadd, 1) := by decide +kernel
theorem dX12_shortAt_11 : decode cX12_shortAt 11 = .ok (.bipush 13, 2) := by decide +kernel
theorem dX12_shortAt_13 : decode cX12_shortAt 13 = .ok (.imul, 1) := by decide +kernel
theorem dX12_shortAt_14 : decode cX12_shortAt 14 = .ok (.iload_n 3, 1) := by decide +kernel
theorem dX12_shortAt_15 : decode cX12_shortAt 15 = .ok (.iadd, 1) := by decide +kernel
theorem dX12_shortAt_16 : decode cX12_shortAt 16 = .ok (.ireturn, 1) := by decide +kernel
theorem dX12_shortest_0 : decode cX12_shortest 0 = .ok (.aload_n 0, 1) := by decide +kernel
theorem dX12_shortest_1 : decode cX12_shortest 1 = .ok (.iload_n 1, 1) := by decide +kernel
theorem dX12_shortest_2 : decode cX12_shortest 2 = .ok (.iconst 2, 1) := by decide +kernel
theorem dX12_shortest_3 : decode cX12_shortest 3 = .ok (.iconst 4, 1) := by decide +kernel
theorem dX12_shortest_4 : decode cX12_shortest 4 = .ok (.invokevirtual 391, 3) := by decide +kernel
theorem dX12_shortest_7 : decode cX12_shortest 7 = .ok (.ifCond .eq 8, 3) := by decide +kernel
theorem dX12_shortest_10 : decode cX12_shortest 10 = .ok (.iload_n 2, 1) := by decide +kernel
theorem dX12_shortest_11 : decode cX12_shortest 11 = .ok (.iconst (-1), 1) := by decide +kernel
theorem dX12_shortest_12 : decode cX12_shortest 12 = .ok (.if_icmp .ge 5, 3) := by decide +kernel
theorem dX12_shortest_15 : decode cX12_shortest 15 = .ok (.iconst (-1), 1) := by decide +kernel
theorem dX12_shortest_16 : decode cX12_shortest 16 = .ok (.ireturn, 1) := by decide +kernel
theorem dX12_shortest_17 : decode cX12_shortest 17 = .ok (.aload_n 0, 1) := by decide +kernel
theorem dX12_shortest_18 : decode cX12_shortest 18 = .ok (.invokevirtual 409, 3) := by decide +kernel
theorem dX12_shortest_21 : decode cX12_shortest 21 = .ok (.ifCond .eq 6, 3) := by decide +kernel
theorem dX12_shortest_24 : decode cX12_shortest 24 = .ok (.bipush (-2), 2) := by decide +kernel
theorem dX12_shortest_26 : decode cX12_shortest 26 = .ok (.ireturn, 1) := by decide +kernel
theorem dX12_shortest_27 : decode cX12_shortest 27 = .ok (.aload_n 0, 1) := by decide +kernel
theorem dX12_shortest_28 : decode cX12_shortest 28 = .ok (.invokevirtual 412, 3) := by decide +kernel
theorem dX12_shortest_31 : decode cX12_shortest 31 = .ok (.aload_n 0, 1) := by decide +kernel
theorem dX12_shortest_32 : decode cX12_shortest 32 = .ok (.getfield 130, 3) := by decide +kernel
theorem dX12_shortest_35 : decode cX12_shortest 35 = .ok (.iconst 0, 1) := by decide +kernel
theorem dX12_shortest_36 : decode cX12_shortest 36 = .ok (.iaload, 1) := by decide +kernel
theorem dX12_shortest_37 : decode cX12_shortest 37 = .ok (.istore_n 3, 1) := by decide +kernel
theorem dX12_shortest_38 : decode cX12_shortest 38 = .ok (.iload_n 2, 1) := by decide +kernel
theorem dX12_shortest_39 : decode cX12_shortest 39 = .ok (.iconst (-1), 1) := by decide +kernel
theorem dX12_shortest_40 : decode cX12_shortest 40 = .ok (.if_icmp .ne 5, 3) := by decide +kernel
theorem dX12_shortest_43 : decode cX12_shortest 43 = .ok (.iload_n 3, 1) := by decide +kernel
theorem dX12_shortest_44 : decode cX12_shortest 44 = .ok (.ireturn, 1) := by decide +kernel
theorem dX12_shortest_45 : decode cX12_shortest 45 = .ok (.iload_n 2, 1) := by decide +kernel
theorem dX12_shortest_46 : decode cX12_shortest 46 = .ok (.iload_n 3, 1) := by decide +kernel
theorem dX12_shortest_47 : decode cX12_shortest 47 = .ok (.if_icmp .lt 5, 3) := by decide +kernel
theorem dX12_shortest_50 : decode cX12_shortest 50 = .ok (.iconst (-1), 1) := by decide +kernel
theorem dX12_shortest_51 : decode cX12_shortest 51 = .ok (.ireturn, 1) := by decide +kernel
theorem dX12_shortest_52 : decode cX12_shortest 52 = .ok (.iconst 0, 1) := by decide +kernel
theorem dX12_shortest_53 : decode cX12_shortest 53 = .ok (.istore 4, 2) := by decide +kernel
theorem dX12_shortest_55 : decode cX12_shortest 55 = .ok (.iload 4, 2) := by decide +kernel
theorem dX12_shortest_57 : decode cX12_shortest 57 = .ok (.iconst 4, 1) := by decide +kernel
theorem dX12_shortest_58 : decode cX12_shortest 58 = .ok (.if_icmp .ge 17, 3) := by decide +kernel
theorem dX12_shortest_61 : decode cX12_shortest 61 = .ok (.aload_n 0, 1) := by decide +kernel
theorem dX12_shortest_62 : decode cX12_shortest 62 = .ok (.getfield 115, 3) := by decide +kernel
theorem dX12_shortest_65 : decode cX12_shortest 65 = .ok (.iload 4, 2) := by decide +kernel
theorem dX12_shortest_67 : decode cX12_shortest 67 = .ok (.iconst 0, 1) := by decide +kernel
theorem dX12_shortest_68 : decode cX12_shortest 68 = .ok (.iastore, 1) := by decide +kernel
theorem dX12_shortest_69 : decode cX12_shortest 69 = .ok (.iinc 4 1, 3) := by decide +kernel
theorem dX12_shortest_72 : decode cX12_shortest 72 = .ok (.goto (-17), 3) := by decide +kernel
theorem dX12_shortest_75 : decode cX12_shortest 75 = .ok (.iconst 0, 1) := by decide +kernel
theorem dX12_shortest_76 : decode cX12_shortest 76 = .ok (.istore 4, 2) := by decide +kernel
theorem dX12_shortest_78 : decode cX12_shortest 78 = .ok (.iconst 0, 1) := by decide +kernel
theorem dX12_shortest_79 : decode cX12_shortest 79 = .ok (.istore 5, 2) := by decide +kernel
theorem dX12_shortest_81 : decode cX12_shortest 81 = .ok (.aload_n 0, 1) := by decide +kernel
theorem dX12_shortest_82 : decode cX12_shortest 82 = .ok (.iload 5, 2) := by decide +kernel
theorem dX12_shortest_84 : decode cX12_shortest 84 = .ok (.invokevirtual 400, 3) := by decide +kernel
theorem dX12_shortest_87 : decode cX12_shortest 87 = .ok (.ifCond .eq 21, 3) := by decide +kernel
theorem dX12_shortest_90 : decode cX12_shortest 90 = .ok (.aload_n 0, 1) := by decide +kernel
theorem dX12_shortest_91 : decode cX12_shortest 91 = .ok (.getfield 130, 3) := by decide +kernel
theorem dX12_shortest_94 : decode cX12_shortest 94 = .ok (.aload_n 0, 1) := by decide +kernel
theorem dX12_shortest_95 : decode cX12_shortest 95 = .ok (.invokevirtual 403, 3) := by decide +kernel
theorem dX12_shortest_98 : decode cX12_shortest 98 = .ok (.iaload, 1) := by decide +kernel
theorem dX12_shortest_99 : decode cX12_shortest 99 = .ok (.iload_n 3, 1) := by decide +kernel
theorem dX12_shortest_100 : decode cX12_shortest 100 = .ok (.iload 4, 2) := by decide +kernel
theorem dX12_shortest_102 : decode cX12_shortest 102 = .ok (.isub, 1) := by decide +kernel
theorem dX12_shortest_103 : decode cX12_shortest 103 = .ok (.iconst 1, 1) := by decide +kernel
theorem dX12_shortest_104 : decode cX12_shortest 104 = .ok (.isub, 1) := by decide +kernel
theorem dX12_shortest_105 : decode cX12_shortest 105 = .ok (.if_icmp .eq 12, 3) := by decide +kernel
theorem dX12_shortest_108 : decode cX12_shortest 108 = .ok (.iload 5, 2) := by decide +kernel
theorem dX12_shortest_110 : decode cX12_shortest 110 = .ok (.iconst 1, 1) := by decide +kernel
theorem dX12_shortest_111 : decode cX12_shortest 111 = .ok (.iadd, 1) := by decide +kernel
theorem dX12_shortest_112 : decode cX12_shortest 112 = .ok (.istore 5, 2) := by decide +kernel
theorem dX12_shortest_114 : decode cX12_shortest 114 = .ok (.goto (-33), 3) := by decide +kernel
theorem dX12_shortest_117 : decode cX12_shortest 117 = .ok (.iload 4, 2) := by decide +kernel
theorem dX12_shortest_119 : decode cX12_shortest 119 = .ok (.iload_n 2, 1) := by decide +kernel
theorem dX12_shortest_120 : decode cX12_shortest 120 = .ok (.if_icmp .ne 6, 3) := by decide +kernel
theorem dX12_shortest_123 : decode cX12_shortest 123 = .ok (.iload 5, 2) := by decide +kernel
theorem dX12_shortest_125 : decode cX12_shortest 125 = .ok (.ireturn, 1) := by decide +kernel
theorem dX12_shortest_126 : decode cX12_shortest 126 = .ok (.iconst 0, 1) := by decide +kernel
theorem dX12_shortest_127 : decode cX12_shortest 127 = .ok (.istore 6, 2) := by decide +kernel
theorem dX12_shortest_129 : decode cX12_shortest 129 = .ok (.iload 6, 2) := by decide +kernel
theorem dX12_shortest_131 : decode cX12_shortest 131 = .ok (.iconst 4, 1) := by decide +kernel
theorem dX12_shortest_132 : decode cX12_shortest 132 = .ok (.if_icmp .ge 23, 3) := by decide +kernel
theorem dX12_shortest_135 : decode cX12_shortest 135 = .ok (.aload_n 0, 1) := by decide +kernel
theorem dX12_shortest_136 : decode cX12_shortest 136 = .ok (.getfield 115, 3) := by decide +kernel
theorem dX12_shortest_139 : decode cX12_shortest 139 = .ok (.iload 6, 2) := by decide +kernel
theorem dX12_shortest_141 : decode cX12_shortest 141 = .ok (.aload_n 0, 1) := by decide +kernel
theorem dX12_shortest_142 : decode cX12_shortest 142 = .ok (.getfield 118, 3) := by decide +kernel
theorem dX12_shortest_145 : decode cX12_shortest 145 = .ok (.iload 6, 2) := by decide +kernel
theorem dX12_shortest_147 : decode cX12_shortest 147 = .ok (.iaload, 1) := by decide +kernel
theorem dX12_shortest_148 : decode cX12_shortest 148 = .ok (.iastore, 1) := by decide +kernel
theorem dX12_shortest_149 : decode cX12_shortest 149 = .ok (.iinc 6 1, 3) := by decide +kernel
theorem dX12_shortest_152 : decode cX12_shortest 152 = .ok (.goto (-23), 3) := by decide +kernel
theorem dX12_shortest_155 : decode cX12_shortest 155 = .ok (.iinc 4 1, 3) := by decide +kernel
theorem dX12_shortest_158 : decode cX12_shortest 158 = .ok (.goto (-80), 3) := by decide +kernel
theorem dX12_shortestMany_0 : decode cX12_shortestMany 0 = .ok (.aload_n 0, 1) := by decide +kernel
theorem dX12_shortestMany_1 : decode cX12_shortestMany 1 = .ok (.iload_n 1, 1) := by decide +kernel
theorem dX12_shortestMany_2 : decode cX12_shortestMany 2 = .ok (.iconst 2, 1) := by decide +kernel
theorem dX12_shortestMany_3 : decode cX12_shortestMany 3 = .ok (.iconst 4, 1) := by decide +kernel
theorem dX12_shortestMany_4 : decode cX12_shortestMany 4 = .ok (.invokevirtual 391, 3) := by decide +kernel
theorem dX12_shortestMany_7 : decode cX12_shortestMany 7 = .ok (.ifCond .ne 7, 3) := by decide +kernel
theorem dX12_shortestMany_10 : decode cX12_shortestMany 10 = .ok (.ldc2_w 332, 3) := by decide +kernel
theorem dX12_shortestMany_13 : decode cX12_shortestMany 13 = .ok (.lreturn, 1) := by decide +kernel
theorem dX12_shortestMany_14 : decode cX12_shortestMany 14 = .ok (.aload_n 0, 1) := by decide +kernel
theorem dX12_shortestMany_15 : decode cX12_shortestMany 15 = .ok (.invokevirtual 409, 3) := by decide +kernel
theorem dX12_shortestMany_18 : decode cX12_shortestMany 18 = .ok (.ifCond .eq 7, 3) := by decide +kernel
theorem dX12_shortestMany_21 : decode cX12_shortestMany 21 = .ok (.ldc2_w 415, 3) := by decide +kernel
theorem dX12_shortestMany_24 : decode cX12_shortestMany 24 = .ok (.lreturn, 1) := by decide +kernel
theorem dX12_shortestMany_25 : decode cX12_shortestMany 25 = .ok (.aload_n 0, 1) := by decide +kernel
theorem dX12_shortestMany_26 : decode cX12_shortestMany 26 = .ok (.invokevirtual 412, 3) := by decide +kernel
theorem dX12_shortestMany_29 : decode cX12_shortestMany 29 = .ok (.aload_n 0, 1) := by decide +kernel
theorem dX12_shortestMany_30 : decode cX12_shortestMany 30 = .ok (.getfield 133, 3) := by decide +kernel
theorem dX12_shortestMany_33 : decode cX12_shortestMany 33 = .ok (.iconst 0, 1) := by decide +kernel
theorem dX12_shortestMany_34 : decode cX12_shortestMany 34 = .ok (.laload, 1) := by decide +kernel
theorem dX12_shortestMany_35 : decode cX12_shortestMany 35 = .ok (.lreturn, 1) := by decide +kernel
theorem dX12_spare_0 : decode cX12_spare 0 = .ok (.aload_n 0, 1) := by decide +kernel
theorem dX12_spare_1 : decode cX12_spare 1 = .ok (.iload_n 1, 1) := by decide +kernel
theorem dX12_spare_2 : decode cX12_spare 2 = .ok (.invokevirtual 172, 3) := by decide +kernel
theorem dX12_spare_5 : decode cX12_spare 5 = .ok (.ifCond .eq 15, 3) := by decide +kernel
theorem dX12_spare_8 : decode cX12_spare 8 = .ok (.aload_n 0, 1) := by decide +kernel
theorem dX12_spare_9 : decode cX12_spare 9 = .ok (.iload_n 2, 1) := by decide +kernel
theorem dX12_spare_10 : decode cX12_spare 10 = .ok (.invokevirtual 420, 3) := by decide +kernel
theorem dX12_spare_13 : decode cX12_spare 13 = .ok (.ifCond .eq 7, 3) := by decide +kernel
theorem dX12_spare_16 : decode cX12_spare 16 = .ok (.iload_n 2, 1) := by decide +kernel
theorem dX12_spare_17 : decode cX12_spare 17 = .ok (.ifCond .ne 7, 3) := by decide +kernel
theorem dX12_spare_20 : decode cX12_spare 20 = .ok (.ldc2_w 332, 3) := by decide +kernel
theorem dX12_spare_23 : decode cX12_spare 23 = .ok (.lreturn, 1) := by decide +kernel
theorem dX12_spare_24 : decode cX12_spare 24 = .ok (.aload_n 0, 1) := by decide +kernel
theorem dX12_spare_25 : decode cX12_spare 25 = .ok (.iload_n 1, 1) := by decide +kernel
theorem dX12_spare_26 : decode cX12_spare 26 = .ok (.iconst 0, 1) := by decide +kernel
theorem dX12_spare_27 : decode cX12_spare 27 = .ok (.invokevirtual 334, 3) := by decide +kernel
theorem dX12_spare_30 : decode cX12_spare 30 = .ok (.aload_n 0, 1) := by decide +kernel
theorem dX12_spare_31 : decode cX12_spare 31 = .ok (.iload_n 2, 1) := by decide +kernel
theorem dX12_spare_32 : decode cX12_spare 32 = .ok (.iconst (-1), 1) := by decide +kernel
theorem dX12_spare_33 : decode cX12_spare 33 = .ok (.invokevirtual 423, 3) := by decide +kernel
theorem dX12_spare_36 : decode cX12_spare 36 = .ok (.ifCond .ne 7, 3) := by decide +kernel
theorem dX12_spare_39 : decode cX12_spare 39 = .ok (.ldc2_w 415, 3) := by decide +kernel
theorem dX12_spare_42 : decode cX12_spare 42 = .ok (.lreturn, 1) := by decide +kernel
theorem dX12_spare_43 : decode cX12_spare 43 = .ok (.lconst 0, 1) := by decide +kernel
theorem dX12_spare_44 : decode cX12_spare 44 = .ok (.lstore_n 3, 1) := by decide +kernel
theorem dX12_spare_45 : decode cX12_spare 45 = .ok (.iconst 0, 1) := by decide +kernel
theorem dX12_spare_46 : decode cX12_spare 46 = .ok (.istore 5, 2) := by decide +kernel
theorem dX12_spare_48 : decode cX12_spare 48 = .ok (.iload 5, 2) := by decide +kernel
theorem dX12_spare_50 : decode cX12_spare 50 = .ok (.aload_n 0, 1) := by decide +kernel
theorem dX12_spare_51 : decode cX12_spare 51 = .ok (.getfield 320, 3) := by decide +kernel
theorem dX12_spare_54 : decode cX12_spare 54 = .ok (.if_icmp .ge 31, 3) := by decide +kernel
theorem dX12_spare_57 : decode cX12_spare 57 = .ok (.aload_n 0, 1) := by decide +kernel
theorem dX12_spare_58 : decode cX12_spare 58 = .ok (.iload_n 2, 1) := by decide +kernel
theorem dX12_spare_59 : decode cX12_spare 59 = .ok (.iload 5, 2) := by decide +kernel
theorem dX12_spare_61 : decode cX12_spare 61 = .ok (.invokevirtual 423, 3) := by decide +kernel
theorem dX12_spare_64 : decode cX12_spare 64 = .ok (.ifCond .eq 15, 3) := by decide +kernel
theorem dX12_spare_67 : decode cX12_spare 67 = .ok (.lload_n 3, 1) := by decide +kernel
theorem dX12_spare_68 : decode cX12_spare 68 = .ok (.lconst 1, 1) := by decide +kernel
theorem dX12_spare_69 : decode cX12_spare 69 = .ok (.aload_n 0, 1) := by decide +kernel
theorem dX12_spare_70 : decode cX12_spare 70 = .ok (.iload_n 1, 1) := by decide +kernel
theorem dX12_spare_71 : decode cX12_spare 71 = .ok (.iload 5, 2) := by decide +kernel
theorem dX12_spare_73 : decode cX12_spare 73 = .ok (.invokevirtual 179, 3) := by decide +kernel
theorem dX12_spare_76 : decode cX12_spare 76 = .ok (.lshl, 1) := by decide +kernel
theorem dX12_spare_77 : decode cX12_spare 77 = .ok (.lor, 1) := by decide +kernel
theorem dX12_spare_78 : decode cX12_spare 78 = .ok (.lstore_n 3, 1) := by decide +kernel
theorem dX12_spare_79 : decode cX12_spare 79 = .ok (.iinc 5 1, 3) := by decide +kernel
theorem dX12_spare_82 : decode cX12_spare 82 = .ok (.goto (-34), 3) := by decide +kernel
theorem dX12_spare_85 : decode cX12_spare 85 = .ok (.lload_n 3, 1) := by decide +kernel
theorem dX12_spare_86 : decode cX12_spare 86 = .ok (.lreturn, 1) := by decide +kernel
theorem dX12_spreads_0 : decode cX12_spreads 0 = .ok (.iload_n 1, 1) := by decide +kernel
theorem dX12_spreads_1 : decode cX12_spreads 1 = .ok (.iconst 0, 1) := by decide +kernel
theorem dX12_spreads_2 : decode cX12_spreads 2 = .ok (.sipush 255, 3) := by decide +kernel
theorem dX12_spreads_5 : decode cX12_spreads 5 = .ok (.invokestatic 161, 3) := by decide +kernel
theorem dX12_spreads_8 : decode cX12_spreads 8 = .ok (.ifCond .eq 30, 3) := by decide +kernel
theorem dX12_spreads_11 : decode cX12_spreads 11 = .ok (.iload_n 1, 1) := by decide +kernel
theorem dX12_spreads_12 : decode cX12_spreads 12 = .ok (.aload_n 0, 1) := by decide +kernel
theorem dX12_spreads_13 : decode cX12_spreads 13 = .ok (.getfield 155, 3) := by decide +kernel
theorem dX12_spreads_16 : decode cX12_spreads 16 = .ok (.iconst (-1), 1) := by decide +kernel
theorem dX12_spreads_17 : decode cX12_spreads 17 = .ok (.ixor, 1) := by decide +kernel
theorem dX12_spreads_18 : decode cX12_spreads 18 = .ok (.iand, 1) := by decide +kernel
theorem dX12_spreads_19 : decode cX12_spreads 19 = .ok (.ifCond .ne 19, 3) := by decide +kernel
theorem dX12_spreads_22 : decode cX12_spreads 22 = .ok (.iload_n 1, 1) := by decide +kernel
theorem dX12_spreads_23 : decode cX12_spreads 23 = .ok (.invokestatic 366, 3) := by decide +kernel
theorem dX12_spreads_26 : decode cX12_spreads 26 = .ok (.iload_n 2, 1) := by decide +kernel
theorem dX12_spreads_27 : decode cX12_spreads 27 = .ok (.if_icmp .lt 11, 3) := by decide +kernel
theorem dX12_spreads_30 : decode cX12_spreads 30 = .ok (.iload_n 1, 1) := by decide +kernel
theorem dX12_spreads_31 : decode cX12_spreads 31 = .ok (.invokestatic 366, 3) := by decide +kernel
theorem dX12_spreads_34 : decode cX12_spreads 34 = .ok (.iload_n 3, 1) := by decide +kernel
theorem dX12_spreads_35 : decode cX12_spreads 35 = .ok (.if_icmp .le 5, 3) := by decide +kernel
theorem dX12_spreads_38 : decode cX12_spreads 38 = .ok (.iconst 0, 1) := by decide +kernel
theorem dX12_spreads_39 : decode cX12_spreads 39 = .ok (.ireturn, 1) := by decide +kernel
theorem dX12_spreads_40 : decode cX12_spreads 40 = .ok (.aload_n 0, 1) := by decide +kernel
theorem dX12_spreads_41 : decode cX12_spreads 41 = .ok (.iconst 0, 1) := by decide +kernel
theorem dX12_spreads_42 : decode cX12_spreads 42 = .ok (.putfield 369, 3) := by decide +kernel
theorem dX12_spreads_45 : decode cX12_spreads 45 = .ok (.iconst 0, 1) := by decide +kernel
theorem dX12_spreads_46 : decode cX12_spreads 46 = .ok (.istore 4, 2) := by decide +kernel
theorem dX12_spreads_48 : decode cX12_spreads 48 = .ok (.iload 4, 2) := by decide +kernel
theorem dX12_spreads_50 : decode cX12_spreads 50 = .ok (.bipush 8, 2) := by decide +kernel
theorem dX12_spreads_52 : decode cX12_spreads 52 = .ok (.if_icmp .ge 42, 3) := by decide +kernel
theorem dX12_spreads_55 : decode cX12_spreads 55 = .ok (.iload_n 1, 1) := by decide +kernel
theorem dX12_spreads_56 : decode cX12_spreads 56 = .ok (.iload 4, 2) := by decide +kernel
theorem dX12_spreads_58 : decode cX12_spreads 58 = .ok (.ishr, 1) := by decide +kernel
theorem dX12_spreads_59 : decode cX12_spreads 59 = .ok (.iconst 1, 1) := by decide +kernel
theorem dX12_spreads_60 : decode cX12_spreads 60 = .ok (.iand, 1) := by decide +kernel
theorem dX12_spreads_61 : decode cX12_spreads 61 = .ok (.ifCond .ne 6, 3) := by decide +kernel
theorem dX12_spreads_64 : decode cX12_spreads 64 = .ok (.goto 24, 3) := by decide +kernel
theorem dX12_spreads_67 : decode cX12_spreads 67 = .ok (.aload_n 0, 1) := by decide +kernel
theorem dX12_spreads_68 : decode cX12_spreads 68 = .ok (.getfield 112, 3) := by decide +kernel
theorem dX12_spreads_71 : decode cX12_spreads 71 = .ok (.aload_n 0, 1) := by decide +kernel
theorem dX12_spreads_72 : decode cX12_spreads 72 = .ok (.getfield 369, 3) := by decide +kernel
theorem dX12_spreads_75 : decode cX12_spreads 75 = .ok (.iload 4, 2) := by decide +kernel
theorem dX12_spreads_77 : decode cX12_spreads 77 = .ok (.iastore, 1) := by decide +kernel
theorem dX12_spreads_78 : decode cX12_spreads 78 = .ok (.aload_n 0, 1) := by decide +kernel
theorem dX12_spreads_79 : decode cX12_spreads 79 = .ok (.aload_n 0, 1) := by decide +kernel
theorem dX12_spreads_80 : decode cX12_spreads 80 = .ok (.getfield 369, 3) := by decide +kernel
theorem dX12_spreads_83 : decode cX12_spreads 83 = .ok (.iconst 1, 1) := by decide +kernel
theorem dX12_spreads_84 : decode cX12_spreads 84 = .ok (.iadd, 1) := by decide +kernel
theorem dX12_spreads_85 : decode cX12_spreads 85 = .ok (.putfield 369, 3) := by decide +kernel
theorem dX12_spreads_88 : decode cX12_spreads 88 = .ok (.iinc 4 1, 3) := by decide +kernel
theorem dX12_spreads_91 : decode cX12_spreads 91 = .ok (.goto (-43), 3) := by decide +kernel
theorem dX12_spreads_94 : decode cX12_spreads 94 = .ok (.iconst 1, 1) := by decide +kernel
theorem dX12_spreads_95 : decode cX12_spreads 95 = .ok (.ireturn, 1) := by decide +kernel
theorem dX12_strike_0 : decode cX12_strike 0 = .ok (.aload_n 0, 1) := by decide +kernel
theorem dX12_strike_1 : decode cX12_strike 1 = .ok (.iload_n 1, 1) := by decide +kernel
theorem dX12_strike_2 : decode cX12_strike 2 = .ok (.invokevirtual 172, 3) := by decide +kernel
theorem dX12_strike_5 : decode cX12_strike 5 = .ok (.ifCond .eq 36, 3) := by decide +kernel
theorem dX12_strike_8 : decode cX12_strike 8 = .ok (.iload 4, 2) := by decide +kernel
theorem dX12_strike_10 : decode cX12_strike 10 = .ok (.invokestatic 297, 3) := by decide +kernel
theorem dX12_strike_13 : decode cX12_strike 13 = .ok (.ifCond .eq 28, 3) := by decide +kernel
theorem dX12_strike_16 : decode cX12_strike 16 = .ok (.iload_n 3, 1) := by decide +kernel
theorem dX12_strike_17 : decode cX12_strike 17 = .ok (.iconst 1, 1) := by decide +kernel
theorem dX12_strike_18 : decode cX12_strike 18 = .ok (.bipush 9, 2) := by decide +kernel
theorem dX12_strike_20 : decode cX12_strike 20 = .ok (.invokestatic 161, 3) := by decide +kernel
theorem dX12_strike_23 : decode cX12_strike 23 = .ok (.ifCond .eq 18, 3) := by decide +kernel
theorem dX12_strike_26 : decode cX12_strike 26 = .ok (.iload_n 2, 1) := by decide +kernel
theorem dX12_strike_27 : decode cX12_strike 27 = .ok (.ifCond .lt 14, 3) := by decide +kernel
theorem dX12_strike_30 : decode cX12_strike 30 = .ok (.iload_n 2, 1) := by decide +kernel
theorem dX12_strike_31 : decode cX12_strike 31 = .ok (.aload_n 0, 1) := by decide +kernel
theorem dX12_strike_32 : decode cX12_strike 32 = .ok (.iload_n 1, 1) := by decide +kernel
theorem dX12_strike_33 : decode cX12_strike 33 = .ok (.invokevirtual 175, 3) := by decide +kernel
theorem dX12_strike_36 : decode cX12_strike 36 = .ok (.iload_n 3, 1) := by decide +kernel
theorem dX12_strike_37 : decode cX12_strike 37 = .ok (.isub, 1) := by decide +kernel
theorem dX12_strike_38 : decode cX12_strike 38 = .ok (.if_icmp .le 5, 3) := by decide +kernel
theorem dX12_strike_41 : decode cX12_strike 41 = .ok (.iconst (-1), 1) := by decide +kernel
theorem dX12_strike_42 : decode cX12_strike 42 = .ok (.ireturn, 1) := by decide +kernel
theorem dX12_strike_43 : decode cX12_strike 43 = .ok (.iconst 0, 1) := by decide +kernel
theorem dX12_strike_44 : decode cX12_strike 44 = .ok (.istore 5, 2) := by decide +kernel
theorem dX12_strike_46 : decode cX12_strike 46 = .ok (.iconst 0, 1) := by decide +kernel
theorem dX12_strike_47 : decode cX12_strike 47 = .ok (.istore 6, 2) := by decide +kernel
theorem dX12_strike_49 : decode cX12_strike 49 = .ok (.iload 6, 2) := by decide +kernel
theorem dX12_strike_51 : decode cX12_strike 51 = .ok (.iload_n 3, 1) := by decide +kernel
theorem dX12_strike_52 : decode cX12_strike 52 = .ok (.if_icmp .ge 42, 3) := by decide +kernel
theorem dX12_strike_55 : decode cX12_strike 55 = .ok (.aload_n 0, 1) := by decide +kernel
theorem dX12_strike_56 : decode cX12_strike 56 = .ok (.iload_n 1, 1) := by decide +kernel
theorem dX12_strike_57 : decode cX12_strike 57 = .ok (.iload_n 2, 1) := by decide +kernel
theorem dX12_strike_58 : decode cX12_strike 58 = .ok (.iload 6, 2) := by decide +kernel
theorem dX12_strike_60 : decode cX12_strike 60 = .ok (.iadd, 1) := by decide +kernel
theorem dX12_strike_61 : decode cX12_strike 61 = .ok (.iload 4, 2) := by decide +kernel
theorem dX12_strike_63 : decode cX12_strike 63 = .ok (.invokevirtual 303, 3) := by decide +kernel
theorem dX12_strike_66 : decode cX12_strike 66 = .ok (.ifCond .ne 6, 3) := by decide +kernel
theorem dX12_strike_69 : decode cX12_strike 69 = .ok (.bipush (-2), 2) := by decide +kernel
theorem dX12_strike_71 : decode cX12_strike 71 = .ok (.ireturn, 1) := by decide +kernel
theorem dX12_strike_72 : decode cX12_strike 72 = .ok (.iload 5, 2) := by decide +kernel
theorem dX12_strike_74 : decode cX12_strike 74 = .ok (.aload_n 0, 1) := by decide +kernel
theorem dX12_strike_75 : decode cX12_strike 75 = .ok (.iload_n 1, 1) := by decide +kernel
theorem dX12_strike_76 : decode cX12_strike 76 = .ok (.iload_n 2, 1) := by decide +kernel
theorem dX12_strike_77 : decode cX12_strike 77 = .ok (.iload 6, 2) := by decide +kernel
theorem dX12_strike_79 : decode cX12_strike 79 = .ok (.iadd, 1) := by decide +kernel
theorem dX12_strike_80 : decode cX12_strike 80 = .ok (.iload 4, 2) := by decide +kernel
theorem dX12_strike_82 : decode cX12_strike 82 = .ok (.invokevirtual 300, 3) := by decide +kernel
theorem dX12_strike_85 : decode cX12_strike 85 = .ok (.iadd, 1) := by decide +kernel
theorem dX12_strike_86 : decode cX12_strike 86 = .ok (.istore 5, 2) := by decide +kernel
theorem dX12_strike_88 : decode cX12_strike 88 = .ok (.iinc 6 1, 3) := by decide +kernel
theorem dX12_strike_91 : decode cX12_strike 91 = .ok (.goto (-42), 3) := by decide +kernel
theorem dX12_strike_94 : decode cX12_strike 94 = .ok (.aload_n 0, 1) := by decide +kernel
theorem dX12_strike_95 : decode cX12_strike 95 = .ok (.getfield 306, 3) := by decide +kernel
theorem dX12_strike_98 : decode cX12_strike 98 = .ok (.bipush 60, 2) := by decide +kernel
theorem dX12_strike_100 : decode cX12_strike 100 = .ok (.if_icmp .ne 6, 3) := by decide +kernel
theorem dX12_strike_103 : decode cX12_strike 103 = .ok (.bipush (-3), 2) := by decide +kernel
theorem dX12_strike_105 : decode cX12_strike 105 = .ok (.ireturn, 1) := by decide +kernel
theorem dX12_strike_106 : decode cX12_strike 106 = .ok (.aload_n 0, 1) := by decide +kernel
theorem dX12_strike_107 : decode cX12_strike 107 = .ok (.iload_n 1, 1) := by decide +kernel
theorem dX12_strike_108 : decode cX12_strike 108 = .ok (.iload_n 2, 1) := by decide +kernel
theorem dX12_strike_109 : decode cX12_strike 109 = .ok (.iload_n 3, 1) := by decide +kernel
theorem dX12_strike_110 : decode cX12_strike 110 = .ok (.iload 4, 2) := by decide +kernel
theorem dX12_strike_112 : decode cX12_strike 112 = .ok (.iload 5, 2) := by decide +kernel
theorem dX12_strike_114 : decode cX12_strike 114 = .ok (.invokevirtual 313, 3) := by decide +kernel
theorem dX12_strike_117 : decode cX12_strike 117 = .ok (.iload 5, 2) := by decide +kernel
theorem dX12_strike_119 : decode cX12_strike 119 = .ok (.ireturn, 1) := by decide +kernel
theorem dX12_strokes_0 : decode cX12_strokes 0 = .ok (.aload_n 0, 1) := by decide +kernel
theorem dX12_strokes_1 : decode cX12_strokes 1 = .ok (.iload_n 1, 1) := by decide +kernel
theorem dX12_strokes_2 : decode cX12_strokes 2 = .ok (.iload_n 2, 1) := by decide +kernel
theorem dX12_strokes_3 : decode cX12_strokes 3 = .ok (.invokevirtual 329, 3) := by decide +kernel
theorem dX12_strokes_6 : decode cX12_strokes 6 = .ok (.ifCond .eq 13, 3) := by decide +kernel
theorem dX12_strokes_9 : decode cX12_strokes 9 = .ok (.iload_n 3, 1) := by decide +kernel
theorem dX12_strokes_10 : decode cX12_strokes 10 = .ok (.iconst 1, 1) := by decide +kernel
theorem dX12_strokes_11 : decode cX12_strokes 11 = .ok (.bipush 9, 2) := by decide +kernel
theorem dX12_strokes_13 : decode cX12_strokes 13 = .ok (.invokestatic 161, 3) := by decide +kernel
theorem dX12_strokes_16 : decode cX12_strokes 16 = .ok (.ifCond .ne 5, 3) := by decide +kernel
theorem dX12_strokes_19 : decode cX12_strokes 19 = .ok (.iconst (-1), 1) := by decide +kernel
theorem dX12_strokes_20 : decode cX12_strokes 20 = .ok (.ireturn, 1) := by decide +kernel
theorem dX12_strokes_21 : decode cX12_strokes 21 = .ok (.aload_n 0, 1) := by decide +kernel
theorem dX12_strokes_22 : decode cX12_strokes 22 = .ok (.iload_n 1, 1) := by decide +kernel
theorem dX12_strokes_23 : decode cX12_strokes 23 = .ok (.iconst 0, 1) := by decide +kernel
theorem dX12_strokes_24 : decode cX12_strokes 24 = .ok (.invokevirtual 334, 3) := by decide +kernel
theorem dX12_strokes_27 : decode cX12_strokes 27 = .ok (.aload_n 0, 1) := by decide +kernel
theorem dX12_strokes_28 : decode cX12_strokes 28 = .ok (.iload_n 2, 1) := by decide +kernel
theorem dX12_strokes_29 : decode cX12_strokes 29 = .ok (.invokevirtual 338, 3) := by decide +kernel
theorem dX12_strokes_32 : decode cX12_strokes 32 = .ok (.aload_n 0, 1) := by decide +kernel
theorem dX12_strokes_33 : decode cX12_strokes 33 = .ok (.iload_n 3, 1) := by decide +kernel
theorem dX12_strokes_34 : decode cX12_strokes 34 = .ok (.invokevirtual 363, 3) := by decide +kernel
theorem dX12_strokes_37 : decode cX12_strokes 37 = .ok (.istore 4, 2) := by decide +kernel
theorem dX12_strokes_39 : decode cX12_strokes 39 = .ok (.iload 4, 2) := by decide +kernel
theorem dX12_strokes_41 : decode cX12_strokes 41 = .ok (.ldc_w 341, 3) := by decide +kernel
theorem dX12_strokes_44 : decode cX12_strokes 44 = .ok (.if_icmp .lt 8, 3) := by decide +kernel
theorem dX12_strokes_47 : decode cX12_strokes 47 = .ok (.bipush (-2), 2) := by decide +kernel
theorem dX12_strokes_49 : decode cX12_strokes 49 = .ok (.goto 5, 3) := by decide +kernel
theorem dX12_strokes_52 : decode cX12_strokes 52 = .ok (.iload 4, 2) := by decide +kernel
theorem dX12_strokes_54 : decode cX12_strokes 54 = .ok (.ireturn, 1) := by decide +kernel
theorem dX12_strokesFor_0 : decode cX12_strokesFor 0 = .ok (.iconst 0, 1) := by decide +kernel
theorem dX12_strokesFor_1 : decode cX12_strokesFor 1 = .ok (.istore_n 1, 1) := by decide +kernel
theorem dX12_strokesFor_2 : decode cX12_strokesFor 2 = .ok (.iconst 0, 1) := by decide +kernel
theorem dX12_strokesFor_3 : decode cX12_strokesFor 3 = .ok (.istore_n 2, 1) := by decide +kernel
theorem dX12_strokesFor_4 : decode cX12_strokesFor 4 = .ok (.iconst 0, 1) := by decide +kernel
theorem dX12_strokesFor_5 : decode cX12_strokesFor 5 = .ok (.istore_n 3, 1) := by decide +kernel
theorem dX12_strokesFor_6 : decode cX12_strokesFor 6 = .ok (.iload_n 3, 1) := by decide +kernel
theorem dX12_strokesFor_7 : decode cX12_strokesFor 7 = .ok (.aload_n 0, 1) := by decide +kernel
theorem dX12_strokesFor_8 : decode cX12_strokesFor 8 = .ok (.getfield 323, 3) := by decide +kernel
theorem dX12_strokesFor_11 : decode cX12_strokesFor 11 = .ok (.if_icmp .gt 50, 3) := by decide +kernel
theorem dX12_strokesFor_14 : decode cX12_strokesFor 14 = .ok (.iload_n 3, 1) := by decide +kernel
theorem dX12_strokesFor_15 : decode cX12_strokesFor 15 = .ok (.aload_n 0, 1) := by decide +kernel
theorem dX12_strokesFor_16 : decode cX12_strokesFor 16 = .ok (.getfield 323, 3) := by decide +kernel
theorem dX12_strokesFor_19 : decode cX12_strokesFor 19 = .ok (.if_icmp .ne 10, 3) := by decide +kernel
theorem dX12_strokesFor_22 : decode cX12_strokesFor 22 = .ok (.aload_n 0, 1) := by decide +kernel
theorem dX12_strokesFor_23 : decode cX12_strokesFor 23 = .ok (.getfield 320, 3) := by decide +kernel
theorem dX12_strokesFor_26 : decode cX12_strokesFor 26 = .ok (.goto 9, 3) := by decide +kernel
theorem dX12_strokesFor_29 : decode cX12_strokesFor 29 = .ok (.aload_n 0, 1) := by decide +kernel
theorem dX12_strokesFor_30 : decode cX12_strokesFor 30 = .ok (.getfield 103, 3) := by decide +kernel
