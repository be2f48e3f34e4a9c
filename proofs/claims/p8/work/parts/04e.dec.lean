theorem dX12_family_76 : decode cX12_family 76 = .ok (.iload 4, 2) := by decide +kernel
theorem dX12_family_78 : decode cX12_family 78 = .ok (.iconst (-1), 1) := by decide +kernel
theorem dX12_family_79 : decode cX12_family 79 = .ok (.if_icmp .eq 13, 3) := by decide +kernel
theorem dX12_family_82 : decode cX12_family 82 = .ok (.aload_n 0, 1) := by decide +kernel
theorem dX12_family_83 : decode cX12_family 83 = .ok (.iload_n 1, 1) := by decide +kernel
theorem dX12_family_84 : decode cX12_family 84 = .ok (.iload_n 2, 1) := by decide +kernel
theorem dX12_family_85 : decode cX12_family 85 = .ok (.iload_n 3, 1) := by decide +kernel
theorem dX12_family_86 : decode cX12_family 86 = .ok (.iload 4, 2) := by decide +kernel
theorem dX12_family_88 : decode cX12_family 88 = .ok (.invokevirtual 451, 3) := by decide +kernel
theorem dX12_family_91 : decode cX12_family 91 = .ok (.ireturn, 1) := by decide +kernel
theorem dX12_family_92 : decode cX12_family 92 = .ok (.iconst 0, 1) := by decide +kernel
theorem dX12_family_93 : decode cX12_family 93 = .ok (.istore 5, 2) := by decide +kernel
theorem dX12_family_95 : decode cX12_family 95 = .ok (.iconst 0, 1) := by decide +kernel
theorem dX12_family_96 : decode cX12_family 96 = .ok (.istore 6, 2) := by decide +kernel
theorem dX12_family_98 : decode cX12_family 98 = .ok (.iload 6, 2) := by decide +kernel
theorem dX12_family_100 : decode cX12_family 100 = .ok (.bipush 8, 2) := by decide +kernel
theorem dX12_family_102 : decode cX12_family 102 = .ok (.if_icmp .ge 40, 3) := by decide +kernel
theorem dX12_family_105 : decode cX12_family 105 = .ok (.iload_n 2, 1) := by decide +kernel
theorem dX12_family_106 : decode cX12_family 106 = .ok (.iload 6, 2) := by decide +kernel
theorem dX12_family_108 : decode cX12_family 108 = .ok (.ishr, 1) := by decide +kernel
theorem dX12_family_109 : decode cX12_family 109 = .ok (.iconst 1, 1) := by decide +kernel
theorem dX12_family_110 : decode cX12_family 110 = .ok (.iand, 1) := by decide +kernel
theorem dX12_family_111 : decode cX12_family 111 = .ok (.ifCond .ne 6, 3) := by decide +kernel
theorem dX12_family_114 : decode cX12_family 114 = .ok (.goto 22, 3) := by decide +kernel
theorem dX12_family_117 : decode cX12_family 117 = .ok (.aload_n 0, 1) := by decide +kernel
theorem dX12_family_118 : decode cX12_family 118 = .ok (.iload_n 1, 1) := by decide +kernel
theorem dX12_family_119 : decode cX12_family 119 = .ok (.iload_n 2, 1) := by decide +kernel
theorem dX12_family_120 : decode cX12_family 120 = .ok (.iload_n 3, 1) := by decide +kernel
theorem dX12_family_121 : decode cX12_family 121 = .ok (.iload 6, 2) := by decide +kernel
theorem dX12_family_123 : decode cX12_family 123 = .ok (.invokevirtual 451, 3) := by decide +kernel
theorem dX12_family_126 : decode cX12_family 126 = .ok (.pop, 1) := by decide +kernel
theorem dX12_family_127 : decode cX12_family 127 = .ok (.iload 5, 2) := by decide +kernel
theorem dX12_family_129 : decode cX12_family 129 = .ok (.aload_n 0, 1) := by decide +kernel
theorem dX12_family_130 : decode cX12_family 130 = .ok (.getfield 445, 3) := by decide +kernel
theorem dX12_family_133 : decode cX12_family 133 = .ok (.iadd, 1) := by decide +kernel
theorem dX12_family_134 : decode cX12_family 134 = .ok (.istore 5, 2) := by decide +kernel
theorem dX12_family_136 : decode cX12_family 136 = .ok (.iinc 6 1, 3) := by decide +kernel
theorem dX12_family_139 : decode cX12_family 139 = .ok (.goto (-41), 3) := by decide +kernel
theorem dX12_family_142 : decode cX12_family 142 = .ok (.iload 5, 2) := by decide +kernel
theorem dX12_family_144 : decode cX12_family 144 = .ok (.ireturn, 1) := by decide +kernel
theorem dX12_feed_0 : decode cX12_feed 0 = .ok (.aload_n 0, 1) := by decide +kernel
theorem dX12_feed_1 : decode cX12_feed 1 = .ok (.getfield 165, 3) := by decide +kernel
theorem dX12_feed_4 : decode cX12_feed 4 = .ok (.bipush 20, 2) := by decide +kernel
theorem dX12_feed_6 : decode cX12_feed 6 = .ok (.iadd, 1) := by decide +kernel
theorem dX12_feed_7 : decode cX12_feed 7 = .ok (.sipush 200, 3) := by decide +kernel
theorem dX12_feed_10 : decode cX12_feed 10 = .ok (.if_icmp .le 5, 3) := by decide +kernel
theorem dX12_feed_13 : decode cX12_feed 13 = .ok (.iconst (-1), 1) := by decide +kernel
theorem dX12_feed_14 : decode cX12_feed 14 = .ok (.ireturn, 1) := by decide +kernel
theorem dX12_feed_15 : decode cX12_feed 15 = .ok (.aload_n 0, 1) := by decide +kernel
theorem dX12_feed_16 : decode cX12_feed 16 = .ok (.iload_n 1, 1) := by decide +kernel
theorem dX12_feed_17 : decode cX12_feed 17 = .ok (.invokevirtual 183, 3) := by decide +kernel
theorem dX12_feed_20 : decode cX12_feed 20 = .ok (.aload_n 0, 1) := by decide +kernel
theorem dX12_feed_21 : decode cX12_feed 21 = .ok (.iload_n 2, 1) := by decide +kernel
theorem dX12_feed_22 : decode cX12_feed 22 = .ok (.invokevirtual 183, 3) := by decide +kernel
theorem dX12_feed_25 : decode cX12_feed 25 = .ok (.aload_n 0, 1) := by decide +kernel
theorem dX12_feed_26 : decode cX12_feed 26 = .ok (.iload_n 3, 1) := by decide +kernel
theorem dX12_feed_27 : decode cX12_feed 27 = .ok (.invokevirtual 183, 3) := by decide +kernel
theorem dX12_feed_30 : decode cX12_feed 30 = .ok (.aload_n 0, 1) := by decide +kernel
theorem dX12_feed_31 : decode cX12_feed 31 = .ok (.iload 4, 2) := by decide +kernel
theorem dX12_feed_33 : decode cX12_feed 33 = .ok (.invokevirtual 183, 3) := by decide +kernel
theorem dX12_feed_36 : decode cX12_feed 36 = .ok (.aload_n 0, 1) := by decide +kernel
theorem dX12_feed_37 : decode cX12_feed 37 = .ok (.iload 5, 2) := by decide +kernel
theorem dX12_feed_39 : decode cX12_feed 39 = .ok (.invokevirtual 183, 3) := by decide +kernel
theorem dX12_feed_42 : decode cX12_feed 42 = .ok (.aload_n 0, 1) := by decide +kernel
theorem dX12_feed_43 : decode cX12_feed 43 = .ok (.getfield 165, 3) := by decide +kernel
theorem dX12_feed_46 : decode cX12_feed 46 = .ok (.ireturn, 1) := by decide +kernel
theorem dX12_feels_0 : decode cX12_feels 0 = .ok (.aload_n 0, 1) := by decide +kernel
theorem dX12_feels_1 : decode cX12_feels 1 = .ok (.iload_n 1, 1) := by decide +kernel
theorem dX12_feels_2 : decode cX12_feels 2 = .ok (.iload_n 2, 1) := by decide +kernel
theorem dX12_feels_3 : decode cX12_feels 3 = .ok (.invokevirtual 179, 3) := by decide +kernel
theorem dX12_feels_6 : decode cX12_feels 6 = .ok (.istore 4, 2) := by decide +kernel
theorem dX12_feels_8 : decode cX12_feels 8 = .ok (.aload_n 0, 1) := by decide +kernel
theorem dX12_feels_9 : decode cX12_feels 9 = .ok (.getfield 66, 3) := by decide +kernel
theorem dX12_feels_12 : decode cX12_feels 12 = .ok (.iconst 0, 1) := by decide +kernel
theorem dX12_feels_13 : decode cX12_feels 13 = .ok (.aload_n 0, 1) := by decide +kernel
theorem dX12_feels_14 : decode cX12_feels 14 = .ok (.getfield 13, 3) := by decide +kernel
theorem dX12_feels_17 : decode cX12_feels 17 = .ok (.bipush 40, 2) := by decide +kernel
theorem dX12_feels_19 : decode cX12_feels 19 = .ok (.iload_n 1, 1) := by decide +kernel
theorem dX12_feels_20 : decode cX12_feels 20 = .ok (.imul, 1) := by decide +kernel
theorem dX12_feels_21 : decode cX12_feels 21 = .ok (.iload 4, 2) := by decide +kernel
theorem dX12_feels_23 : decode cX12_feels 23 = .ok (.iadd, 1) := by decide +kernel
theorem dX12_feels_24 : decode cX12_feels 24 = .ok (.iaload, 1) := by decide +kernel
theorem dX12_feels_25 : decode cX12_feels 25 = .ok (.iastore, 1) := by decide +kernel
theorem dX12_feels_26 : decode cX12_feels 26 = .ok (.aload_n 0, 1) := by decide +kernel
theorem dX12_feels_27 : decode cX12_feels 27 = .ok (.getfield 66, 3) := by decide +kernel
theorem dX12_feels_30 : decode cX12_feels 30 = .ok (.iconst 1, 1) := by decide +kernel
theorem dX12_feels_31 : decode cX12_feels 31 = .ok (.iload_n 2, 1) := by decide +kernel
theorem dX12_feels_32 : decode cX12_feels 32 = .ok (.iastore, 1) := by decide +kernel
theorem dX12_feels_33 : decode cX12_feels 33 = .ok (.aload_n 0, 1) := by decide +kernel
theorem dX12_feels_34 : decode cX12_feels 34 = .ok (.getfield 66, 3) := by decide +kernel
theorem dX12_feels_37 : decode cX12_feels 37 = .ok (.iconst 2, 1) := by decide +kernel
theorem dX12_feels_38 : decode cX12_feels 38 = .ok (.iload 4, 2) := by decide +kernel
theorem dX12_feels_40 : decode cX12_feels 40 = .ok (.iastore, 1) := by decide +kernel
theorem dX12_feels_41 : decode cX12_feels 41 = .ok (.aload_n 0, 1) := by decide +kernel
theorem dX12_feels_42 : decode cX12_feels 42 = .ok (.getfield 66, 3) := by decide +kernel
theorem dX12_feels_45 : decode cX12_feels 45 = .ok (.iconst 3, 1) := by decide +kernel
theorem dX12_feels_46 : decode cX12_feels 46 = .ok (.aload_n 0, 1) := by decide +kernel
theorem dX12_feels_47 : decode cX12_feels 47 = .ok (.iload_n 1, 1) := by decide +kernel
theorem dX12_feels_48 : decode cX12_feels 48 = .ok (.invokevirtual 175, 3) := by decide +kernel
theorem dX12_feels_51 : decode cX12_feels 51 = .ok (.iastore, 1) := by decide +kernel
theorem dX12_feels_52 : decode cX12_feels 52 = .ok (.aload_n 0, 1) := by decide +kernel
theorem dX12_feels_53 : decode cX12_feels 53 = .ok (.getfield 66, 3) := by decide +kernel
theorem dX12_feels_56 : decode cX12_feels 56 = .ok (.iconst 4, 1) := by decide +kernel
theorem dX12_feels_57 : decode cX12_feels 57 = .ok (.aload_n 0, 1) := by decide +kernel
theorem dX12_feels_58 : decode cX12_feels 58 = .ok (.iload_n 1, 1) := by decide +kernel
theorem dX12_feels_59 : decode cX12_feels 59 = .ok (.aload_n 0, 1) := by decide +kernel
theorem dX12_feels_60 : decode cX12_feels 60 = .ok (.getfield 13, 3) := by decide +kernel
theorem dX12_feels_63 : decode cX12_feels 63 = .ok (.bipush 40, 2) := by decide +kernel
theorem dX12_feels_65 : decode cX12_feels 65 = .ok (.iload_n 1, 1) := by decide +kernel
theorem dX12_feels_66 : decode cX12_feels 66 = .ok (.imul, 1) := by decide +kernel
theorem dX12_feels_67 : decode cX12_feels 67 = .ok (.iload 4, 2) := by decide +kernel
theorem dX12_feels_69 : decode cX12_feels 69 = .ok (.iadd, 1) := by decide +kernel
theorem dX12_feels_70 : decode cX12_feels 70 = .ok (.iaload, 1) := by decide +kernel
theorem dX12_feels_71 : decode cX12_feels 71 = .ok (.invokevirtual 284, 3) := by decide +kernel
theorem dX12_feels_74 : decode cX12_feels 74 = .ok (.iastore, 1) := by decide +kernel
theorem dX12_feels_75 : decode cX12_feels 75 = .ok (.aload_n 0, 1) := by decide +kernel
theorem dX12_feels_76 : decode cX12_feels 76 = .ok (.getfield 66, 3) := by decide +kernel
theorem dX12_feels_79 : decode cX12_feels 79 = .ok (.iconst 5, 1) := by decide +kernel
theorem dX12_feels_80 : decode cX12_feels 80 = .ok (.iload_n 3, 1) := by decide +kernel
theorem dX12_feels_81 : decode cX12_feels 81 = .ok (.iastore, 1) := by decide +kernel
theorem dX12_feels_82 : decode cX12_feels 82 = .ok (.aload_n 0, 1) := by decide +kernel
theorem dX12_feels_83 : decode cX12_feels 83 = .ok (.getfield 66, 3) := by decide +kernel
theorem dX12_feels_86 : decode cX12_feels 86 = .ok (.bipush 6, 2) := by decide +kernel
theorem dX12_feels_88 : decode cX12_feels 88 = .ok (.aload_n 0, 1) := by decide +kernel
theorem dX12_feels_89 : decode cX12_feels 89 = .ok (.getfield 158, 3) := by decide +kernel
theorem dX12_feels_92 : decode cX12_feels 92 = .ok (.iastore, 1) := by decide +kernel
theorem dX12_feels_93 : decode cX12_feels 93 = .ok (.aload_n 0, 1) := by decide +kernel
theorem dX12_feels_94 : decode cX12_feels 94 = .ok (.getfield 66, 3) := by decide +kernel
theorem dX12_feels_97 : decode cX12_feels 97 = .ok (.bipush 7, 2) := by decide +kernel
theorem dX12_feels_99 : decode cX12_feels 99 = .ok (.iload_n 1, 1) := by decide +kernel
theorem dX12_feels_100 : decode cX12_feels 100 = .ok (.iastore, 1) := by decide +kernel
theorem dX12_feels_101 : decode cX12_feels 101 = .ok (.aload_n 0, 1) := by decide +kernel
theorem dX12_feels_102 : decode cX12_feels 102 = .ok (.getfield 66, 3) := by decide +kernel
theorem dX12_feels_105 : decode cX12_feels 105 = .ok (.bipush 8, 2) := by decide +kernel
theorem dX12_feels_107 : decode cX12_feels 107 = .ok (.aload_n 0, 1) := by decide +kernel
theorem dX12_feels_108 : decode cX12_feels 108 = .ok (.iload_n 1, 1) := by decide +kernel
theorem dX12_feels_109 : decode cX12_feels 109 = .ok (.iload 4, 2) := by decide +kernel
theorem dX12_feels_111 : decode cX12_feels 111 = .ok (.iconst 1, 1) := by decide +kernel
theorem dX12_feels_112 : decode cX12_feels 112 = .ok (.isub, 1) := by decide +kernel
theorem dX12_feels_113 : decode cX12_feels 113 = .ok (.invokevirtual 287, 3) := by decide +kernel
theorem dX12_feels_116 : decode cX12_feels 116 = .ok (.ifCond .eq 7, 3) := by decide +kernel
theorem dX12_feels_119 : decode cX12_feels 119 = .ok (.iconst 1, 1) := by decide +kernel
theorem dX12_feels_120 : decode cX12_feels 120 = .ok (.goto 4, 3) := by decide +kernel
theorem dX12_feels_123 : decode cX12_feels 123 = .ok (.iconst 0, 1) := by decide +kernel
theorem dX12_feels_124 : decode cX12_feels 124 = .ok (.iastore, 1) := by decide +kernel
theorem dX12_feels_125 : decode cX12_feels 125 = .ok (.aload_n 0, 1) := by decide +kernel
theorem dX12_feels_126 : decode cX12_feels 126 = .ok (.getfield 66, 3) := by decide +kernel
theorem dX12_feels_129 : decode cX12_feels 129 = .ok (.bipush 9, 2) := by decide +kernel
theorem dX12_feels_131 : decode cX12_feels 131 = .ok (.aload_n 0, 1) := by decide +kernel
theorem dX12_feels_132 : decode cX12_feels 132 = .ok (.iload_n 1, 1) := by decide +kernel
theorem dX12_feels_133 : decode cX12_feels 133 = .ok (.iload 4, 2) := by decide +kernel
theorem dX12_feels_135 : decode cX12_feels 135 = .ok (.iconst 1, 1) := by decide +kernel
theorem dX12_feels_136 : decode cX12_feels 136 = .ok (.iadd, 1) := by decide +kernel
theorem dX12_feels_137 : decode cX12_feels 137 = .ok (.invokevirtual 287, 3) := by decide +kernel
theorem dX12_feels_140 : decode cX12_feels 140 = .ok (.ifCond .eq 7, 3) := by decide +kernel
theorem dX12_feels_143 : decode cX12_feels 143 = .ok (.iconst 1, 1) := by decide +kernel
theorem dX12_feels_144 : decode cX12_feels 144 = .ok (.goto 4, 3) := by decide +kernel
theorem dX12_feels_147 : decode cX12_feels 147 = .ok (.iconst 0, 1) := by decide +kernel
theorem dX12_feels_148 : decode cX12_feels 148 = .ok (.iastore, 1) := by decide +kernel
theorem dX12_feels_149 : decode cX12_feels 149 = .ok (.return_, 1) := by decide +kernel
theorem dX12_fewestStrokes_0 : decode cX12_fewestStrokes 0 = .ok (.iconst 0, 1) := by decide +kernel
theorem dX12_fewestStrokes_1 : decode cX12_fewestStrokes 1 = .ok (.istore_n 2, 1) := by decide +kernel
theorem dX12_fewestStrokes_2 : decode cX12_fewestStrokes 2 = .ok (.iload_n 2, 1) := by decide +kernel
theorem dX12_fewestStrokes_3 : decode cX12_fewestStrokes 3 = .ok (.aload_n 0, 1) := by decide +kernel
theorem dX12_fewestStrokes_4 : decode cX12_fewestStrokes 4 = .ok (.getfield 323, 3) := by decide +kernel
theorem dX12_fewestStrokes_7 : decode cX12_fewestStrokes 7 = .ok (.if_icmp .gt 133, 3) := by decide +kernel
theorem dX12_fewestStrokes_10 : decode cX12_fewestStrokes 10 = .ok (.iconst 0, 1) := by decide +kernel
theorem dX12_fewestStrokes_11 : decode cX12_fewestStrokes 11 = .ok (.istore_n 3, 1) := by decide +kernel
theorem dX12_fewestStrokes_12 : decode cX12_fewestStrokes 12 = .ok (.iload_n 3, 1) := by decide +kernel
theorem dX12_fewestStrokes_13 : decode cX12_fewestStrokes 13 = .ok (.aload_n 0, 1) := by decide +kernel
theorem dX12_fewestStrokes_14 : decode cX12_fewestStrokes 14 = .ok (.getfield 320, 3) := by decide +kernel
theorem dX12_fewestStrokes_17 : decode cX12_fewestStrokes 17 = .ok (.if_icmp .gt 117, 3) := by decide +kernel
theorem dX12_fewestStrokes_20 : decode cX12_fewestStrokes 20 = .ok (.iload_n 2, 1) := by decide +kernel
theorem dX12_fewestStrokes_21 : decode cX12_fewestStrokes 21 = .ok (.ifCond .ne 11, 3) := by decide +kernel
theorem dX12_fewestStrokes_24 : decode cX12_fewestStrokes 24 = .ok (.iload_n 3, 1) := by decide +kernel
theorem dX12_fewestStrokes_25 : decode cX12_fewestStrokes 25 = .ok (.ifCond .ne 7, 3) := by decide +kernel
theorem dX12_fewestStrokes_28 : decode cX12_fewestStrokes 28 = .ok (.iconst 0, 1) := by decide +kernel
theorem dX12_fewestStrokes_29 : decode cX12_fewestStrokes 29 = .ok (.goto 6, 3) := by decide +kernel
theorem dX12_fewestStrokes_32 : decode cX12_fewestStrokes 32 = .ok (.ldc_w 341, 3) := by decide +kernel
theorem dX12_fewestStrokes_35 : decode cX12_fewestStrokes 35 = .ok (.istore 4, 2) := by decide +kernel
theorem dX12_fewestStrokes_37 : decode cX12_fewestStrokes 37 = .ok (.iload_n 2, 1) := by decide +kernel
theorem dX12_fewestStrokes_38 : decode cX12_fewestStrokes 38 = .ok (.ifCond .le 77, 3) := by decide +kernel
theorem dX12_fewestStrokes_41 : decode cX12_fewestStrokes 41 = .ok (.iload_n 3, 1) := by decide +kernel
theorem dX12_fewestStrokes_42 : decode cX12_fewestStrokes 42 = .ok (.ifCond .le 73, 3) := by decide +kernel
theorem dX12_fewestStrokes_45 : decode cX12_fewestStrokes 45 = .ok (.aload_n 0, 1) := by decide +kernel
theorem dX12_fewestStrokes_46 : decode cX12_fewestStrokes 46 = .ok (.getfield 87, 3) := by decide +kernel
theorem dX12_fewestStrokes_49 : decode cX12_fewestStrokes 49 = .ok (.iload_n 3, 1) := by decide +kernel
theorem dX12_fewestStrokes_50 : decode cX12_fewestStrokes 50 = .ok (.iconst 1, 1) := by decide +kernel
theorem dX12_fewestStrokes_51 : decode cX12_fewestStrokes 51 = .ok (.isub, 1) := by decide +kernel
theorem dX12_fewestStrokes_52 : decode cX12_fewestStrokes 52 = .ok (.iaload, 1) := by decide +kernel
theorem dX12_fewestStrokes_53 : decode cX12_fewestStrokes 53 = .ok (.aload_n 0, 1) := by decide +kernel
theorem dX12_fewestStrokes_54 : decode cX12_fewestStrokes 54 = .ok (.getfield 90, 3) := by decide +kernel
theorem dX12_fewestStrokes_57 : decode cX12_fewestStrokes 57 = .ok (.iload_n 2, 1) := by decide +kernel
theorem dX12_fewestStrokes_58 : decode cX12_fewestStrokes 58 = .ok (.iconst 1, 1) := by decide +kernel
theorem dX12_fewestStrokes_59 : decode cX12_fewestStrokes 59 = .ok (.isub, 1) := by decide +kernel
theorem dX12_fewestStrokes_60 : decode cX12_fewestStrokes 60 = .ok (.iaload, 1) := by decide +kernel
theorem dX12_fewestStrokes_61 : decode cX12_fewestStrokes 61 = .ok (.if_icmp .ne 54, 3) := by decide +kernel
theorem dX12_fewestStrokes_64 : decode cX12_fewestStrokes 64 = .ok (.iconst 0, 1) := by decide +kernel
theorem dX12_fewestStrokes_65 : decode cX12_fewestStrokes 65 = .ok (.istore 5, 2) := by decide +kernel
theorem dX12_fewestStrokes_67 : decode cX12_fewestStrokes 67 = .ok (.iload 5, 2) := by decide +kernel
theorem dX12_fewestStrokes_69 : decode cX12_fewestStrokes 69 = .ok (.iload_n 3, 1) := by decide +kernel
theorem dX12_fewestStrokes_70 : decode cX12_fewestStrokes 70 = .ok (.if_icmp .ge 45, 3) := by decide +kernel
theorem dX12_fewestStrokes_73 : decode cX12_fewestStrokes 73 = .ok (.iload 4, 2) := by decide +kernel
theorem dX12_fewestStrokes_75 : decode cX12_fewestStrokes 75 = .ok (.aload_n 0, 1) := by decide +kernel
theorem dX12_fewestStrokes_76 : decode cX12_fewestStrokes 76 = .ok (.getfield 106, 3) := by decide +kernel
theorem dX12_fewestStrokes_79 : decode cX12_fewestStrokes 79 = .ok (.bipush 17, 2) := by decide +kernel
theorem dX12_fewestStrokes_81 : decode cX12_fewestStrokes 81 = .ok (.iload 5, 2) := by decide +kernel
theorem dX12_fewestStrokes_83 : decode cX12_fewestStrokes 83 = .ok (.imul, 1) := by decide +kernel
theorem dX12_fewestStrokes_84 : decode cX12_fewestStrokes 84 = .ok (.iload_n 2, 1) := by decide +kernel
theorem dX12_fewestStrokes_85 : decode cX12_fewestStrokes 85 = .ok (.iadd, 1) := by decide +kernel
theorem dX12_fewestStrokes_86 : decode cX12_fewestStrokes 86 = .ok (.iconst 1, 1) := by decide +kernel
theorem dX12_fewestStrokes_87 : decode cX12_fewestStrokes 87 = .ok (.isub, 1) := by decide +kernel
theorem dX12_fewestStrokes_88 : decode cX12_fewestStrokes 88 = .ok (.iaload, 1) := by decide +kernel
theorem dX12_fewestStrokes_89 : decode cX12_fewestStrokes 89 = .ok (.iload_n 3, 1) := by decide +kernel
theorem dX12_fewestStrokes_90 : decode cX12_fewestStrokes 90 = .ok (.iconst 1, 1) := by decide +kernel
theorem dX12_fewestStrokes_91 : decode cX12_fewestStrokes 91 = .ok (.isub, 1) := by decide +kernel
theorem dX12_fewestStrokes_92 : decode cX12_fewestStrokes 92 = .ok (.iload 5, 2) := by decide +kernel
theorem dX12_fewestStrokes_94 : decode cX12_fewestStrokes 94 = .ok (.isub, 1) := by decide +kernel
theorem dX12_fewestStrokes_95 : decode cX12_fewestStrokes 95 = .ok (.iload_n 1, 1) := by decide +kernel
theorem dX12_fewestStrokes_96 : decode cX12_fewestStrokes 96 = .ok (.iadd, 1) := by decide +kernel
theorem dX12_fewestStrokes_97 : decode cX12_fewestStrokes 97 = .ok (.iconst 1, 1) := by decide +kernel
theorem dX12_fewestStrokes_98 : decode cX12_fewestStrokes 98 = .ok (.isub, 1) := by decide +kernel
theorem dX12_fewestStrokes_99 : decode cX12_fewestStrokes 99 = .ok (.iload_n 1, 1) := by decide +kernel
theorem dX12_fewestStrokes_100 : decode cX12_fewestStrokes 100 = .ok (.idiv, 1) := by decide +kernel
theorem dX12_fewestStrokes_101 : decode cX12_fewestStrokes 101 = .ok (.invokestatic 342, 3) := by decide +kernel
theorem dX12_fewestStrokes_104 : decode cX12_fewestStrokes 104 = .ok (.invokestatic 360, 3) := by decide +kernel
theorem dX12_fewestStrokes_107 : decode cX12_fewestStrokes 107 = .ok (.istore 4, 2) := by decide +kernel
theorem dX12_fewestStrokes_109 : decode cX12_fewestStrokes 109 = .ok (.iinc 5 1, 3) := by decide +kernel
theorem dX12_fewestStrokes_112 : decode cX12_fewestStrokes 112 = .ok (.goto (-45), 3) := by decide +kernel
theorem dX12_fewestStrokes_115 : decode cX12_fewestStrokes 115 = .ok (.aload_n 0, 1) := by decide +kernel
theorem dX12_fewestStrokes_116 : decode cX12_fewestStrokes 116 = .ok (.getfield 106, 3) := by decide +kernel
theorem dX12_fewestStrokes_119 : decode cX12_fewestStrokes 119 = .ok (.bipush 17, 2) := by decide +kernel
theorem dX12_fewestStrokes_121 : decode cX12_fewestStrokes 121 = .ok (.iload_n 3, 1) := by decide +kernel
theorem dX12_fewestStrokes_122 : decode cX12_fewestStrokes 122 = .ok (.imul, 1) := by decide +kernel
theorem dX12_fewestStrokes_123 : decode cX12_fewestStrokes 123 = .ok (.iload_n 2, 1) := by decide +kernel
theorem dX12_fewestStrokes_124 : decode cX12_fewestStrokes 124 = .ok (.iadd, 1) := by decide +kernel
theorem dX12_fewestStrokes_125 : decode cX12_fewestStrokes 125 = .ok (.iload 4, 2) := by decide +kernel
theorem dX12_fewestStrokes_127 : decode cX12_fewestStrokes 127 = .ok (.iastore, 1) := by decide +kernel
theorem dX12_fewestStrokes_128 : decode cX12_fewestStrokes 128 = .ok (.iinc 3 1, 3) := by decide +kernel
theorem dX12_fewestStrokes_131 : decode cX12_fewestStrokes 131 = .ok (.goto (-119), 3) := by decide +kernel
theorem dX12_fewestStrokes_134 : decode cX12_fewestStrokes 134 = .ok (.iinc 2 1, 3) := by decide +kernel
theorem dX12_fewestStrokes_137 : decode cX12_fewestStrokes 137 = .ok (.goto (-135), 3) := by decide +kernel
theorem dX12_fewestStrokes_140 : decode cX12_fewestStrokes 140 = .ok (.ldc_w 341, 3) := by decide +kernel
theorem dX12_fewestStrokes_143 : decode cX12_fewestStrokes 143 = .ok (.istore_n 2, 1) := by decide +kernel
theorem dX12_fewestStrokes_144 : decode cX12_fewestStrokes 144 = .ok (.iconst 0, 1) := by decide +kernel
theorem dX12_fewestStrokes_145 : decode cX12_fewestStrokes 145 = .ok (.istore_n 3, 1) := by decide +kernel
theorem dX12_fewestStrokes_146 : decode cX12_fewestStrokes 146 = .ok (.iload_n 3, 1) := by decide +kernel
theorem dX12_fewestStrokes_147 : decode cX12_fewestStrokes 147 = .ok (.aload_n 0, 1) := by decide +kernel
theorem dX12_fewestStrokes_148 : decode cX12_fewestStrokes 148 = .ok (.getfield 320, 3) := by decide +kernel
theorem dX12_fewestStrokes_151 : decode cX12_fewestStrokes 151 = .ok (.if_icmp .gt 43, 3) := by decide +kernel
theorem dX12_fewestStrokes_154 : decode cX12_fewestStrokes 154 = .ok (.iload_n 2, 1) := by decide +kernel
theorem dX12_fewestStrokes_155 : decode cX12_fewestStrokes 155 = .ok (.aload_n 0, 1) := by decide +kernel
theorem dX12_fewestStrokes_156 : decode cX12_fewestStrokes 156 = .ok (.getfield 106, 3) := by decide +kernel
theorem dX12_fewestStrokes_159 : decode cX12_fewestStrokes 159 = .ok (.bipush 17, 2) := by decide +kernel
theorem dX12_fewestStrokes_161 : decode cX12_fewestStrokes 161 = .ok (.iload_n 3, 1) := by decide +kernel
theorem dX12_fewestStrokes_162 : decode cX12_fewestStrokes 162 = .ok (.imul, 1) := by decide +kernel
theorem dX12_fewestStrokes_163 : decode cX12_fewestStrokes 163 = .ok (.aload_n 0, 1) := by decide +kernel
theorem dX12_fewestStrokes_164 : decode cX12_fewestStrokes 164 = .ok (.getfield 323, 3) := by decide +kernel
theorem dX12_fewestStrokes_167 : decode cX12_fewestStrokes 167 = .ok (.iadd, 1) := by decide +kernel
theorem dX12_fewestStrokes_168 : decode cX12_fewestStrokes 168 = .ok (.iaload, 1) := by decide +kernel
theorem dX12_fewestStrokes_169 : decode cX12_fewestStrokes 169 = .ok (.aload_n 0, 1) := by decide +kernel
theorem dX12_fewestStrokes_170 : decode cX12_fewestStrokes 170 = .ok (.getfield 320, 3) := by decide +kernel
theorem dX12_fewestStrokes_173 : decode cX12_fewestStrokes 173 = .ok (.iload_n 3, 1) := by decide +kernel
theorem dX12_fewestStrokes_174 : decode cX12_fewestStrokes 174 = .ok (.isub, 1) := by decide +kernel
theorem dX12_fewestStrokes_175 : decode cX12_fewestStrokes 175 = .ok (.iload_n 1, 1) := by decide +kernel
theorem dX12_fewestStrokes_176 : decode cX12_fewestStrokes 176 = .ok (.iadd, 1) := by decide +kernel
theorem dX12_fewestStrokes_177 : decode cX12_fewestStrokes 177 = .ok (.iconst 1, 1) := by decide +kernel
theorem dX12_fewestStrokes_178 : decode cX12_fewestStrokes 178 = .ok (.isub, 1) := by decide +kernel
theorem dX12_fewestStrokes_179 : decode cX12_fewestStrokes 179 = .ok (.iload_n 1, 1) := by decide +kernel
theorem dX12_fewestStrokes_180 : decode cX12_fewestStrokes 180 = .ok (.idiv, 1) := by decide +kernel
theorem dX12_fewestStrokes_181 : decode cX12_fewestStrokes 181 = .ok (.invokestatic 342, 3) := by decide +kernel
theorem dX12_fewestStrokes_184 : decode cX12_fewestStrokes 184 = .ok (.invokestatic 360, 3) := by decide +kernel
theorem dX12_fewestStrokes_187 : decode cX12_fewestStrokes 187 = .ok (.istore_n 2, 1) := by decide +kernel
theorem dX12_fewestStrokes_188 : decode cX12_fewestStrokes 188 = .ok (.iinc 3 1, 3) := by decide +kernel
theorem dX12_fewestStrokes_191 : decode cX12_fewestStrokes 191 = .ok (.goto (-45), 3) := by decide +kernel
theorem dX12_fewestStrokes_194 : decode cX12_fewestStrokes 194 = .ok (.iload_n 2, 1) := by decide +kernel
theorem dX12_fewestStrokes_195 : decode cX12_fewestStrokes 195 = .ok (.ireturn, 1) := by decide +kernel
theorem dX12_forged_0 : decode cX12_forged 0 = .ok (.aload_n 0, 1) := by decide +kernel
theorem dX12_forged_1 : decode cX12_forged 1 = .ok (.iload_n 1, 1) := by decide +kernel
theorem dX12_forged_2 : decode cX12_forged 2 = .ok (.invokevirtual 326, 3) := by decide +kernel
theorem dX12_forged_5 : decode cX12_forged 5 = .ok (.ifCond .ne 5, 3) := by decide +kernel
theorem dX12_forged_8 : decode cX12_forged 8 = .ok (.iconst (-1), 1) := by decide +kernel
theorem dX12_forged_9 : decode cX12_forged 9 = .ok (.ireturn, 1) := by decide +kernel
theorem dX12_forged_10 : decode cX12_forged 10 = .ok (.aload_n 0, 1) := by decide +kernel
theorem dX12_forged_11 : decode cX12_forged 11 = .ok (.iload_n 1, 1) := by decide +kernel
theorem dX12_forged_12 : decode cX12_forged 12 = .ok (.invokevirtual 338, 3) := by decide +kernel
theorem dX12_forged_15 : decode cX12_forged 15 = .ok (.iconst 0, 1) := by decide +kernel
theorem dX12_forged_16 : decode cX12_forged 16 = .ok (.istore_n 2, 1) := by decide +kernel
theorem dX12_forged_17 : decode cX12_forged 17 = .ok (.iload_n 2, 1) := by decide +kernel
theorem dX12_forged_18 : decode cX12_forged 18 = .ok (.aload_n 0, 1) := by decide +kernel
theorem dX12_forged_19 : decode cX12_forged 19 = .ok (.getfield 152, 3) := by decide +kernel
theorem dX12_forged_22 : decode cX12_forged 22 = .ok (.if_icmp .ge 25, 3) := by decide +kernel
theorem dX12_forged_25 : decode cX12_forged 25 = .ok (.aload_n 0, 1) := by decide +kernel
theorem dX12_forged_26 : decode cX12_forged 26 = .ok (.iload_n 2, 1) := by decide +kernel
theorem dX12_forged_27 : decode cX12_forged 27 = .ok (.iconst 1, 1) := by decide +kernel
theorem dX12_forged_28 : decode cX12_forged 28 = .ok (.invokevirtual 334, 3) := by decide +kernel
theorem dX12_forged_31 : decode cX12_forged 31 = .ok (.aload_n 0, 1) := by decide +kernel
theorem dX12_forged_32 : decode cX12_forged 32 = .ok (.iconst (-1), 1) := by decide +kernel
theorem dX12_forged_33 : decode cX12_forged 33 = .ok (.invokevirtual 417, 3) := by decide +kernel
theorem dX12_forged_36 : decode cX12_forged 36 = .ok (.ifCond .eq 5, 3) := by decide +kernel
theorem dX12_forged_39 : decode cX12_forged 39 = .ok (.iconst 0, 1) := by decide +kernel
theorem dX12_forged_40 : decode cX12_forged 40 = .ok (.ireturn, 1) := by decide +kernel
theorem dX12_forged_41 : decode cX12_forged 41 = .ok (.iinc 2 1, 3) := by decide +kernel
theorem dX12_forged_44 : decode cX12_forged 44 = .ok (.goto (-27), 3) := by decide +kernel
theorem dX12_forged_47 : decode cX12_forged 47 = .ok (.iconst 1, 1) := by decide +kernel
theorem dX12_forged_48 : decode cX12_forged 48 = .ok (.ireturn, 1) := by decide +kernel
theorem dX12_hasOpenSum_0 : decode cX12_hasOpenSum 0 = .ok (.iload_n 1, 1) := by decide +kernel
theorem dX12_hasOpenSum_1 : decode cX12_hasOpenSum 1 = .ok (.istore_n 2, 1) := by decide +kernel
theorem dX12_hasOpenSum_2 : decode cX12_hasOpenSum 2 = .ok (.iload_n 2, 1) := by decide +kernel
theorem dX12_hasOpenSum_3 : decode cX12_hasOpenSum 3 = .ok (.aload_n 0, 1) := by decide +kernel
theorem dX12_hasOpenSum_4 : decode cX12_hasOpenSum 4 = .ok (.getfield 218, 3) := by decide +kernel
theorem dX12_hasOpenSum_7 : decode cX12_hasOpenSum 7 = .ok (.if_icmp .ge 25, 3) := by decide +kernel
theorem dX12_hasOpenSum_10 : decode cX12_hasOpenSum 10 = .ok (.aload_n 0, 1) := by decide +kernel
theorem dX12_hasOpenSum_11 : decode cX12_hasOpenSum 11 = .ok (.getfield 33, 3) := by decide +kernel
theorem dX12_hasOpenSum_14 : decode cX12_hasOpenSum 14 = .ok (.iload_n 2, 1) := by decide +kernel
theorem dX12_hasOpenSum_15 : decode cX12_hasOpenSum 15 = .ok (.iaload, 1) := by decide +kernel
theorem dX12_hasOpenSum_16 : decode cX12_hasOpenSum 16 = .ok (.ldc 214, 2) := by decide +kernel
theorem dX12_hasOpenSum_18 : decode cX12_hasOpenSum 18 = .ok (.idiv, 1) := by decide +kernel
theorem dX12_hasOpenSum_19 : decode cX12_hasOpenSum 19 = .ok (.bipush 14, 2) := by decide +kernel
theorem dX12_hasOpenSum_21 : decode cX12_hasOpenSum 21 = .ok (.if_icmp .ne 5, 3) := by decide +kernel
theorem dX12_hasOpenSum_24 : decode cX12_hasOpenSum 24 = .ok (.iconst 1, 1) := by decide +kernel
theorem dX12_hasOpenSum_25 : decode cX12_hasOpenSum 25 = .ok (.ireturn, 1) := by decide +kernel
theorem dX12_hasOpenSum_26 : decode cX12_hasOpenSum 26 = .ok (.iinc 2 1, 3) := by decide +kernel
theorem dX12_hasOpenSum_29 : decode cX12_hasOpenSum 29 = .ok (.goto (-27), 3) := by decide +kernel
theorem dX12_hasOpenSum_32 : decode cX12_hasOpenSum 32 = .ok (.iconst 0, 1) := by decide +kernel
theorem dX12_hasOpenSum_33 : decode cX12_hasOpenSum 33 = .ok (.ireturn, 1) := by decide +kernel
theorem dX12_here_0 : decode cX12_here 0 = .ok (.aload_n 0, 1) := by decide +kernel
theorem dX12_here_1 : decode cX12_here 1 = .ok (.getfield 187, 3) := by decide +kernel
theorem dX12_here_4 : decode cX12_here 4 = .ok (.aload_n 0, 1) := by decide +kernel
theorem dX12_here_5 : decode cX12_here 5 = .ok (.getfield 190, 3) := by decide +kernel
theorem dX12_here_8 : decode cX12_here 8 = .ok (.if_icmp .ge 19, 3) := by decide +kernel
theorem dX12_here_11 : decode cX12_here 11 = .ok (.aload_n 0, 1) := by decide +kernel
theorem dX12_here_12 : decode cX12_here 12 = .ok (.getfield 26, 3) := by decide +kernel
theorem dX12_here_15 : decode cX12_here 15 = .ok (.aload_n 0, 1) := by decide +kernel
theorem dX12_here_16 : decode cX12_here 16 = .ok (.getfield 187, 3) := by decide +kernel
theorem dX12_here_19 : decode cX12_here 19 = .ok (.baload, 1) := by decide +kernel
theorem dX12_here_20 : decode cX12_here 20 = .ok (.sipush 255, 3) := by decide +kernel
theorem dX12_here_23 : decode cX12_here 23 = .ok (.iand, 1) := by decide +kernel
theorem dX12_here_24 : decode cX12_here 24 = .ok (.goto 4, 3) := by decide +kernel
theorem dX12_here_27 : decode cX12_here 27 = .ok (.iconst (-1), 1) := by decide +kernel
theorem dX12_here_28 : decode cX12_here 28 = .ok (.ireturn, 1) := by decide +kernel
theorem dX12_hidden_0 : decode cX12_hidden 0 = .ok (.aload_n 0, 1) := by decide +kernel
theorem dX12_hidden_1 : decode cX12_hidden 1 = .ok (.iload_n 1, 1) := by decide +kernel
theorem dX12_hidden_2 : decode cX12_hidden 2 = .ok (.iconst 2, 1) := by decide +kernel
theorem dX12_hidden_3 : decode cX12_hidden 3 = .ok (.iconst 3, 1) := by decide +kernel
theorem dX12_hidden_4 : decode cX12_hidden 4 = .ok (.invokevirtual 391, 3) := by decide +kernel
theorem dX12_hidden_7 : decode cX12_hidden 7 = .ok (.ifCond .ne 5, 3) := by decide +kernel
theorem dX12_hidden_10 : decode cX12_hidden 10 = .ok (.iconst (-1), 1) := by decide +kernel
theorem dX12_hidden_11 : decode cX12_hidden 11 = .ok (.ireturn, 1) := by decide +kernel
theorem dX12_hidden_12 : decode cX12_hidden 12 = .ok (.aload_n 0, 1) := by decide +kernel
theorem dX12_hidden_13 : decode cX12_hidden 13 = .ok (.invokevirtual 394, 3) := by decide +kernel
theorem dX12_hidden_16 : decode cX12_hidden 16 = .ok (.aload_n 0, 1) := by decide +kernel
theorem dX12_hidden_17 : decode cX12_hidden 17 = .ok (.getfield 124, 3) := by decide +kernel
theorem dX12_hidden_20 : decode cX12_hidden 20 = .ok (.iconst 0, 1) := by decide +kernel
theorem dX12_hidden_21 : decode cX12_hidden 21 = .ok (.iaload, 1) := by decide +kernel
theorem dX12_hidden_22 : decode cX12_hidden 22 = .ok (.istore_n 3, 1) := by decide +kernel
theorem dX12_hidden_23 : decode cX12_hidden 23 = .ok (.iload_n 2, 1) := by decide +kernel
theorem dX12_hidden_24 : decode cX12_hidden 24 = .ok (.iconst (-1), 1) := by decide +kernel
theorem dX12_hidden_25 : decode cX12_hidden 25 = .ok (.if_icmp .ne 5, 3) := by decide +kernel
theorem dX12_hidden_28 : decode cX12_hidden 28 = .ok (.iload_n 3, 1) := by decide +kernel
theorem dX12_hidden_29 : decode cX12_hidden 29 = .ok (.ireturn, 1) := by decide +kernel
theorem dX12_hidden_30 : decode cX12_hidden 30 = .ok (.iload_n 2, 1) := by decide +kernel
theorem dX12_hidden_31 : decode cX12_hidden 31 = .ok (.iconst 0, 1) := by decide +kernel
theorem dX12_hidden_32 : decode cX12_hidden 32 = .ok (.iload_n 3, 1) := by decide +kernel
theorem dX12_hidden_33 : decode cX12_hidden 33 = .ok (.iconst 1, 1) := by decide +kernel
theorem dX12_hidden_34 : decode cX12_hidden 34 = .ok (.isub, 1) := by decide +kernel
theorem dX12_hidden_35 : decode cX12_hidden 35 = .ok (.invokestatic 161, 3) := by decide +kernel
theorem dX12_hidden_38 : decode cX12_hidden 38 = .ok (.ifCond .ne 5, 3) := by decide +kernel
theorem dX12_hidden_41 : decode cX12_hidden 41 = .ok (.iconst (-1), 1) := by decide +kernel
theorem dX12_hidden_42 : decode cX12_hidden 42 = .ok (.ireturn, 1) := by decide +kernel
theorem dX12_hidden_43 : decode cX12_hidden 43 = .ok (.iconst 0, 1) := by decide +kernel
theorem dX12_hidden_44 : decode cX12_hidden 44 = .ok (.istore 4, 2) := by decide +kernel
theorem dX12_hidden_46 : decode cX12_hidden 46 = .ok (.iconst 0, 1) := by decide +kernel
theorem dX12_hidden_47 : decode cX12_hidden 47 = .ok (.istore 5, 2) := by decide +kernel
theorem dX12_hidden_49 : decode cX12_hidden 49 = .ok (.iconst 0, 1) := by decide +kernel
theorem dX12_hidden_50 : decode cX12_hidden 50 = .ok (.istore 6, 2) := by decide +kernel
theorem dX12_hidden_52 : decode cX12_hidden 52 = .ok (.iconst 0, 1) := by decide +kernel
theorem dX12_hidden_53 : decode cX12_hidden 53 = .ok (.istore 7, 2) := by decide +kernel
theorem dX12_hidden_55 : decode cX12_hidden 55 = .ok (.iconst 0, 1) := by decide +kernel
theorem dX12_hidden_56 : decode cX12_hidden 56 = .ok (.istore 8, 2) := by decide +kernel
theorem dX12_hidden_58 : decode cX12_hidden 58 = .ok (.aload_n 0, 1) := by decide +kernel
theorem dX12_hidden_59 : decode cX12_hidden 59 = .ok (.iload 4, 2) := by decide +kernel
theorem dX12_hidden_61 : decode cX12_hidden 61 = .ok (.iload 5, 2) := by decide +kernel
theorem dX12_hidden_63 : decode cX12_hidden 63 = .ok (.iload 6, 2) := by decide +kernel
theorem dX12_hidden_65 : decode cX12_hidden 65 = .ok (.iload 8, 2) := by decide +kernel
theorem dX12_hidden_67 : decode cX12_hidden 67 = .ok (.invokevirtual 387, 3) := by decide +kernel
theorem dX12_hidden_70 : decode cX12_hidden 70 = .ok (.aload_n 0, 1) := by decide +kernel
theorem dX12_hidden_71 : decode cX12_hidden 71 = .ok (.getfield 124, 3) := by decide +kernel
theorem dX12_hidden_74 : decode cX12_hidden 74 = .ok (.aload_n 0, 1) := by decide +kernel
theorem dX12_hidden_75 : decode cX12_hidden 75 = .ok (.iload 4, 2) := by decide +kernel
theorem dX12_hidden_77 : decode cX12_hidden 77 = .ok (.iload 5, 2) := by decide +kernel
theorem dX12_hidden_79 : decode cX12_hidden 79 = .ok (.iload 6, 2) := by decide +kernel
theorem dX12_hidden_81 : decode cX12_hidden 81 = .ok (.invokevirtual 384, 3) := by decide +kernel
theorem dX12_hidden_84 : decode cX12_hidden 84 = .ok (.iaload, 1) := by decide +kernel
theorem dX12_hidden_85 : decode cX12_hidden 85 = .ok (.if_icmp .eq 12, 3) := by decide +kernel
theorem dX12_hidden_88 : decode cX12_hidden 88 = .ok (.iload 8, 2) := by decide +kernel
theorem dX12_hidden_90 : decode cX12_hidden 90 = .ok (.iconst 1, 1) := by decide +kernel
theorem dX12_hidden_91 : decode cX12_hidden 91 = .ok (.iadd, 1) := by decide +kernel
theorem dX12_hidden_92 : decode cX12_hidden 92 = .ok (.istore 8, 2) := by decide +kernel
theorem dX12_hidden_94 : decode cX12_hidden 94 = .ok (.goto (-36), 3) := by decide +kernel
theorem dX12_hidden_97 : decode cX12_hidden 97 = .ok (.iload 7, 2) := by decide +kernel
theorem dX12_hidden_99 : decode cX12_hidden 99 = .ok (.iload_n 2, 1) := by decide +kernel
theorem dX12_hidden_100 : decode cX12_hidden 100 = .ok (.if_icmp .ne 6, 3) := by decide +kernel
theorem dX12_hidden_103 : decode cX12_hidden 103 = .ok (.iload 8, 2) := by decide +kernel
theorem dX12_hidden_105 : decode cX12_hidden 105 = .ok (.ireturn, 1) := by decide +kernel
theorem dX12_hidden_106 : decode cX12_hidden 106 = .ok (.aload_n 0, 1) := by decide +kernel
theorem dX12_hidden_107 : decode cX12_hidden 107 = .ok (.iconst 0, 1) := by decide +kernel
theorem dX12_hidden_108 : decode cX12_hidden 108 = .ok (.iload 4, 2) := by decide +kernel
theorem dX12_hidden_110 : decode cX12_hidden 110 = .ok (.iload 8, 2) := by decide +kernel
theorem dX12_hidden_112 : decode cX12_hidden 112 = .ok (.invokevirtual 378, 3) := by decide +kernel
theorem dX12_hidden_115 : decode cX12_hidden 115 = .ok (.iconst 1, 1) := by decide +kernel
theorem dX12_hidden_116 : decode cX12_hidden 116 = .ok (.iadd, 1) := by decide +kernel
theorem dX12_hidden_117 : decode cX12_hidden 117 = .ok (.istore 4, 2) := by decide +kernel
theorem dX12_hidden_119 : decode cX12_hidden 119 = .ok (.aload_n 0, 1) := by decide +kernel
theorem dX12_hidden_120 : decode cX12_hidden 120 = .ok (.iconst 1, 1) := by decide +kernel
theorem dX12_hidden_121 : decode cX12_hidden 121 = .ok (.iload 5, 2) := by decide +kernel
theorem dX12_hidden_123 : decode cX12_hidden 123 = .ok (.iload 8, 2) := by decide +kernel
theorem dX12_hidden_125 : decode cX12_hidden 125 = .ok (.invokevirtual 378, 3) := by decide +kernel
theorem dX12_hidden_128 : decode cX12_hidden 128 = .ok (.iconst 1, 1) := by decide +kernel
theorem dX12_hidden_129 : decode cX12_hidden 129 = .ok (.iadd, 1) := by decide +kernel
theorem dX12_hidden_130 : decode cX12_hidden 130 = .ok (.istore 5, 2) := by decide +kernel
theorem dX12_hidden_132 : decode cX12_hidden 132 = .ok (.iconst 2, 1) := by decide +kernel
theorem dX12_hidden_133 : decode cX12_hidden 133 = .ok (.aload_n 0, 1) := by decide +kernel
theorem dX12_hidden_134 : decode cX12_hidden 134 = .ok (.getfield 369, 3) := by decide +kernel
theorem dX12_hidden_137 : decode cX12_hidden 137 = .ok (.aload_n 0, 1) := by decide +kernel
theorem dX12_hidden_138 : decode cX12_hidden 138 = .ok (.iconst 2, 1) := by decide +kernel
theorem dX12_hidden_139 : decode cX12_hidden 139 = .ok (.iload 6, 2) := by decide +kernel
theorem dX12_hidden_141 : decode cX12_hidden 141 = .ok (.iload 8, 2) := by decide +kernel
theorem dX12_hidden_143 : decode cX12_hidden 143 = .ok (.invokevirtual 378, 3) := by decide +kernel
theorem dX12_hidden_146 : decode cX12_hidden 146 = .ok (.invokestatic 381, 3) := by decide +kernel
theorem dX12_hidden_149 : decode cX12_hidden 149 = .ok (.istore 6, 2) := by decide +kernel
theorem dX12_hidden_151 : decode cX12_hidden 151 = .ok (.iinc 7 1, 3) := by decide +kernel
theorem dX12_hidden_154 : decode cX12_hidden 154 = .ok (.goto (-99), 3) := by decide +kernel
theorem dX12_hiddenAt_0 : decode cX12_hiddenAt 0 = .ok (.bipush 17, 2) := by decide +kernel
theorem dX12_hiddenAt_2 : decode cX12_hiddenAt 2 = .ok (.iload_n 1, 1) := by decide +kernel
theorem dX12_hiddenAt_3 : decode cX12_hiddenAt 3 = .ok (.imul, 1) := by decide +kernel
theorem dX12_hiddenAt_4 : decode cX12_hiddenAt 4 = .ok (.iload_n 2, 1) := by decide +kernel
theorem dX12_hiddenAt_5 : decode cX12_hiddenAt 5 = .ok (.iadd, 1) := by decide +kernel
theorem dX12_hiddenAt_6 : decode cX12_hiddenAt 6 = .ok (.bipush 17, 2) := by decide +kernel
theorem dX12_hiddenAt_8 : decode cX12_hiddenAt 8 = .ok (.imul, 1) := by decide +kernel
theorem dX12_hiddenAt_9 : decode cX12_hiddenAt 9 = .ok (.iload_n 3, 1) := by decide +kernel
theorem dX12_hiddenAt_10 : decode cX12_hiddenAt 10 = .ok (.iadd, 1) := by decide +kernel
theorem dX12_hiddenAt_11 : decode cX12_hiddenAt 11 = .ok (.ireturn, 1) := by decide +kernel
theorem dX12_hiddenBy_0 : decode cX12_hiddenBy 0 = .ok (.aload_n 0, 1) := by decide +kernel
theorem dX12_hiddenBy_1 : decode cX12_hiddenBy 1 = .ok (.iconst 0, 1) := by decide +kernel
theorem dX12_hiddenBy_2 : decode cX12_hiddenBy 2 = .ok (.iload_n 1, 1) := by decide +kernel
theorem dX12_hiddenBy_3 : decode cX12_hiddenBy 3 = .ok (.iload 4, 2) := by decide +kernel
theorem dX12_hiddenBy_5 : decode cX12_hiddenBy 5 = .ok (.invokevirtual 378, 3) := by decide +kernel
theorem dX12_hiddenBy_8 : decode cX12_hiddenBy 8 = .ok (.istore 5, 2) := by decide +kernel
theorem dX12_hiddenBy_10 : decode cX12_hiddenBy 10 = .ok (.aload_n 0, 1) := by decide +kernel
theorem dX12_hiddenBy_11 : decode cX12_hiddenBy 11 = .ok (.iconst 1, 1) := by decide +kernel
theorem dX12_hiddenBy_12 : decode cX12_hiddenBy 12 = .ok (.iload_n 2, 1) := by decide +kernel
theorem dX12_hiddenBy_13 : decode cX12_hiddenBy 13 = .ok (.iload 4, 2) := by decide +kernel
theorem dX12_hiddenBy_15 : decode cX12_hiddenBy 15 = .ok (.invokevirtual 378, 3) := by decide +kernel
theorem dX12_hiddenBy_18 : decode cX12_hiddenBy 18 = .ok (.istore 6, 2) := by decide +kernel
theorem dX12_hiddenBy_20 : decode cX12_hiddenBy 20 = .ok (.aload_n 0, 1) := by decide +kernel
theorem dX12_hiddenBy_21 : decode cX12_hiddenBy 21 = .ok (.iconst 2, 1) := by decide +kernel
theorem dX12_hiddenBy_22 : decode cX12_hiddenBy 22 = .ok (.iload_n 3, 1) := by decide +kernel
theorem dX12_hiddenBy_23 : decode cX12_hiddenBy 23 = .ok (.iload 4, 2) := by decide +kernel
theorem dX12_hiddenBy_25 : decode cX12_hiddenBy 25 = .ok (.invokevirtual 378, 3) := by decide +kernel
theorem dX12_hiddenBy_28 : decode cX12_hiddenBy 28 = .ok (.istore 7, 2) := by decide +kernel
theorem dX12_hiddenBy_30 : decode cX12_hiddenBy 30 = .ok (.iload 5, 2) := by decide +kernel
theorem dX12_hiddenBy_32 : decode cX12_hiddenBy 32 = .ok (.iconst (-1), 1) := by decide +kernel
theorem dX12_hiddenBy_33 : decode cX12_hiddenBy 33 = .ok (.if_icmp .eq 15, 3) := by decide +kernel
theorem dX12_hiddenBy_36 : decode cX12_hiddenBy 36 = .ok (.iload 6, 2) := by decide +kernel
theorem dX12_hiddenBy_38 : decode cX12_hiddenBy 38 = .ok (.iconst (-1), 1) := by decide +kernel
theorem dX12_hiddenBy_39 : decode cX12_hiddenBy 39 = .ok (.if_icmp .eq 9, 3) := by decide +kernel
theorem dX12_hiddenBy_42 : decode cX12_hiddenBy 42 = .ok (.iload 7, 2) := by decide +kernel
theorem dX12_hiddenBy_44 : decode cX12_hiddenBy 44 = .ok (.iconst (-1), 1) := by decide +kernel
theorem dX12_hiddenBy_45 : decode cX12_hiddenBy 45 = .ok (.if_icmp .ne 5, 3) := by decide +kernel
theorem dX12_hiddenBy_48 : decode cX12_hiddenBy 48 = .ok (.iconst (-1), 1) := by decide +kernel
theorem dX12_hiddenBy_49 : decode cX12_hiddenBy 49 = .ok (.ireturn, 1) := by decide +kernel
theorem dX12_hiddenBy_50 : decode cX12_hiddenBy 50 = .ok (.iconst 1, 1) := by decide +kernel
theorem dX12_hiddenBy_51 : decode cX12_hiddenBy 51 = .ok (.aload_n 0, 1) := by decide +kernel
theorem dX12_hiddenBy_52 : decode cX12_hiddenBy 52 = .ok (.getfield 124, 3) := by decide +kernel
theorem dX12_hiddenBy_55 : decode cX12_hiddenBy 55 = .ok (.aload_n 0, 1) := by decide +kernel
theorem dX12_hiddenBy_56 : decode cX12_hiddenBy 56 = .ok (.iload 5, 2) := by decide +kernel
theorem dX12_hiddenBy_58 : decode cX12_hiddenBy 58 = .ok (.iconst 1, 1) := by decide +kernel
theorem dX12_hiddenBy_59 : decode cX12_hiddenBy 59 = .ok (.iadd, 1) := by decide +kernel
theorem dX12_hiddenBy_60 : decode cX12_hiddenBy 60 = .ok (.iload 6, 2) := by decide +kernel
theorem dX12_hiddenBy_62 : decode cX12_hiddenBy 62 = .ok (.iconst 1, 1) := by decide +kernel
theorem dX12_hiddenBy_63 : decode cX12_hiddenBy 63 = .ok (.iadd, 1) := by decide +kernel
theorem dX12_hiddenBy_64 : decode cX12_hiddenBy 64 = .ok (.iconst 2, 1) := by decide +kernel
theorem dX12_hiddenBy_65 : decode cX12_hiddenBy 65 = .ok (.aload_n 0, 1) := by decide +kernel
theorem dX12_hiddenBy_66 : decode cX12_hiddenBy 66 = .ok (.getfield 369, 3) := by decide +kernel
theorem dX12_hiddenBy_69 : decode cX12_hiddenBy 69 = .ok (.iload 7, 2) := by decide +kernel
theorem dX12_hiddenBy_71 : decode cX12_hiddenBy 71 = .ok (.invokestatic 381, 3) := by decide +kernel
theorem dX12_hiddenBy_74 : decode cX12_hiddenBy 74 = .ok (.invokevirtual 384, 3) := by decide +kernel
theorem dX12_hiddenBy_77 : decode cX12_hiddenBy 77 = .ok (.iaload, 1) := by decide +kernel
theorem dX12_hiddenBy_78 : decode cX12_hiddenBy 78 = .ok (.iadd, 1) := by decide +kernel
theorem dX12_hiddenBy_79 : decode cX12_hiddenBy 79 = .ok (.ireturn, 1) := by decide +kernel
theorem dX12_howOften_0 : decode cX12_howOften 0 = .ok (.iconst 0, 1) := by decide +kernel
theorem dX12_howOften_1 : decode cX12_howOften 1 = .ok (.istore_n 3, 1) := by decide +kernel
theorem dX12_howOften_2 : decode cX12_howOften 2 = .ok (.iconst 0, 1) := by decide +kernel
theorem dX12_howOften_3 : decode cX12_howOften 3 = .ok (.istore 4, 2) := by decide +kernel
theorem dX12_howOften_5 : decode cX12_howOften 5 = .ok (.iload 4, 2) := by decide +kernel
theorem dX12_howOften_7 : decode cX12_howOften 7 = .ok (.aload_n 0, 1) := by decide +kernel
theorem dX12_howOften_8 : decode cX12_howOften 8 = .ok (.getfield 7, 3) := by decide +kernel
theorem dX12_howOften_11 : decode cX12_howOften 11 = .ok (.iload_n 1, 1) := by decide +kernel
theorem dX12_howOften_12 : decode cX12_howOften 12 = .ok (.iaload, 1) := by decide +kernel
theorem dX12_howOften_13 : decode cX12_howOften 13 = .ok (.if_icmp .ge 48, 3) := by decide +kernel
theorem dX12_howOften_16 : decode cX12_howOften 16 = .ok (.iload_n 3, 1) := by decide +kernel
theorem dX12_howOften_17 : decode cX12_howOften 17 = .ok (.aload_n 0, 1) := by decide +kernel
theorem dX12_howOften_18 : decode cX12_howOften 18 = .ok (.getfield 22, 3) := by decide +kernel
theorem dX12_howOften_21 : decode cX12_howOften 21 = .ok (.bipush 40, 2) := by decide +kernel
theorem dX12_howOften_23 : decode cX12_howOften 23 = .ok (.iload_n 1, 1) := by decide +kernel
theorem dX12_howOften_24 : decode cX12_howOften 24 = .ok (.imul, 1) := by decide +kernel
theorem dX12_howOften_25 : decode cX12_howOften 25 = .ok (.iload 4, 2) := by decide +kernel
theorem dX12_howOften_27 : decode cX12_howOften 27 = .ok (.iadd, 1) := by decide +kernel
theorem dX12_howOften_28 : decode cX12_howOften 28 = .ok (.baload, 1) := by decide +kernel
theorem dX12_howOften_29 : decode cX12_howOften 29 = .ok (.ifCond .ne 23, 3) := by decide +kernel
theorem dX12_howOften_32 : decode cX12_howOften 32 = .ok (.aload_n 0, 1) := by decide +kernel
theorem dX12_howOften_33 : decode cX12_howOften 33 = .ok (.getfield 13, 3) := by decide +kernel
theorem dX12_howOften_36 : decode cX12_howOften 36 = .ok (.bipush 40, 2) := by decide +kernel
theorem dX12_howOften_38 : decode cX12_howOften 38 = .ok (.iload_n 1, 1) := by decide +kernel
theorem dX12_howOften_39 : decode cX12_howOften 39 = .ok (.imul, 1) := by decide +kernel
theorem dX12_howOften_40 : decode cX12_howOften 40 = .ok (.iload 4, 2) := by decide +kernel
theorem dX12_howOften_42 : decode cX12_howOften 42 = .ok (.iadd, 1) := by decide +kernel
theorem dX12_howOften_43 : decode cX12_howOften 43 = .ok (.iaload, 1) := by decide +kernel
theorem dX12_howOften_44 : decode cX12_howOften 44 = .ok (.iload_n 2, 1) := by decide +kernel
theorem dX12_howOften_45 : decode cX12_howOften 45 = .ok (.if_icmp .ne 7, 3) := by decide +kernel
theorem dX12_howOften_48 : decode cX12_howOften 48 = .ok (.iconst 1, 1) := by decide +kernel
theorem dX12_howOften_49 : decode cX12_howOften 49 = .ok (.goto 4, 3) := by decide +kernel
theorem dX12_howOften_52 : decode cX12_howOften 52 = .ok (.iconst 0, 1) := by decide +kernel
theorem dX12_howOften_53 : decode cX12_howOften 53 = .ok (.iadd, 1) := by decide +kernel
theorem dX12_howOften_54 : decode cX12_howOften 54 = .ok (.istore_n 3, 1) := by decide +kernel
theorem dX12_howOften_55 : decode cX12_howOften 55 = .ok (.iinc 4 1, 3) := by decide +kernel
theorem dX12_howOften_58 : decode cX12_howOften 58 = .ok (.goto (-53), 3) := by decide +kernel
theorem dX12_howOften_61 : decode cX12_howOften 61 = .ok (.iload_n 3, 1) := by decide +kernel
theorem dX12_howOften_62 : decode cX12_howOften 62 = .ok (.ireturn, 1) := by decide +kernel
theorem dX12_in_0 : decode cX12_in 0 = .ok (.iload_n 0, 1) := by decide +kernel
theorem dX12_in_1 : decode cX12_in 1 = .ok (.iload_n 1, 1) := by decide +kernel
theorem dX12_in_2 : decode cX12_in 2 = .ok (.if_icmp .lt 12, 3) := by decide +kernel
theorem dX12_in_5 : decode cX12_in 5 = .ok (.iload_n 0, 1) := by decide +kernel
theorem dX12_in_6 : decode cX12_in 6 = .ok (.iload_n 2, 1) := by decide +kernel
theorem dX12_in_7 : decode cX12_in 7 = .ok (.if_icmp .gt 7, 3) := by decide +kernel
theorem dX12_in_10 : decode cX12_in 10 = .ok (.iconst 1, 1) := by decide +kernel
theorem dX12_in_11 : decode cX12_in 11 = .ok (.goto 4, 3) := by decide +kernel
theorem dX12_in_14 : decode cX12_in 14 = .ok (.iconst 0, 1) := by decide +kernel
theorem dX12_in_15 : decode cX12_in 15 = .ok (.ireturn, 1) := by decide +kernel
theorem dX12_init_0 : decode cX12_init 0 = .ok (.aload_n 0, 1) := by decide +kernel
theorem dX12_init_1 : decode cX12_init 1 = .ok (.invokespecial 1, 3) := by decide +kernel
theorem dX12_init_4 : decode cX12_init 4 = .ok (.aload_n 0, 1) := by decide +kernel
theorem dX12_init_5 : decode cX12_init 5 = .ok (.bipush 8, 2) := by decide +kernel
theorem dX12_init_7 : decode cX12_init 7 = .ok (.newarray .int, 2) := by decide +kernel
theorem dX12_init_9 : decode cX12_init 9 = .ok (.putfield 7, 3) := by decide +kernel
theorem dX12_init_12 : decode cX12_init 12 = .ok (.aload_n 0, 1) := by decide +kernel
theorem dX12_init_13 : decode cX12_init 13 = .ok (.sipush 320, 3) := by decide +kernel
theorem dX12_init_16 : decode cX12_init 16 = .ok (.newarray .int, 2) := by decide +kernel
theorem dX12_init_18 : decode cX12_init 18 = .ok (.putfield 13, 3) := by decide +kernel
theorem dX12_init_21 : decode cX12_init 21 = .ok (.aload_n 0, 1) := by decide +kernel
theorem dX12_init_22 : decode cX12_init 22 = .ok (.bipush 8, 2) := by decide +kernel
theorem dX12_init_24 : decode cX12_init 24 = .ok (.newarray .int, 2) := by decide +kernel
theorem dX12_init_26 : decode cX12_init 26 = .ok (.putfield 16, 3) := by decide +kernel
theorem dX12_init_29 : decode cX12_init 29 = .ok (.aload_n 0, 1) := by decide +kernel
theorem dX12_init_30 : decode cX12_init 30 = .ok (.sipush 128, 3) := by decide +kernel
theorem dX12_init_33 : decode cX12_init 33 = .ok (.newarray .int, 2) := by decide +kernel
theorem dX12_init_35 : decode cX12_init 35 = .ok (.putfield 19, 3) := by decide +kernel
theorem dX12_init_38 : decode cX12_init 38 = .ok (.aload_n 0, 1) := by decide +kernel
theorem dX12_init_39 : decode cX12_init 39 = .ok (.sipush 320, 3) := by decide +kernel
theorem dX12_init_42 : decode cX12_init 42 = .ok (.newarray .boolean, 2) := by decide +kernel
theorem dX12_init_44 : decode cX12_init 44 = .ok (.putfield 22, 3) := by decide +kernel
theorem dX12_init_47 : decode cX12_init 47 = .ok (.aload_n 0, 1) := by decide +kernel
theorem dX12_init_48 : decode cX12_init 48 = .ok (.sipush 200, 3) := by decide +kernel
theorem dX12_init_51 : decode cX12_init 51 = .ok (.newarray .byte, 2) := by decide +kernel
theorem dX12_init_53 : decode cX12_init 53 = .ok (.putfield 26, 3) := by decide +kernel
theorem dX12_init_56 : decode cX12_init 56 = .ok (.aload_n 0, 1) := by decide +kernel
theorem dX12_init_57 : decode cX12_init 57 = .ok (.sipush 180, 3) := by decide +kernel
theorem dX12_init_60 : decode cX12_init 60 = .ok (.newarray .int, 2) := by decide +kernel
theorem dX12_init_62 : decode cX12_init 62 = .ok (.putfield 30, 3) := by decide +kernel
theorem dX12_init_65 : decode cX12_init 65 = .ok (.aload_n 0, 1) := by decide +kernel
theorem dX12_init_66 : decode cX12_init 66 = .ok (.sipush 180, 3) := by decide +kernel
theorem dX12_init_69 : decode cX12_init 69 = .ok (.newarray .int, 2) := by decide +kernel
theorem dX12_init_71 : decode cX12_init 71 = .ok (.putfield 33, 3) := by decide +kernel
theorem dX12_init_74 : decode cX12_init 74 = .ok (.aload_n 0, 1) := by decide +kernel
theorem dX12_init_75 : decode cX12_init 75 = .ok (.bipush 12, 2) := by decide +kernel
theorem dX12_init_77 : decode cX12_init 77 = .ok (.newarray .int, 2) := by decide +kernel
theorem dX12_init_79 : decode cX12_init 79 = .ok (.putfield 36, 3) := by decide +kernel
theorem dX12_init_82 : decode cX12_init 82 = .ok (.aload_n 0, 1) := by decide +kernel
theorem dX12_init_83 : decode cX12_init 83 = .ok (.bipush 12, 2) := by decide +kernel
theorem dX12_init_85 : decode cX12_init 85 = .ok (.newarray .int, 2) := by decide +kernel
theorem dX12_init_87 : decode cX12_init 87 = .ok (.putfield 39, 3) := by decide +kernel
theorem dX12_init_90 : decode cX12_init 90 = .ok (.aload_n 0, 1) := by decide +kernel
theorem dX12_init_91 : decode cX12_init 91 = .ok (.bipush 12, 2) := by decide +kernel
theorem dX12_init_93 : decode cX12_init 93 = .ok (.newarray .int, 2) := by decide +kernel
theorem dX12_init_95 : decode cX12_init 95 = .ok (.putfield 42, 3) := by decide +kernel
theorem dX12_init_98 : decode cX12_init 98 = .ok (.aload_n 0, 1) := by decide +kernel
theorem dX12_init_99 : decode cX12_init 99 = .ok (.bipush 12, 2) := by decide +kernel
theorem dX12_init_101 : decode cX12_init 101 = .ok (.newarray .int, 2) := by decide +kernel
theorem dX12_init_103 : decode cX12_init 103 = .ok (.putfield 45, 3) := by decide +kernel
theorem dX12_init_106 : decode cX12_init 106 = .ok (.aload_n 0, 1) := by decide +kernel
theorem dX12_init_107 : decode cX12_init 107 = .ok (.sipush 180, 3) := by decide +kernel
theorem dX12_init_110 : decode cX12_init 110 = .ok (.newarray .int, 2) := by decide +kernel
theorem dX12_init_112 : decode cX12_init 112 = .ok (.putfield 48, 3) := by decide +kernel
theorem dX12_init_115 : decode cX12_init 115 = .ok (.aload_n 0, 1) := by decide +kernel
theorem dX12_init_116 : decode cX12_init 116 = .ok (.bipush 12, 2) := by decide +kernel
theorem dX12_init_118 : decode cX12_init 118 = .ok (.newarray .int, 2) := by decide +kernel
theorem dX12_init_120 : decode cX12_init 120 = .ok (.putfield 51, 3) := by decide +kernel
theorem dX12_init_123 : decode cX12_init 123 = .ok (.aload_n 0, 1) := by decide +kernel
theorem dX12_init_124 : decode cX12_init 124 = .ok (.bipush 12, 2) := by decide +kernel
theorem dX12_init_126 : decode cX12_init 126 = .ok (.newarray .int, 2) := by decide +kernel
theorem dX12_init_128 : decode cX12_init 128 = .ok (.putfield 54, 3) := by decide +kernel
theorem dX12_init_131 : decode cX12_init 131 = .ok (.aload_n 0, 1) := by decide +kernel
theorem dX12_init_132 : decode cX12_init 132 = .ok (.bipush 12, 2) := by decide +kernel
theorem dX12_init_134 : decode cX12_init 134 = .ok (.newarray .int, 2) := by decide +kernel
theorem dX12_init_136 : decode cX12_init 136 = .ok (.putfield 57, 3) := by decide +kernel
theorem dX12_init_139 : decode cX12_init 139 = .ok (.aload_n 0, 1) := by decide +kernel
theorem dX12_init_140 : decode cX12_init 140 = .ok (.bipush 12, 2) := by decide +kernel
theorem dX12_init_142 : decode cX12_init 142 = .ok (.newarray .int, 2) := by decide +kernel
theorem dX12_init_144 : decode cX12_init 144 = .ok (.putfield 60, 3) := by decide +kernel
theorem dX12_init_147 : decode cX12_init 147 = .ok (.aload_n 0, 1) := by decide +kernel
theorem dX12_init_148 : decode cX12_init 148 = .ok (.sipush 180, 3) := by decide +kernel
theorem dX12_init_151 : decode cX12_init 151 = .ok (.newarray .int, 2) := by decide +kernel
theorem dX12_init_153 : decode cX12_init 153 = .ok (.putfield 63, 3) := by decide +kernel
theorem dX12_init_156 : decode cX12_init 156 = .ok (.aload_n 0, 1) := by decide +kernel
theorem dX12_init_157 : decode cX12_init 157 = .ok (.bipush 10, 2) := by decide +kernel
theorem dX12_init_159 : decode cX12_init 159 = .ok (.newarray .int, 2) := by decide +kernel
theorem dX12_init_161 : decode cX12_init 161 = .ok (.putfield 66, 3) := by decide +kernel
theorem dX12_init_164 : decode cX12_init 164 = .ok (.aload_n 0, 1) := by decide +kernel
theorem dX12_init_165 : decode cX12_init 165 = .ok (.bipush 60, 2) := by decide +kernel
theorem dX12_init_167 : decode cX12_init 167 = .ok (.newarray .int, 2) := by decide +kernel
theorem dX12_init_169 : decode cX12_init 169 = .ok (.putfield 69, 3) := by decide +kernel
theorem dX12_init_172 : decode cX12_init 172 = .ok (.aload_n 0, 1) := by decide +kernel
theorem dX12_init_173 : decode cX12_init 173 = .ok (.bipush 60, 2) := by decide +kernel
theorem dX12_init_175 : decode cX12_init 175 = .ok (.newarray .int, 2) := by decide +kernel
theorem dX12_init_177 : decode cX12_init 177 = .ok (.putfield 72, 3) := by decide +kernel
theorem dX12_init_180 : decode cX12_init 180 = .ok (.aload_n 0, 1) := by decide +kernel
theorem dX12_init_181 : decode cX12_init 181 = .ok (.bipush 60, 2) := by decide +kernel
theorem dX12_init_183 : decode cX12_init 183 = .ok (.newarray .int, 2) := by decide +kernel
theorem dX12_init_185 : decode cX12_init 185 = .ok (.putfield 75, 3) := by decide +kernel
theorem dX12_init_188 : decode cX12_init 188 = .ok (.aload_n 0, 1) := by decide +kernel
theorem dX12_init_189 : decode cX12_init 189 = .ok (.bipush 60, 2) := by decide +kernel
theorem dX12_init_191 : decode cX12_init 191 = .ok (.newarray .int, 2) := by decide +kernel
theorem dX12_init_193 : decode cX12_init 193 = .ok (.putfield 78, 3) := by decide +kernel
theorem dX12_init_196 : decode cX12_init 196 = .ok (.aload_n 0, 1) := by decide +kernel
theorem dX12_init_197 : decode cX12_init 197 = .ok (.bipush 60, 2) := by decide +kernel
theorem dX12_init_199 : decode cX12_init 199 = .ok (.newarray .int, 2) := by decide +kernel
theorem dX12_init_201 : decode cX12_init 201 = .ok (.putfield 81, 3) := by decide +kernel
theorem dX12_init_204 : decode cX12_init 204 = .ok (.aload_n 0, 1) := by decide +kernel
theorem dX12_init_205 : decode cX12_init 205 = .ok (.sipush 540, 3) := by decide +kernel
theorem dX12_init_208 : decode cX12_init 208 = .ok (.newarray .int, 2) := by decide +kernel
theorem dX12_init_210 : decode cX12_init 210 = .ok (.putfield 84, 3) := by decide +kernel
theorem dX12_init_213 : decode cX12_init 213 = .ok (.aload_n 0, 1) := by decide +kernel
theorem dX12_init_214 : decode cX12_init 214 = .ok (.bipush 40, 2) := by decide +kernel
theorem dX12_init_216 : decode cX12_init 216 = .ok (.newarray .int, 2) := by decide +kernel
theorem dX12_init_218 : decode cX12_init 218 = .ok (.putfield 87, 3) := by decide +kernel
theorem dX12_init_221 : decode cX12_init 221 = .ok (.aload_n 0, 1) := by decide +kernel
theorem dX12_init_222 : decode cX12_init 222 = .ok (.bipush 16, 2) := by decide +kernel
theorem dX12_init_224 : decode cX12_init 224 = .ok (.newarray .int, 2) := by decide +kernel
theorem dX12_init_226 : decode cX12_init 226 = .ok (.putfield 90, 3) := by decide +kernel
theorem dX12_init_229 : decode cX12_init 229 = .ok (.aload_n 0, 1) := by decide +kernel
theorem dX12_init_230 : decode cX12_init 230 = .ok (.bipush 17, 2) := by decide +kernel
theorem dX12_init_232 : decode cX12_init 232 = .ok (.newarray .long, 2) := by decide +kernel
theorem dX12_init_234 : decode cX12_init 234 = .ok (.putfield 93, 3) := by decide +kernel
theorem dX12_init_237 : decode cX12_init 237 = .ok (.aload_n 0, 1) := by decide +kernel
theorem dX12_init_238 : decode cX12_init 238 = .ok (.bipush 40, 2) := by decide +kernel
theorem dX12_init_240 : decode cX12_init 240 = .ok (.newarray .int, 2) := by decide +kernel
theorem dX12_init_242 : decode cX12_init 242 = .ok (.putfield 97, 3) := by decide +kernel
theorem dX12_init_245 : decode cX12_init 245 = .ok (.aload_n 0, 1) := by decide +kernel
theorem dX12_init_246 : decode cX12_init 246 = .ok (.sipush 697, 3) := by decide +kernel
theorem dX12_init_249 : decode cX12_init 249 = .ok (.newarray .int, 2) := by decide +kernel
theorem dX12_init_251 : decode cX12_init 251 = .ok (.putfield 100, 3) := by decide +kernel
theorem dX12_init_254 : decode cX12_init 254 = .ok (.aload_n 0, 1) := by decide +kernel
theorem dX12_init_255 : decode cX12_init 255 = .ok (.bipush 16, 2) := by decide +kernel
theorem dX12_init_257 : decode cX12_init 257 = .ok (.newarray .int, 2) := by decide +kernel
theorem dX12_init_259 : decode cX12_init 259 = .ok (.putfield 103, 3) := by decide +kernel
theorem dX12_init_262 : decode cX12_init 262 = .ok (.aload_n 0, 1) := by decide +kernel
theorem dX12_init_263 : decode cX12_init 263 = .ok (.sipush 697, 3) := by decide +kernel
theorem dX12_init_266 : decode cX12_init 266 = .ok (.newarray .int, 2) := by decide +kernel
theorem dX12_init_268 : decode cX12_init 268 = .ok (.putfield 106, 3) := by decide +kernel
theorem dX12_init_271 : decode cX12_init 271 = .ok (.aload_n 0, 1) := by decide +kernel
theorem dX12_init_272 : decode cX12_init 272 = .ok (.sipush 697, 3) := by decide +kernel
theorem dX12_init_275 : decode cX12_init 275 = .ok (.newarray .long, 2) := by decide +kernel
theorem dX12_init_277 : decode cX12_init 277 = .ok (.putfield 109, 3) := by decide +kernel
theorem dX12_init_280 : decode cX12_init 280 = .ok (.aload_n 0, 1) := by decide +kernel
theorem dX12_init_281 : decode cX12_init 281 = .ok (.iconst 4, 1) := by decide +kernel
theorem dX12_init_282 : decode cX12_init 282 = .ok (.newarray .int, 2) := by decide +kernel
theorem dX12_init_284 : decode cX12_init 284 = .ok (.putfield 112, 3) := by decide +kernel
theorem dX12_init_287 : decode cX12_init 287 = .ok (.aload_n 0, 1) := by decide +kernel
theorem dX12_init_288 : decode cX12_init 288 = .ok (.iconst 4, 1) := by decide +kernel
theorem dX12_init_289 : decode cX12_init 289 = .ok (.newarray .int, 2) := by decide +kernel
theorem dX12_init_291 : decode cX12_init 291 = .ok (.putfield 115, 3) := by decide +kernel
theorem dX12_init_294 : decode cX12_init 294 = .ok (.aload_n 0, 1) := by decide +kernel
theorem dX12_init_295 : decode cX12_init 295 = .ok (.iconst 4, 1) := by decide +kernel
theorem dX12_init_296 : decode cX12_init 296 = .ok (.newarray .int, 2) := by decide +kernel
theorem dX12_init_298 : decode cX12_init 298 = .ok (.putfield 118, 3) := by decide +kernel
theorem dX12_init_301 : decode cX12_init 301 = .ok (.aload_n 0, 1) := by decide +kernel
theorem dX12_init_302 : decode cX12_init 302 = .ok (.iconst 4, 1) := by decide +kernel
theorem dX12_init_303 : decode cX12_init 303 = .ok (.newarray .int, 2) := by decide +kernel
theorem dX12_init_305 : decode cX12_init 305 = .ok (.putfield 121, 3) := by decide +kernel
theorem dX12_init_308 : decode cX12_init 308 = .ok (.aload_n 0, 1) := by decide +kernel
theorem dX12_init_309 : decode cX12_init 309 = .ok (.sipush 4913, 3) := by decide +kernel
theorem dX12_init_312 : decode cX12_init 312 = .ok (.newarray .int, 2) := by decide +kernel
theorem dX12_init_314 : decode cX12_init 314 = .ok (.putfield 124, 3) := by decide +kernel
theorem dX12_init_317 : decode cX12_init 317 = .ok (.aload_n 0, 1) := by decide +kernel
theorem dX12_init_318 : decode cX12_init 318 = .ok (.bipush 16, 2) := by decide +kernel
theorem dX12_init_320 : decode cX12_init 320 = .ok (.newarray .int, 2) := by decide +kernel
theorem dX12_init_322 : decode cX12_init 322 = .ok (.putfield 127, 3) := by decide +kernel
theorem dX12_init_325 : decode cX12_init 325 = .ok (.aload_n 0, 1) := by decide +kernel
theorem dX12_init_326 : decode cX12_init 326 = .ok (.sipush 28561, 3) := by decide +kernel
theorem dX12_init_329 : decode cX12_init 329 = .ok (.newarray .int, 2) := by decide +kernel
theorem dX12_init_331 : decode cX12_init 331 = .ok (.putfield 130, 3) := by decide +kernel
theorem dX12_init_334 : decode cX12_init 334 = .ok (.aload_n 0, 1) := by decide +kernel
theorem dX12_init_335 : decode cX12_init 335 = .ok (.sipush 28561, 3) := by decide +kernel
theorem dX12_init_338 : decode cX12_init 338 = .ok (.newarray .long, 2) := by decide +kernel
theorem dX12_init_340 : decode cX12_init 340 = .ok (.putfield 133, 3) := by decide +kernel
theorem dX12_init_343 : decode cX12_init 343 = .ok (.aload_n 0, 1) := by decide +kernel
theorem dX12_init_344 : decode cX12_init 344 = .ok (.bipush 64, 2) := by decide +kernel
theorem dX12_init_346 : decode cX12_init 346 = .ok (.newarray .boolean, 2) := by decide +kernel
theorem dX12_init_348 : decode cX12_init 348 = .ok (.putfield 136, 3) := by decide +kernel
theorem dX12_init_351 : decode cX12_init 351 = .ok (.aload_n 0, 1) := by decide +kernel
theorem dX12_init_352 : decode cX12_init 352 = .ok (.sipush 2304, 3) := by decide +kernel
theorem dX12_init_355 : decode cX12_init 355 = .ok (.newarray .int, 2) := by decide +kernel
theorem dX12_init_357 : decode cX12_init 357 = .ok (.putfield 139, 3) := by decide +kernel
theorem dX12_init_360 : decode cX12_init 360 = .ok (.aload_n 0, 1) := by decide +kernel
theorem dX12_init_361 : decode cX12_init 361 = .ok (.bipush 72, 2) := by decide +kernel
theorem dX12_init_363 : decode cX12_init 363 = .ok (.newarray .boolean, 2) := by decide +kernel
theorem dX12_init_365 : decode cX12_init 365 = .ok (.putfield 142, 3) := by decide +kernel
theorem dX12_init_368 : decode cX12_init 368 = .ok (.aload_n 0, 1) := by decide +kernel
theorem dX12_init_369 : decode cX12_init 369 = .ok (.sipush 2304, 3) := by decide +kernel
theorem dX12_init_372 : decode cX12_init 372 = .ok (.newarray .int, 2) := by decide +kernel
theorem dX12_init_374 : decode cX12_init 374 = .ok (.putfield 145, 3) := by decide +kernel
theorem dX12_init_377 : decode cX12_init 377 = .ok (.aload_n 0, 1) := by decide +kernel
theorem dX12_init_378 : decode cX12_init 378 = .ok (.iconst 1, 1) := by decide +kernel
theorem dX12_init_379 : decode cX12_init 379 = .ok (.putfield 148, 3) := by decide +kernel
theorem dX12_init_382 : decode cX12_init 382 = .ok (.return_, 1) := by decide +kernel
theorem dX12_isAsked_0 : decode cX12_isAsked 0 = .ok (.aload_n 0, 1) := by decide +kernel
theorem dX12_isAsked_1 : decode cX12_isAsked 1 = .ok (.iload_n 1, 1) := by decide +kernel
theorem dX12_isAsked_2 : decode cX12_isAsked 2 = .ok (.invokevirtual 172, 3) := by decide +kernel
theorem dX12_isAsked_5 : decode cX12_isAsked 5 = .ok (.ifCond .eq 15, 3) := by decide +kernel
theorem dX12_isAsked_8 : decode cX12_isAsked 8 = .ok (.aload_n 0, 1) := by decide +kernel
theorem dX12_isAsked_9 : decode cX12_isAsked 9 = .ok (.iload_n 2, 1) := by decide +kernel
theorem dX12_isAsked_10 : decode cX12_isAsked 10 = .ok (.invokevirtual 326, 3) := by decide +kernel
theorem dX12_isAsked_13 : decode cX12_isAsked 13 = .ok (.ifCond .eq 7, 3) := by decide +kernel
theorem dX12_isAsked_16 : decode cX12_isAsked 16 = .ok (.iconst 1, 1) := by decide +kernel
theorem dX12_isAsked_17 : decode cX12_isAsked 17 = .ok (.goto 4, 3) := by decide +kernel
theorem dX12_isAsked_20 : decode cX12_isAsked 20 = .ok (.iconst 0, 1) := by decide +kernel
theorem dX12_isAsked_21 : decode cX12_isAsked 21 = .ok (.ireturn, 1) := by decide +kernel
theorem dX12_isBlank_0 : decode cX12_isBlank 0 = .ok (.iload_n 1, 1) := by decide +kernel
theorem dX12_isBlank_1 : decode cX12_isBlank 1 = .ok (.ifCond .lt 15, 3) := by decide +kernel
theorem dX12_isBlank_4 : decode cX12_isBlank 4 = .ok (.iload_n 1, 1) := by decide +kernel
theorem dX12_isBlank_5 : decode cX12_isBlank 5 = .ok (.aload_n 0, 1) := by decide +kernel
theorem dX12_isBlank_6 : decode cX12_isBlank 6 = .ok (.getfield 152, 3) := by decide +kernel
theorem dX12_isBlank_9 : decode cX12_isBlank 9 = .ok (.if_icmp .ge 7, 3) := by decide +kernel
theorem dX12_isBlank_12 : decode cX12_isBlank 12 = .ok (.iconst 1, 1) := by decide +kernel
theorem dX12_isBlank_13 : decode cX12_isBlank 13 = .ok (.goto 4, 3) := by decide +kernel
theorem dX12_isBlank_16 : decode cX12_isBlank 16 = .ok (.iconst 0, 1) := by decide +kernel
theorem dX12_isBlank_17 : decode cX12_isBlank 17 = .ok (.ireturn, 1) := by decide +kernel
theorem dX12_isClerk_0 : decode cX12_isClerk 0 = .ok (.iload_n 0, 1) := by decide +kernel
theorem dX12_isClerk_1 : decode cX12_isClerk 1 = .ok (.ifCond .lt 13, 3) := by decide +kernel
theorem dX12_isClerk_4 : decode cX12_isClerk 4 = .ok (.iload_n 0, 1) := by decide +kernel
theorem dX12_isClerk_5 : decode cX12_isClerk 5 = .ok (.bipush 8, 2) := by decide +kernel
theorem dX12_isClerk_7 : decode cX12_isClerk 7 = .ok (.if_icmp .ge 7, 3) := by decide +kernel
theorem dX12_isClerk_10 : decode cX12_isClerk 10 = .ok (.iconst 1, 1) := by decide +kernel
theorem dX12_isClerk_11 : decode cX12_isClerk 11 = .ok (.goto 4, 3) := by decide +kernel
theorem dX12_isClerk_14 : decode cX12_isClerk 14 = .ok (.iconst 0, 1) := by decide +kernel
theorem dX12_isClerk_15 : decode cX12_isClerk 15 = .ok (.ireturn, 1) := by decide +kernel
theorem dX12_isDeed_0 : decode cX12_isDeed 0 = .ok (.iload_n 1, 1) := by decide +kernel
theorem dX12_isDeed_1 : decode cX12_isDeed 1 = .ok (.ifCond .lt 25, 3) := by decide +kernel
theorem dX12_isDeed_4 : decode cX12_isDeed 4 = .ok (.iload_n 1, 1) := by decide +kernel
theorem dX12_isDeed_5 : decode cX12_isDeed 5 = .ok (.bipush 8, 2) := by decide +kernel
theorem dX12_isDeed_7 : decode cX12_isDeed 7 = .ok (.if_icmp .ge 19, 3) := by decide +kernel
theorem dX12_isDeed_10 : decode cX12_isDeed 10 = .ok (.aload_n 0, 1) := by decide +kernel
theorem dX12_isDeed_11 : decode cX12_isDeed 11 = .ok (.getfield 155, 3) := by decide +kernel
theorem dX12_isDeed_14 : decode cX12_isDeed 14 = .ok (.iload_n 1, 1) := by decide +kernel
theorem dX12_isDeed_15 : decode cX12_isDeed 15 = .ok (.ishr, 1) := by decide +kernel
theorem dX12_isDeed_16 : decode cX12_isDeed 16 = .ok (.iconst 1, 1) := by decide +kernel
theorem dX12_isDeed_17 : decode cX12_isDeed 17 = .ok (.iand, 1) := by decide +kernel
theorem dX12_isDeed_18 : decode cX12_isDeed 18 = .ok (.iconst 1, 1) := by decide +kernel
theorem dX12_isDeed_19 : decode cX12_isDeed 19 = .ok (.if_icmp .ne 7, 3) := by decide +kernel
theorem dX12_isDeed_22 : decode cX12_isDeed 22 = .ok (.iconst 1, 1) := by decide +kernel
theorem dX12_isDeed_23 : decode cX12_isDeed 23 = .ok (.goto 4, 3) := by decide +kernel
theorem dX12_isDeed_26 : decode cX12_isDeed 26 = .ok (.iconst 0, 1) := by decide +kernel
theorem dX12_isDeed_27 : decode cX12_isDeed 27 = .ok (.ireturn, 1) := by decide +kernel
theorem dX12_isDigit_0 : decode cX12_isDigit 0 = .ok (.aload_n 0, 1) := by decide +kernel
theorem dX12_isDigit_1 : decode cX12_isDigit 1 = .ok (.invokevirtual 193, 3) := by decide +kernel
theorem dX12_isDigit_4 : decode cX12_isDigit 4 = .ok (.bipush 48, 2) := by decide +kernel
theorem dX12_isDigit_6 : decode cX12_isDigit 6 = .ok (.if_icmp .lt 16, 3) := by decide +kernel
theorem dX12_isDigit_9 : decode cX12_isDigit 9 = .ok (.aload_n 0, 1) := by decide +kernel
theorem dX12_isDigit_10 : decode cX12_isDigit 10 = .ok (.invokevirtual 193, 3) := by decide +kernel
theorem dX12_isDigit_13 : decode cX12_isDigit 13 = .ok (.bipush 57, 2) := by decide +kernel
theorem dX12_isDigit_15 : decode cX12_isDigit 15 = .ok (.if_icmp .gt 7, 3) := by decide +kernel
theorem dX12_isDigit_18 : decode cX12_isDigit 18 = .ok (.iconst 1, 1) := by decide +kernel
theorem dX12_isDigit_19 : decode cX12_isDigit 19 = .ok (.goto 4, 3) := by decide +kernel
theorem dX12_isDigit_22 : decode cX12_isDigit 22 = .ok (.iconst 0, 1) := by decide +kernel
theorem dX12_isDigit_23 : decode cX12_isDigit 23 = .ok (.ireturn, 1) := by decide +kernel
theorem dX12_isStruckAt_0 : decode cX12_isStruckAt 0 = .ok (.iload_n 2, 1) := by decide +kernel
theorem dX12_isStruckAt_1 : decode cX12_isStruckAt 1 = .ok (.ifCond .lt 27, 3) := by decide +kernel
theorem dX12_isStruckAt_4 : decode cX12_isStruckAt 4 = .ok (.iload_n 2, 1) := by decide +kernel
theorem dX12_isStruckAt_5 : decode cX12_isStruckAt 5 = .ok (.aload_n 0, 1) := by decide +kernel
theorem dX12_isStruckAt_6 : decode cX12_isStruckAt 6 = .ok (.getfield 7, 3) := by decide +kernel
theorem dX12_isStruckAt_9 : decode cX12_isStruckAt 9 = .ok (.iload_n 1, 1) := by decide +kernel
theorem dX12_isStruckAt_10 : decode cX12_isStruckAt 10 = .ok (.iaload, 1) := by decide +kernel
theorem dX12_isStruckAt_11 : decode cX12_isStruckAt 11 = .ok (.if_icmp .ge 17, 3) := by decide +kernel
theorem dX12_isStruckAt_14 : decode cX12_isStruckAt 14 = .ok (.aload_n 0, 1) := by decide +kernel
theorem dX12_isStruckAt_15 : decode cX12_isStruckAt 15 = .ok (.getfield 22, 3) := by decide +kernel
theorem dX12_isStruckAt_18 : decode cX12_isStruckAt 18 = .ok (.bipush 40, 2) := by decide +kernel
theorem dX12_isStruckAt_20 : decode cX12_isStruckAt 20 = .ok (.iload_n 1, 1) := by decide +kernel
theorem dX12_isStruckAt_21 : decode cX12_isStruckAt 21 = .ok (.imul, 1) := by decide +kernel
theorem dX12_isStruckAt_22 : decode cX12_isStruckAt 22 = .ok (.iload_n 2, 1) := by decide +kernel
theorem dX12_isStruckAt_23 : decode cX12_isStruckAt 23 = .ok (.iadd, 1) := by decide +kernel
theorem dX12_isStruckAt_24 : decode cX12_isStruckAt 24 = .ok (.baload, 1) := by decide +kernel
theorem dX12_isStruckAt_25 : decode cX12_isStruckAt 25 = .ok (.ifCond .eq 7, 3) := by decide +kernel
theorem dX12_isStruckAt_28 : decode cX12_isStruckAt 28 = .ok (.iconst 1, 1) := by decide +kernel
theorem dX12_isStruckAt_29 : decode cX12_isStruckAt 29 = .ok (.goto 4, 3) := by decide +kernel
theorem dX12_isStruckAt_32 : decode cX12_isStruckAt 32 = .ok (.iconst 0, 1) := by decide +kernel
theorem dX12_isStruckAt_33 : decode cX12_isStruckAt 33 = .ok (.ireturn, 1) := by decide +kernel
theorem dX12_isTooLong_0 : decode cX12_isTooLong 0 = .ok (.iconst 0, 1) := by decide +kernel
theorem dX12_isTooLong_1 : decode cX12_isTooLong 1 = .ok (.istore_n 1, 1) := by decide +kernel
theorem dX12_isTooLong_2 : decode cX12_isTooLong 2 = .ok (.iload_n 1, 1) := by decide +kernel
theorem dX12_isTooLong_3 : decode cX12_isTooLong 3 = .ok (.aload_n 0, 1) := by decide +kernel
theorem dX12_isTooLong_4 : decode cX12_isTooLong 4 = .ok (.getfield 369, 3) := by decide +kernel
theorem dX12_isTooLong_7 : decode cX12_isTooLong 7 = .ok (.if_icmp .ge 21, 3) := by decide +kernel
theorem dX12_isTooLong_10 : decode cX12_isTooLong 10 = .ok (.aload_n 0, 1) := by decide +kernel
theorem dX12_isTooLong_11 : decode cX12_isTooLong 11 = .ok (.iload_n 1, 1) := by decide +kernel
theorem dX12_isTooLong_12 : decode cX12_isTooLong 12 = .ok (.invokevirtual 372, 3) := by decide +kernel
theorem dX12_isTooLong_15 : decode cX12_isTooLong 15 = .ok (.bipush 12, 2) := by decide +kernel
theorem dX12_isTooLong_17 : decode cX12_isTooLong 17 = .ok (.if_icmp .le 5, 3) := by decide +kernel
theorem dX12_isTooLong_20 : decode cX12_isTooLong 20 = .ok (.iconst 1, 1) := by decide +kernel
theorem dX12_isTooLong_21 : decode cX12_isTooLong 21 = .ok (.ireturn, 1) := by decide +kernel
theorem dX12_isTooLong_22 : decode cX12_isTooLong 22 = .ok (.iinc 1 1, 3) := by decide +kernel
theorem dX12_isTooLong_25 : decode cX12_isTooLong 25 = .ok (.goto (-23), 3) := by decide +kernel
theorem dX12_isTooLong_28 : decode cX12_isTooLong 28 = .ok (.iconst 0, 1) := by decide +kernel
theorem dX12_isTooLong_29 : decode cX12_isTooLong 29 = .ok (.ireturn, 1) := by decide +kernel
theorem dX12_jumps_0 : decode cX12_jumps 0 = .ok (.aload_n 0, 1) := by decide +kernel
theorem dX12_jumps_1 : decode cX12_jumps 1 = .ok (.getfield 33, 3) := by decide +kernel
theorem dX12_jumps_4 : decode cX12_jumps 4 = .ok (.aload_n 0, 1) := by decide +kernel
theorem dX12_jumps_5 : decode cX12_jumps 5 = .ok (.getfield 218, 3) := by decide +kernel
theorem dX12_jumps_8 : decode cX12_jumps 8 = .ok (.ldc 214, 2) := by decide +kernel
theorem dX12_jumps_10 : decode cX12_jumps 10 = .ok (.iload_n 1, 1) := by decide +kernel
theorem dX12_jumps_11 : decode cX12_jumps 11 = .ok (.imul, 1) := by decide +kernel
theorem dX12_jumps_12 : decode cX12_jumps 12 = .ok (.aload_n 0, 1) := by decide +kernel
theorem dX12_jumps_13 : decode cX12_jumps 13 = .ok (.getfield 211, 3) := by decide +kernel
theorem dX12_jumps_16 : decode cX12_jumps 16 = .ok (.iadd, 1) := by decide +kernel
theorem dX12_jumps_17 : decode cX12_jumps 17 = .ok (.iastore, 1) := by decide +kernel
theorem dX12_jumps_18 : decode cX12_jumps 18 = .ok (.aload_n 0, 1) := by decide +kernel
theorem dX12_jumps_19 : decode cX12_jumps 19 = .ok (.aload_n 0, 1) := by decide +kernel
theorem dX12_jumps_20 : decode cX12_jumps 20 = .ok (.getfield 218, 3) := by decide +kernel
theorem dX12_jumps_23 : decode cX12_jumps 23 = .ok (.iconst 1, 1) := by decide +kernel
theorem dX12_jumps_24 : decode cX12_jumps 24 = .ok (.iadd, 1) := by decide +kernel
theorem dX12_jumps_25 : decode cX12_jumps 25 = .ok (.putfield 218, 3) := by decide +kernel
theorem dX12_jumps_28 : decode cX12_jumps 28 = .ok (.aload_n 0, 1) := by decide +kernel
theorem dX12_jumps_29 : decode cX12_jumps 29 = .ok (.iload_n 1, 1) := by decide +kernel
theorem dX12_jumps_30 : decode cX12_jumps 30 = .ok (.iconst 0, 1) := by decide +kernel
theorem dX12_jumps_31 : decode cX12_jumps 31 = .ok (.invokevirtual 224, 3) := by decide +kernel
theorem dX12_jumps_34 : decode cX12_jumps 34 = .ok (.aload_n 0, 1) := by decide +kernel
theorem dX12_jumps_35 : decode cX12_jumps 35 = .ok (.aload_n 0, 1) := by decide +kernel
theorem dX12_jumps_36 : decode cX12_jumps 36 = .ok (.getfield 187, 3) := by decide +kernel
theorem dX12_jumps_39 : decode cX12_jumps 39 = .ok (.iconst 1, 1) := by decide +kernel
theorem dX12_jumps_40 : decode cX12_jumps 40 = .ok (.iadd, 1) := by decide +kernel
theorem dX12_jumps_41 : decode cX12_jumps 41 = .ok (.putfield 187, 3) := by decide +kernel
theorem dX12_jumps_44 : decode cX12_jumps 44 = .ok (.return_, 1) := by decide +kernel
theorem dX12_lands_0 : decode cX12_lands 0 = .ok (.aload_n 0, 1) := by decide +kernel
theorem dX12_lands_1 : decode cX12_lands 1 = .ok (.invokevirtual 221, 3) := by decide +kernel
theorem dX12_lands_4 : decode cX12_lands 4 = .ok (.bipush 11, 2) := by decide +kernel
theorem dX12_lands_6 : decode cX12_lands 6 = .ok (.if_icmp .eq 16, 3) := by decide +kernel
theorem dX12_lands_9 : decode cX12_lands 9 = .ok (.iload_n 1, 1) := by decide +kernel
theorem dX12_lands_10 : decode cX12_lands 10 = .ok (.ifCond .eq 63, 3) := by decide +kernel
theorem dX12_lands_13 : decode cX12_lands 13 = .ok (.aload_n 0, 1) := by decide +kernel
theorem dX12_lands_14 : decode cX12_lands 14 = .ok (.invokevirtual 221, 3) := by decide +kernel
theorem dX12_lands_17 : decode cX12_lands 17 = .ok (.bipush 12, 2) := by decide +kernel
theorem dX12_lands_19 : decode cX12_lands 19 = .ok (.if_icmp .ne 54, 3) := by decide +kernel
theorem dX12_lands_22 : decode cX12_lands 22 = .ok (.aload_n 0, 1) := by decide +kernel
theorem dX12_lands_23 : decode cX12_lands 23 = .ok (.getfield 33, 3) := by decide +kernel
theorem dX12_lands_26 : decode cX12_lands 26 = .ok (.aload_n 0, 1) := by decide +kernel
theorem dX12_lands_27 : decode cX12_lands 27 = .ok (.getfield 218, 3) := by decide +kernel
theorem dX12_lands_30 : decode cX12_lands 30 = .ok (.iconst 1, 1) := by decide +kernel
theorem dX12_lands_31 : decode cX12_lands 31 = .ok (.isub, 1) := by decide +kernel
theorem dX12_lands_32 : decode cX12_lands 32 = .ok (.iaload, 1) := by decide +kernel
theorem dX12_lands_33 : decode cX12_lands 33 = .ok (.ldc 214, 2) := by decide +kernel
theorem dX12_lands_35 : decode cX12_lands 35 = .ok (.irem, 1) := by decide +kernel
theorem dX12_lands_36 : decode cX12_lands 36 = .ok (.istore_n 2, 1) := by decide +kernel
theorem dX12_lands_37 : decode cX12_lands 37 = .ok (.aload_n 0, 1) := by decide +kernel
theorem dX12_lands_38 : decode cX12_lands 38 = .ok (.getfield 30, 3) := by decide +kernel
theorem dX12_lands_41 : decode cX12_lands 41 = .ok (.iload_n 2, 1) := by decide +kernel
theorem dX12_lands_42 : decode cX12_lands 42 = .ok (.ldc 214, 2) := by decide +kernel
theorem dX12_lands_44 : decode cX12_lands 44 = .ok (.aload_n 0, 1) := by decide +kernel
theorem dX12_lands_45 : decode cX12_lands 45 = .ok (.getfield 30, 3) := by decide +kernel
theorem dX12_lands_48 : decode cX12_lands 48 = .ok (.iload_n 2, 1) := by decide +kernel
theorem dX12_lands_49 : decode cX12_lands 49 = .ok (.iaload, 1) := by decide +kernel
theorem dX12_lands_50 : decode cX12_lands 50 = .ok (.ldc 214, 2) := by decide +kernel
theorem dX12_lands_52 : decode cX12_lands 52 = .ok (.idiv, 1) := by decide +kernel
theorem dX12_lands_53 : decode cX12_lands 53 = .ok (.imul, 1) := by decide +kernel
theorem dX12_lands_54 : decode cX12_lands 54 = .ok (.aload_n 0, 1) := by decide +kernel
theorem dX12_lands_55 : decode cX12_lands 55 = .ok (.getfield 211, 3) := by decide +kernel
theorem dX12_lands_58 : decode cX12_lands 58 = .ok (.iadd, 1) := by decide +kernel
theorem dX12_lands_59 : decode cX12_lands 59 = .ok (.iastore, 1) := by decide +kernel
theorem dX12_lands_60 : decode cX12_lands 60 = .ok (.aload_n 0, 1) := by decide +kernel
theorem dX12_lands_61 : decode cX12_lands 61 = .ok (.aload_n 0, 1) := by decide +kernel
theorem dX12_lands_62 : decode cX12_lands 62 = .ok (.getfield 218, 3) := by decide +kernel
theorem dX12_lands_65 : decode cX12_lands 65 = .ok (.iconst 1, 1) := by decide +kernel
theorem dX12_lands_66 : decode cX12_lands 66 = .ok (.isub, 1) := by decide +kernel
theorem dX12_lands_67 : decode cX12_lands 67 = .ok (.putfield 218, 3) := by decide +kernel
theorem dX12_lands_70 : decode cX12_lands 70 = .ok (.goto (-70), 3) := by decide +kernel
theorem dX12_lands_73 : decode cX12_lands 73 = .ok (.return_, 1) := by decide +kernel
theorem dX12_law_0 : decode cX12_law 0 = .ok (.iload_n 1, 1) := by decide +kernel
theorem dX12_law_1 : decode cX12_law 1 = .ok (.iconst 1, 1) := by decide +kernel
theorem dX12_law_2 : decode cX12_law 2 = .ok (.sipush 160, 3) := by decide +kernel
theorem dX12_law_5 : decode cX12_law 5 = .ok (.invokestatic 161, 3) := by decide +kernel
theorem dX12_law_8 : decode cX12_law 8 = .ok (.ifCond .eq 11, 3) := by decide +kernel
theorem dX12_law_11 : decode cX12_law 11 = .ok (.iload_n 1, 1) := by decide +kernel
theorem dX12_law_12 : decode cX12_law 12 = .ok (.aload_n 0, 1) := by decide +kernel
theorem dX12_law_13 : decode cX12_law 13 = .ok (.getfield 165, 3) := by decide +kernel
theorem dX12_law_16 : decode cX12_law 16 = .ok (.if_icmp .le 5, 3) := by decide +kernel
theorem dX12_law_19 : decode cX12_law 19 = .ok (.iconst (-1), 1) := by decide +kernel
theorem dX12_law_20 : decode cX12_law 20 = .ok (.ireturn, 1) := by decide +kernel
theorem dX12_law_21 : decode cX12_law 21 = .ok (.aload_n 0, 1) := by decide +kernel
theorem dX12_law_22 : decode cX12_law 22 = .ok (.iconst 0, 1) := by decide +kernel
theorem dX12_law_23 : decode cX12_law 23 = .ok (.putfield 187, 3) := by decide +kernel
theorem dX12_law_26 : decode cX12_law 26 = .ok (.aload_n 0, 1) := by decide +kernel
theorem dX12_law_27 : decode cX12_law 27 = .ok (.iload_n 1, 1) := by decide +kernel
theorem dX12_law_28 : decode cX12_law 28 = .ok (.putfield 190, 3) := by decide +kernel
theorem dX12_law_31 : decode cX12_law 31 = .ok (.aload_n 0, 1) := by decide +kernel
theorem dX12_law_32 : decode cX12_law 32 = .ok (.iconst 0, 1) := by decide +kernel
theorem dX12_law_33 : decode cX12_law 33 = .ok (.putfield 211, 3) := by decide +kernel
theorem dX12_law_36 : decode cX12_law 36 = .ok (.aload_n 0, 1) := by decide +kernel
theorem dX12_law_37 : decode cX12_law 37 = .ok (.iconst 0, 1) := by decide +kernel
theorem dX12_law_38 : decode cX12_law 38 = .ok (.putfield 265, 3) := by decide +kernel
theorem dX12_law_41 : decode cX12_law 41 = .ok (.aload_n 0, 1) := by decide +kernel
theorem dX12_law_42 : decode cX12_law 42 = .ok (.invokevirtual 271, 3) := by decide +kernel
theorem dX12_law_45 : decode cX12_law 45 = .ok (.istore_n 2, 1) := by decide +kernel
theorem dX12_law_46 : decode cX12_law 46 = .ok (.iload_n 2, 1) := by decide +kernel
theorem dX12_law_47 : decode cX12_law 47 = .ok (.ifCond .eq 39, 3) := by decide +kernel
theorem dX12_law_50 : decode cX12_law 50 = .ok (.aload_n 0, 1) := by decide +kernel
theorem dX12_law_51 : decode cX12_law 51 = .ok (.getfield 187, 3) := by decide +kernel
theorem dX12_law_54 : decode cX12_law 54 = .ok (.aload_n 0, 1) := by decide +kernel
theorem dX12_law_55 : decode cX12_law 55 = .ok (.getfield 190, 3) := by decide +kernel
theorem dX12_law_58 : decode cX12_law 58 = .ok (.if_icmp .ge 28, 3) := by decide +kernel
theorem dX12_law_61 : decode cX12_law 61 = .ok (.aload_n 0, 1) := by decide +kernel
theorem dX12_law_62 : decode cX12_law 62 = .ok (.bipush 59, 2) := by decide +kernel
theorem dX12_law_64 : decode cX12_law 64 = .ok (.invokevirtual 274, 3) := by decide +kernel
theorem dX12_law_67 : decode cX12_law 67 = .ok (.ifCond .eq 14, 3) := by decide +kernel
theorem dX12_law_70 : decode cX12_law 70 = .ok (.aload_n 0, 1) := by decide +kernel
theorem dX12_law_71 : decode cX12_law 71 = .ok (.invokevirtual 271, 3) := by decide +kernel
theorem dX12_law_74 : decode cX12_law 74 = .ok (.ifCond .eq 7, 3) := by decide +kernel
theorem dX12_law_77 : decode cX12_law 77 = .ok (.iconst 1, 1) := by decide +kernel
theorem dX12_law_78 : decode cX12_law 78 = .ok (.goto 4, 3) := by decide +kernel
theorem dX12_law_81 : decode cX12_law 81 = .ok (.iconst 0, 1) := by decide +kernel
theorem dX12_law_82 : decode cX12_law 82 = .ok (.istore_n 2, 1) := by decide +kernel
theorem dX12_law_83 : decode cX12_law 83 = .ok (.goto (-37), 3) := by decide +kernel
theorem dX12_law_86 : decode cX12_law 86 = .ok (.aload_n 0, 1) := by decide +kernel
theorem dX12_law_87 : decode cX12_law 87 = .ok (.iconst 0, 1) := by decide +kernel
theorem dX12_law_88 : decode cX12_law 88 = .ok (.putfield 165, 3) := by decide +kernel
theorem dX12_law_91 : decode cX12_law 91 = .ok (.iload_n 2, 1) := by decide +kernel
theorem dX12_law_92 : decode cX12_law 92 = .ok (.ifCond .ne 8, 3) := by decide +kernel
theorem dX12_law_95 : decode cX12_law 95 = .ok (.aload_n 0, 1) := by decide +kernel
theorem dX12_law_96 : decode cX12_law 96 = .ok (.getfield 197, 3) := by decide +kernel
theorem dX12_law_99 : decode cX12_law 99 = .ok (.ireturn, 1) := by decide +kernel
theorem dX12_law_100 : decode cX12_law 100 = .ok (.aload_n 0, 1) := by decide +kernel
theorem dX12_law_101 : decode cX12_law 101 = .ok (.aload_n 0, 1) := by decide +kernel
theorem dX12_law_102 : decode cX12_law 102 = .ok (.getfield 265, 3) := by decide +kernel
theorem dX12_law_105 : decode cX12_law 105 = .ok (.putfield 277, 3) := by decide +kernel
theorem dX12_law_108 : decode cX12_law 108 = .ok (.iconst 0, 1) := by decide +kernel
theorem dX12_law_109 : decode cX12_law 109 = .ok (.istore_n 3, 1) := by decide +kernel
theorem dX12_law_110 : decode cX12_law 110 = .ok (.iload_n 3, 1) := by decide +kernel
theorem dX12_law_111 : decode cX12_law 111 = .ok (.aload_n 0, 1) := by decide +kernel
theorem dX12_law_112 : decode cX12_law 112 = .ok (.getfield 211, 3) := by decide +kernel
theorem dX12_law_115 : decode cX12_law 115 = .ok (.if_icmp .ge 21, 3) := by decide +kernel
theorem dX12_law_118 : decode cX12_law 118 = .ok (.aload_n 0, 1) := by decide +kernel
theorem dX12_law_119 : decode cX12_law 119 = .ok (.getfield 48, 3) := by decide +kernel
theorem dX12_law_122 : decode cX12_law 122 = .ok (.iload_n 3, 1) := by decide +kernel
theorem dX12_law_123 : decode cX12_law 123 = .ok (.aload_n 0, 1) := by decide +kernel
theorem dX12_law_124 : decode cX12_law 124 = .ok (.getfield 30, 3) := by decide +kernel
theorem dX12_law_127 : decode cX12_law 127 = .ok (.iload_n 3, 1) := by decide +kernel
theorem dX12_law_128 : decode cX12_law 128 = .ok (.iaload, 1) := by decide +kernel
theorem dX12_law_129 : decode cX12_law 129 = .ok (.iastore, 1) := by decide +kernel
theorem dX12_law_130 : decode cX12_law 130 = .ok (.iinc 3 1, 3) := by decide +kernel
theorem dX12_law_133 : decode cX12_law 133 = .ok (.goto (-23), 3) := by decide +kernel
theorem dX12_law_136 : decode cX12_law 136 = .ok (.iconst 0, 1) := by decide +kernel
theorem dX12_law_137 : decode cX12_law 137 = .ok (.istore_n 3, 1) := by decide +kernel
theorem dX12_law_138 : decode cX12_law 138 = .ok (.iload_n 3, 1) := by decide +kernel
theorem dX12_law_139 : decode cX12_law 139 = .ok (.aload_n 0, 1) := by decide +kernel
theorem dX12_law_140 : decode cX12_law 140 = .ok (.getfield 265, 3) := by decide +kernel
theorem dX12_law_143 : decode cX12_law 143 = .ok (.if_icmp .ge 57, 3) := by decide +kernel
theorem dX12_law_146 : decode cX12_law 146 = .ok (.aload_n 0, 1) := by decide +kernel
theorem dX12_law_147 : decode cX12_law 147 = .ok (.getfield 51, 3) := by decide +kernel
theorem dX12_law_150 : decode cX12_law 150 = .ok (.iload_n 3, 1) := by decide +kernel
theorem dX12_law_151 : decode cX12_law 151 = .ok (.aload_n 0, 1) := by decide +kernel
theorem dX12_law_152 : decode cX12_law 152 = .ok (.getfield 36, 3) := by decide +kernel
theorem dX12_law_155 : decode cX12_law 155 = .ok (.iload_n 3, 1) := by decide +kernel
theorem dX12_law_156 : decode cX12_law 156 = .ok (.iaload, 1) := by decide +kernel
theorem dX12_law_157 : decode cX12_law 157 = .ok (.iastore, 1) := by decide +kernel
theorem dX12_law_158 : decode cX12_law 158 = .ok (.aload_n 0, 1) := by decide +kernel
theorem dX12_law_159 : decode cX12_law 159 = .ok (.getfield 54, 3) := by decide +kernel
theorem dX12_law_162 : decode cX12_law 162 = .ok (.iload_n 3, 1) := by decide +kernel
theorem dX12_law_163 : decode cX12_law 163 = .ok (.aload_n 0, 1) := by decide +kernel
theorem dX12_law_164 : decode cX12_law 164 = .ok (.getfield 39, 3) := by decide +kernel
theorem dX12_law_167 : decode cX12_law 167 = .ok (.iload_n 3, 1) := by decide +kernel
theorem dX12_law_168 : decode cX12_law 168 = .ok (.iaload, 1) := by decide +kernel
theorem dX12_law_169 : decode cX12_law 169 = .ok (.iastore, 1) := by decide +kernel
theorem dX12_law_170 : decode cX12_law 170 = .ok (.aload_n 0, 1) := by decide +kernel
theorem dX12_law_171 : decode cX12_law 171 = .ok (.getfield 57, 3) := by decide +kernel
theorem dX12_law_174 : decode cX12_law 174 = .ok (.iload_n 3, 1) := by decide +kernel
theorem dX12_law_175 : decode cX12_law 175 = .ok (.aload_n 0, 1) := by decide +kernel
theorem dX12_law_176 : decode cX12_law 176 = .ok (.getfield 42, 3) := by decide +kernel
theorem dX12_law_179 : decode cX12_law 179 = .ok (.iload_n 3, 1) := by decide +kernel
theorem dX12_law_180 : decode cX12_law 180 = .ok (.iaload, 1) := by decide +kernel
theorem dX12_law_181 : decode cX12_law 181 = .ok (.iastore, 1) := by decide +kernel
theorem dX12_law_182 : decode cX12_law 182 = .ok (.aload_n 0, 1) := by decide +kernel
theorem dX12_law_183 : decode cX12_law 183 = .ok (.getfield 60, 3) := by decide +kernel
theorem dX12_law_186 : decode cX12_law 186 = .ok (.iload_n 3, 1) := by decide +kernel
theorem dX12_law_187 : decode cX12_law 187 = .ok (.aload_n 0, 1) := by decide +kernel
theorem dX12_law_188 : decode cX12_law 188 = .ok (.getfield 45, 3) := by decide +kernel
theorem dX12_law_191 : decode cX12_law 191 = .ok (.iload_n 3, 1) := by decide +kernel
theorem dX12_law_192 : decode cX12_law 192 = .ok (.iaload, 1) := by decide +kernel
theorem dX12_law_193 : decode cX12_law 193 = .ok (.iastore, 1) := by decide +kernel
theorem dX12_law_194 : decode cX12_law 194 = .ok (.iinc 3 1, 3) := by decide +kernel
theorem dX12_law_197 : decode cX12_law 197 = .ok (.goto (-59), 3) := by decide +kernel
theorem dX12_law_200 : decode cX12_law 200 = .ok (.aload_n 0, 1) := by decide +kernel
theorem dX12_law_201 : decode cX12_law 201 = .ok (.getfield 265, 3) := by decide +kernel
theorem dX12_law_204 : decode cX12_law 204 = .ok (.ireturn, 1) := by decide +kernel
theorem dX12_laysBlank_0 : decode cX12_laysBlank 0 = .ok (.aload_n 0, 1) := by decide +kernel
theorem dX12_laysBlank_1 : decode cX12_laysBlank 1 = .ok (.iconst 0, 1) := by decide +kernel
theorem dX12_laysBlank_2 : decode cX12_laysBlank 2 = .ok (.putfield 320, 3) := by decide +kernel
theorem dX12_laysBlank_5 : decode cX12_laysBlank 5 = .ok (.iconst 0, 1) := by decide +kernel
theorem dX12_laysBlank_6 : decode cX12_laysBlank 6 = .ok (.istore_n 3, 1) := by decide +kernel
theorem dX12_laysBlank_7 : decode cX12_laysBlank 7 = .ok (.iload_n 3, 1) := by decide +kernel
theorem dX12_laysBlank_8 : decode cX12_laysBlank 8 = .ok (.aload_n 0, 1) := by decide +kernel
theorem dX12_laysBlank_9 : decode cX12_laysBlank 9 = .ok (.getfield 7, 3) := by decide +kernel
theorem dX12_laysBlank_12 : decode cX12_laysBlank 12 = .ok (.iload_n 1, 1) := by decide +kernel
theorem dX12_laysBlank_13 : decode cX12_laysBlank 13 = .ok (.iaload, 1) := by decide +kernel
theorem dX12_laysBlank_14 : decode cX12_laysBlank 14 = .ok (.if_icmp .ge 60, 3) := by decide +kernel
theorem dX12_laysBlank_17 : decode cX12_laysBlank 17 = .ok (.iload_n 2, 1) := by decide +kernel
theorem dX12_laysBlank_18 : decode cX12_laysBlank 18 = .ok (.ifCond .ne 20, 3) := by decide +kernel
theorem dX12_laysBlank_21 : decode cX12_laysBlank 21 = .ok (.aload_n 0, 1) := by decide +kernel
theorem dX12_laysBlank_22 : decode cX12_laysBlank 22 = .ok (.getfield 22, 3) := by decide +kernel
theorem dX12_laysBlank_25 : decode cX12_laysBlank 25 = .ok (.bipush 40, 2) := by decide +kernel
theorem dX12_laysBlank_27 : decode cX12_laysBlank 27 = .ok (.iload_n 1, 1) := by decide +kernel
theorem dX12_laysBlank_28 : decode cX12_laysBlank 28 = .ok (.imul, 1) := by decide +kernel
theorem dX12_laysBlank_29 : decode cX12_laysBlank 29 = .ok (.iload_n 3, 1) := by decide +kernel
theorem dX12_laysBlank_30 : decode cX12_laysBlank 30 = .ok (.iadd, 1) := by decide +kernel
theorem dX12_laysBlank_31 : decode cX12_laysBlank 31 = .ok (.baload, 1) := by decide +kernel
theorem dX12_laysBlank_32 : decode cX12_laysBlank 32 = .ok (.ifCond .eq 6, 3) := by decide +kernel
theorem dX12_laysBlank_35 : decode cX12_laysBlank 35 = .ok (.goto 33, 3) := by decide +kernel
theorem dX12_laysBlank_38 : decode cX12_laysBlank 38 = .ok (.aload_n 0, 1) := by decide +kernel
theorem dX12_laysBlank_39 : decode cX12_laysBlank 39 = .ok (.getfield 87, 3) := by decide +kernel
theorem dX12_laysBlank_42 : decode cX12_laysBlank 42 = .ok (.aload_n 0, 1) := by decide +kernel
theorem dX12_laysBlank_43 : decode cX12_laysBlank 43 = .ok (.getfield 320, 3) := by decide +kernel
theorem dX12_laysBlank_46 : decode cX12_laysBlank 46 = .ok (.aload_n 0, 1) := by decide +kernel
theorem dX12_laysBlank_47 : decode cX12_laysBlank 47 = .ok (.getfield 13, 3) := by decide +kernel
theorem dX12_laysBlank_50 : decode cX12_laysBlank 50 = .ok (.bipush 40, 2) := by decide +kernel
theorem dX12_laysBlank_52 : decode cX12_laysBlank 52 = .ok (.iload_n 1, 1) := by decide +kernel
theorem dX12_laysBlank_53 : decode cX12_laysBlank 53 = .ok (.imul, 1) := by decide +kernel
theorem dX12_laysBlank_54 : decode cX12_laysBlank 54 = .ok (.iload_n 3, 1) := by decide +kernel
theorem dX12_laysBlank_55 : decode cX12_laysBlank 55 = .ok (.iadd, 1) := by decide +kernel
theorem dX12_laysBlank_56 : decode cX12_laysBlank 56 = .ok (.iaload, 1) := by decide +kernel
theorem dX12_laysBlank_57 : decode cX12_laysBlank 57 = .ok (.iastore, 1) := by decide +kernel
theorem dX12_laysBlank_58 : decode cX12_laysBlank 58 = .ok (.aload_n 0, 1) := by decide +kernel
theorem dX12_laysBlank_59 : decode cX12_laysBlank 59 = .ok (.aload_n 0, 1) := by decide +kernel
theorem dX12_laysBlank_60 : decode cX12_laysBlank 60 = .ok (.getfield 320, 3) := by decide +kernel
theorem dX12_laysBlank_63 : decode cX12_laysBlank 63 = .ok (.iconst 1, 1) := by decide +kernel
theorem dX12_laysBlank_64 : decode cX12_laysBlank 64 = .ok (.iadd, 1) := by decide +kernel
theorem dX12_laysBlank_65 : decode cX12_laysBlank 65 = .ok (.putfield 320, 3) := by decide +kernel
theorem dX12_laysBlank_68 : decode cX12_laysBlank 68 = .ok (.iinc 3 1, 3) := by decide +kernel
theorem dX12_laysBlank_71 : decode cX12_laysBlank 71 = .ok (.goto (-64), 3) := by decide +kernel
theorem dX12_laysBlank_74 : decode cX12_laysBlank 74 = .ok (.return_, 1) := by decide +kernel
theorem dX12_laysCheap_0 : decode cX12_laysCheap 0 = .ok (.aload_n 0, 1) := by decide +kernel
theorem dX12_laysCheap_1 : decode cX12_laysCheap 1 = .ok (.getfield 320, 3) := by decide +kernel
theorem dX12_laysCheap_4 : decode cX12_laysCheap 4 = .ok (.istore_n 1, 1) := by decide +kernel
theorem dX12_laysCheap_5 : decode cX12_laysCheap 5 = .ok (.iload_n 1, 1) := by decide +kernel
theorem dX12_laysCheap_6 : decode cX12_laysCheap 6 = .ok (.ifCond .lt 151, 3) := by decide +kernel
theorem dX12_laysCheap_9 : decode cX12_laysCheap 9 = .ok (.aload_n 0, 1) := by decide +kernel
theorem dX12_laysCheap_10 : decode cX12_laysCheap 10 = .ok (.getfield 323, 3) := by decide +kernel
theorem dX12_laysCheap_13 : decode cX12_laysCheap 13 = .ok (.istore_n 2, 1) := by decide +kernel
theorem dX12_laysCheap_14 : decode cX12_laysCheap 14 = .ok (.iload_n 2, 1) := by decide +kernel
theorem dX12_laysCheap_15 : decode cX12_laysCheap 15 = .ok (.ifCond .lt 136, 3) := by decide +kernel
theorem dX12_laysCheap_18 : decode cX12_laysCheap 18 = .ok (.iload_n 1, 1) := by decide +kernel
theorem dX12_laysCheap_19 : decode cX12_laysCheap 19 = .ok (.aload_n 0, 1) := by decide +kernel
theorem dX12_laysCheap_20 : decode cX12_laysCheap 20 = .ok (.getfield 320, 3) := by decide +kernel
theorem dX12_laysCheap_23 : decode cX12_laysCheap 23 = .ok (.if_icmp .ne 21, 3) := by decide +kernel
theorem dX12_laysCheap_26 : decode cX12_laysCheap 26 = .ok (.iload_n 2, 1) := by decide +kernel
theorem dX12_laysCheap_27 : decode cX12_laysCheap 27 = .ok (.aload_n 0, 1) := by decide +kernel
theorem dX12_laysCheap_28 : decode cX12_laysCheap 28 = .ok (.getfield 323, 3) := by decide +kernel
theorem dX12_laysCheap_31 : decode cX12_laysCheap 31 = .ok (.if_icmp .ne 7, 3) := by decide +kernel
theorem dX12_laysCheap_34 : decode cX12_laysCheap 34 = .ok (.iconst 0, 1) := by decide +kernel
theorem dX12_laysCheap_35 : decode cX12_laysCheap 35 = .ok (.goto 31, 3) := by decide +kernel
theorem dX12_laysCheap_38 : decode cX12_laysCheap 38 = .ok (.ldc_w 341, 3) := by decide +kernel
theorem dX12_laysCheap_41 : decode cX12_laysCheap 41 = .ok (.goto 25, 3) := by decide +kernel
theorem dX12_laysCheap_44 : decode cX12_laysCheap 44 = .ok (.aload_n 0, 1) := by decide +kernel
theorem dX12_laysCheap_45 : decode cX12_laysCheap 45 = .ok (.getfield 97, 3) := by decide +kernel
theorem dX12_laysCheap_48 : decode cX12_laysCheap 48 = .ok (.iload_n 1, 1) := by decide +kernel
theorem dX12_laysCheap_49 : decode cX12_laysCheap 49 = .ok (.iaload, 1) := by decide +kernel
theorem dX12_laysCheap_50 : decode cX12_laysCheap 50 = .ok (.aload_n 0, 1) := by decide +kernel
theorem dX12_laysCheap_51 : decode cX12_laysCheap 51 = .ok (.getfield 100, 3) := by decide +kernel
theorem dX12_laysCheap_54 : decode cX12_laysCheap 54 = .ok (.bipush 17, 2) := by decide +kernel
theorem dX12_laysCheap_56 : decode cX12_laysCheap 56 = .ok (.iload_n 1, 1) := by decide +kernel
theorem dX12_laysCheap_57 : decode cX12_laysCheap 57 = .ok (.iconst 1, 1) := by decide +kernel
theorem dX12_laysCheap_58 : decode cX12_laysCheap 58 = .ok (.iadd, 1) := by decide +kernel
theorem dX12_laysCheap_59 : decode cX12_laysCheap 59 = .ok (.imul, 1) := by decide +kernel
theorem dX12_laysCheap_60 : decode cX12_laysCheap 60 = .ok (.iload_n 2, 1) := by decide +kernel
theorem dX12_laysCheap_61 : decode cX12_laysCheap 61 = .ok (.iadd, 1) := by decide +kernel
theorem dX12_laysCheap_62 : decode cX12_laysCheap 62 = .ok (.iaload, 1) := by decide +kernel
theorem dX12_laysCheap_63 : decode cX12_laysCheap 63 = .ok (.invokestatic 342, 3) := by decide +kernel
theorem dX12_laysCheap_66 : decode cX12_laysCheap 66 = .ok (.istore_n 3, 1) := by decide +kernel
theorem dX12_laysCheap_67 : decode cX12_laysCheap 67 = .ok (.iload_n 1, 1) := by decide +kernel
theorem dX12_laysCheap_68 : decode cX12_laysCheap 68 = .ok (.aload_n 0, 1) := by decide +kernel
theorem dX12_laysCheap_69 : decode cX12_laysCheap 69 = .ok (.getfield 320, 3) := by decide +kernel
theorem dX12_laysCheap_72 : decode cX12_laysCheap 72 = .ok (.if_icmp .ge 61, 3) := by decide +kernel
theorem dX12_laysCheap_75 : decode cX12_laysCheap 75 = .ok (.iload_n 2, 1) := by decide +kernel
theorem dX12_laysCheap_76 : decode cX12_laysCheap 76 = .ok (.aload_n 0, 1) := by decide +kernel
theorem dX12_laysCheap_77 : decode cX12_laysCheap 77 = .ok (.getfield 323, 3) := by decide +kernel
theorem dX12_laysCheap_80 : decode cX12_laysCheap 80 = .ok (.if_icmp .ge 53, 3) := by decide +kernel
theorem dX12_laysCheap_83 : decode cX12_laysCheap 83 = .ok (.aload_n 0, 1) := by decide +kernel
theorem dX12_laysCheap_84 : decode cX12_laysCheap 84 = .ok (.getfield 87, 3) := by decide +kernel
theorem dX12_laysCheap_87 : decode cX12_laysCheap 87 = .ok (.iload_n 1, 1) := by decide +kernel
theorem dX12_laysCheap_88 : decode cX12_laysCheap 88 = .ok (.iaload, 1) := by decide +kernel
theorem dX12_laysCheap_89 : decode cX12_laysCheap 89 = .ok (.aload_n 0, 1) := by decide +kernel
theorem dX12_laysCheap_90 : decode cX12_laysCheap 90 = .ok (.getfield 90, 3) := by decide +kernel
theorem dX12_laysCheap_93 : decode cX12_laysCheap 93 = .ok (.iload_n 2, 1) := by decide +kernel
theorem dX12_laysCheap_94 : decode cX12_laysCheap 94 = .ok (.iaload, 1) := by decide +kernel
theorem dX12_laysCheap_95 : decode cX12_laysCheap 95 = .ok (.if_icmp .ne 38, 3) := by decide +kernel
theorem dX12_laysCheap_98 : decode cX12_laysCheap 98 = .ok (.aload_n 0, 1) := by decide +kernel
theorem dX12_laysCheap_99 : decode cX12_laysCheap 99 = .ok (.getfield 100, 3) := by decide +kernel
theorem dX12_laysCheap_102 : decode cX12_laysCheap 102 = .ok (.bipush 17, 2) := by decide +kernel
theorem dX12_laysCheap_104 : decode cX12_laysCheap 104 = .ok (.iload_n 1, 1) := by decide +kernel
theorem dX12_laysCheap_105 : decode cX12_laysCheap 105 = .ok (.iconst 1, 1) := by decide +kernel
theorem dX12_laysCheap_106 : decode cX12_laysCheap 106 = .ok (.iadd, 1) := by decide +kernel
theorem dX12_laysCheap_107 : decode cX12_laysCheap 107 = .ok (.imul, 1) := by decide +kernel
theorem dX12_laysCheap_108 : decode cX12_laysCheap 108 = .ok (.iload_n 2, 1) := by decide +kernel
theorem dX12_laysCheap_109 : decode cX12_laysCheap 109 = .ok (.iadd, 1) := by decide +kernel
theorem dX12_laysCheap_110 : decode cX12_laysCheap 110 = .ok (.iconst 1, 1) := by decide +kernel
theorem dX12_laysCheap_111 : decode cX12_laysCheap 111 = .ok (.iadd, 1) := by decide +kernel
theorem dX12_laysCheap_112 : decode cX12_laysCheap 112 = .ok (.iaload, 1) := by decide +kernel
theorem dX12_laysCheap_113 : decode cX12_laysCheap 113 = .ok (.iload_n 3, 1) := by decide +kernel
theorem dX12_laysCheap_114 : decode cX12_laysCheap 114 = .ok (.if_icmp .ge 19, 3) := by decide +kernel
theorem dX12_laysCheap_117 : decode cX12_laysCheap 117 = .ok (.aload_n 0, 1) := by decide +kernel
theorem dX12_laysCheap_118 : decode cX12_laysCheap 118 = .ok (.getfield 100, 3) := by decide +kernel
theorem dX12_laysCheap_121 : decode cX12_laysCheap 121 = .ok (.bipush 17, 2) := by decide +kernel
theorem dX12_laysCheap_123 : decode cX12_laysCheap 123 = .ok (.iload_n 1, 1) := by decide +kernel
theorem dX12_laysCheap_124 : decode cX12_laysCheap 124 = .ok (.iconst 1, 1) := by decide +kernel
theorem dX12_laysCheap_125 : decode cX12_laysCheap 125 = .ok (.iadd, 1) := by decide +kernel
theorem dX12_laysCheap_126 : decode cX12_laysCheap 126 = .ok (.imul, 1) := by decide +kernel
theorem dX12_laysCheap_127 : decode cX12_laysCheap 127 = .ok (.iload_n 2, 1) := by decide +kernel
theorem dX12_laysCheap_128 : decode cX12_laysCheap 128 = .ok (.iadd, 1) := by decide +kernel
theorem dX12_laysCheap_129 : decode cX12_laysCheap 129 = .ok (.iconst 1, 1) := by decide +kernel
theorem dX12_laysCheap_130 : decode cX12_laysCheap 130 = .ok (.iadd, 1) := by decide +kernel
theorem dX12_laysCheap_131 : decode cX12_laysCheap 131 = .ok (.iaload, 1) := by decide +kernel
theorem dX12_laysCheap_132 : decode cX12_laysCheap 132 = .ok (.istore_n 3, 1) := by decide +kernel
theorem dX12_laysCheap_133 : decode cX12_laysCheap 133 = .ok (.aload_n 0, 1) := by decide +kernel
theorem dX12_laysCheap_134 : decode cX12_laysCheap 134 = .ok (.getfield 100, 3) := by decide +kernel
theorem dX12_laysCheap_137 : decode cX12_laysCheap 137 = .ok (.bipush 17, 2) := by decide +kernel
theorem dX12_laysCheap_139 : decode cX12_laysCheap 139 = .ok (.iload_n 1, 1) := by decide +kernel
theorem dX12_laysCheap_140 : decode cX12_laysCheap 140 = .ok (.imul, 1) := by decide +kernel
theorem dX12_laysCheap_141 : decode cX12_laysCheap 141 = .ok (.iload_n 2, 1) := by decide +kernel
theorem dX12_laysCheap_142 : decode cX12_laysCheap 142 = .ok (.iadd, 1) := by decide +kernel
theorem dX12_laysCheap_143 : decode cX12_laysCheap 143 = .ok (.iload_n 3, 1) := by decide +kernel
theorem dX12_laysCheap_144 : decode cX12_laysCheap 144 = .ok (.iastore, 1) := by decide +kernel
theorem dX12_laysCheap_145 : decode cX12_laysCheap 145 = .ok (.iinc 2 (-1), 3) := by decide +kernel
theorem dX12_laysCheap_148 : decode cX12_laysCheap 148 = .ok (.goto (-134), 3) := by decide +kernel
theorem dX12_laysCheap_151 : decode cX12_laysCheap 151 = .ok (.iinc 1 (-1), 3) := by decide +kernel
theorem dX12_laysCheap_154 : decode cX12_laysCheap 154 = .ok (.goto (-149), 3) := by decide +kernel
theorem dX12_laysCheap_157 : decode cX12_laysCheap 157 = .ok (.return_, 1) := by decide +kernel
theorem dX12_laysComes_0 : decode cX12_laysComes 0 = .ok (.iconst 0, 1) := by decide +kernel
theorem dX12_laysComes_1 : decode cX12_laysComes 1 = .ok (.istore_n 1, 1) := by decide +kernel
theorem dX12_laysComes_2 : decode cX12_laysComes 2 = .ok (.iload_n 1, 1) := by decide +kernel
theorem dX12_laysComes_3 : decode cX12_laysComes 3 = .ok (.aload_n 0, 1) := by decide +kernel
theorem dX12_laysComes_4 : decode cX12_laysComes 4 = .ok (.getfield 152, 3) := by decide +kernel
theorem dX12_laysComes_7 : decode cX12_laysComes 7 = .ok (.if_icmp .ge 74, 3) := by decide +kernel
theorem dX12_laysComes_10 : decode cX12_laysComes 10 = .ok (.aload_n 0, 1) := by decide +kernel
theorem dX12_laysComes_11 : decode cX12_laysComes 11 = .ok (.iload_n 1, 1) := by decide +kernel
theorem dX12_laysComes_12 : decode cX12_laysComes 12 = .ok (.iconst 0, 1) := by decide +kernel
theorem dX12_laysComes_13 : decode cX12_laysComes 13 = .ok (.invokevirtual 334, 3) := by decide +kernel
theorem dX12_laysComes_16 : decode cX12_laysComes 16 = .ok (.iconst 0, 1) := by decide +kernel
theorem dX12_laysComes_17 : decode cX12_laysComes 17 = .ok (.istore_n 2, 1) := by decide +kernel
theorem dX12_laysComes_18 : decode cX12_laysComes 18 = .ok (.iload_n 2, 1) := by decide +kernel
theorem dX12_laysComes_19 : decode cX12_laysComes 19 = .ok (.bipush 8, 2) := by decide +kernel
theorem dX12_laysComes_21 : decode cX12_laysComes 21 = .ok (.if_icmp .ge 54, 3) := by decide +kernel
theorem dX12_laysComes_24 : decode cX12_laysComes 24 = .ok (.aload_n 0, 1) := by decide +kernel
theorem dX12_laysComes_25 : decode cX12_laysComes 25 = .ok (.iload_n 2, 1) := by decide +kernel
theorem dX12_laysComes_26 : decode cX12_laysComes 26 = .ok (.invokevirtual 326, 3) := by decide +kernel
theorem dX12_laysComes_29 : decode cX12_laysComes 29 = .ok (.ifCond .eq 8, 3) := by decide +kernel
theorem dX12_laysComes_32 : decode cX12_laysComes 32 = .ok (.aload_n 0, 1) := by decide +kernel
theorem dX12_laysComes_33 : decode cX12_laysComes 33 = .ok (.iload_n 2, 1) := by decide +kernel
theorem dX12_laysComes_34 : decode cX12_laysComes 34 = .ok (.invokevirtual 338, 3) := by decide +kernel
theorem dX12_laysComes_37 : decode cX12_laysComes 37 = .ok (.aload_n 0, 1) := by decide +kernel
theorem dX12_laysComes_38 : decode cX12_laysComes 38 = .ok (.getfield 136, 3) := by decide +kernel
theorem dX12_laysComes_41 : decode cX12_laysComes 41 = .ok (.bipush 8, 2) := by decide +kernel
theorem dX12_laysComes_43 : decode cX12_laysComes 43 = .ok (.iload_n 2, 1) := by decide +kernel
theorem dX12_laysComes_44 : decode cX12_laysComes 44 = .ok (.imul, 1) := by decide +kernel
theorem dX12_laysComes_45 : decode cX12_laysComes 45 = .ok (.iload_n 1, 1) := by decide +kernel
theorem dX12_laysComes_46 : decode cX12_laysComes 46 = .ok (.iadd, 1) := by decide +kernel
theorem dX12_laysComes_47 : decode cX12_laysComes 47 = .ok (.aload_n 0, 1) := by decide +kernel
theorem dX12_laysComes_48 : decode cX12_laysComes 48 = .ok (.iload_n 2, 1) := by decide +kernel
theorem dX12_laysComes_49 : decode cX12_laysComes 49 = .ok (.invokevirtual 326, 3) := by decide +kernel
theorem dX12_laysComes_52 : decode cX12_laysComes 52 = .ok (.ifCond .eq 15, 3) := by decide +kernel
theorem dX12_laysComes_55 : decode cX12_laysComes 55 = .ok (.aload_n 0, 1) := by decide +kernel
theorem dX12_laysComes_56 : decode cX12_laysComes 56 = .ok (.iconst (-1), 1) := by decide +kernel
theorem dX12_laysComes_57 : decode cX12_laysComes 57 = .ok (.invokevirtual 417, 3) := by decide +kernel
theorem dX12_laysComes_60 : decode cX12_laysComes 60 = .ok (.ifCond .eq 7, 3) := by decide +kernel
theorem dX12_laysComes_63 : decode cX12_laysComes 63 = .ok (.iconst 1, 1) := by decide +kernel
theorem dX12_laysComes_64 : decode cX12_laysComes 64 = .ok (.goto 4, 3) := by decide +kernel
theorem dX12_laysComes_67 : decode cX12_laysComes 67 = .ok (.iconst 0, 1) := by decide +kernel
theorem dX12_laysComes_68 : decode cX12_laysComes 68 = .ok (.bastore, 1) := by decide +kernel
theorem dX12_laysComes_69 : decode cX12_laysComes 69 = .ok (.iinc 2 1, 3) := by decide +kernel
theorem dX12_laysComes_72 : decode cX12_laysComes 72 = .ok (.goto (-54), 3) := by decide +kernel
theorem dX12_laysComes_75 : decode cX12_laysComes 75 = .ok (.iinc 1 1, 3) := by decide +kernel
theorem dX12_laysComes_78 : decode cX12_laysComes 78 = .ok (.goto (-76), 3) := by decide +kernel
theorem dX12_laysComes_81 : decode cX12_laysComes 81 = .ok (.return_, 1) := by decide +kernel
theorem dX12_laysDeed_0 : decode cX12_laysDeed 0 = .ok (.aload_n 0, 1) := by decide +kernel
theorem dX12_laysDeed_1 : decode cX12_laysDeed 1 = .ok (.aload_n 0, 1) := by decide +kernel
theorem dX12_laysDeed_2 : decode cX12_laysDeed 2 = .ok (.getfield 16, 3) := by decide +kernel
theorem dX12_laysDeed_5 : decode cX12_laysDeed 5 = .ok (.iload_n 1, 1) := by decide +kernel
theorem dX12_laysDeed_6 : decode cX12_laysDeed 6 = .ok (.iaload, 1) := by decide +kernel
theorem dX12_laysDeed_7 : decode cX12_laysDeed 7 = .ok (.putfield 323, 3) := by decide +kernel
theorem dX12_laysDeed_10 : decode cX12_laysDeed 10 = .ok (.iconst 0, 1) := by decide +kernel
theorem dX12_laysDeed_11 : decode cX12_laysDeed 11 = .ok (.istore_n 2, 1) := by decide +kernel
theorem dX12_laysDeed_12 : decode cX12_laysDeed 12 = .ok (.iload_n 2, 1) := by decide +kernel
theorem dX12_laysDeed_13 : decode cX12_laysDeed 13 = .ok (.aload_n 0, 1) := by decide +kernel
theorem dX12_laysDeed_14 : decode cX12_laysDeed 14 = .ok (.getfield 323, 3) := by decide +kernel
theorem dX12_laysDeed_17 : decode cX12_laysDeed 17 = .ok (.if_icmp .ge 26, 3) := by decide +kernel
theorem dX12_laysDeed_20 : decode cX12_laysDeed 20 = .ok (.aload_n 0, 1) := by decide +kernel
theorem dX12_laysDeed_21 : decode cX12_laysDeed 21 = .ok (.getfield 90, 3) := by decide +kernel
theorem dX12_laysDeed_24 : decode cX12_laysDeed 24 = .ok (.iload_n 2, 1) := by decide +kernel
theorem dX12_laysDeed_25 : decode cX12_laysDeed 25 = .ok (.aload_n 0, 1) := by decide +kernel
theorem dX12_laysDeed_26 : decode cX12_laysDeed 26 = .ok (.getfield 19, 3) := by decide +kernel
theorem dX12_laysDeed_29 : decode cX12_laysDeed 29 = .ok (.bipush 16, 2) := by decide +kernel
theorem dX12_laysDeed_31 : decode cX12_laysDeed 31 = .ok (.iload_n 1, 1) := by decide +kernel
theorem dX12_laysDeed_32 : decode cX12_laysDeed 32 = .ok (.imul, 1) := by decide +kernel
theorem dX12_laysDeed_33 : decode cX12_laysDeed 33 = .ok (.iload_n 2, 1) := by decide +kernel
theorem dX12_laysDeed_34 : decode cX12_laysDeed 34 = .ok (.iadd, 1) := by decide +kernel
theorem dX12_laysDeed_35 : decode cX12_laysDeed 35 = .ok (.iaload, 1) := by decide +kernel
theorem dX12_laysDeed_36 : decode cX12_laysDeed 36 = .ok (.iastore, 1) := by decide +kernel
theorem dX12_laysDeed_37 : decode cX12_laysDeed 37 = .ok (.iinc 2 1, 3) := by decide +kernel
theorem dX12_laysDeed_40 : decode cX12_laysDeed 40 = .ok (.goto (-28), 3) := by decide +kernel
theorem dX12_laysDeed_43 : decode cX12_laysDeed 43 = .ok (.return_, 1) := by decide +kernel
theorem dX12_laysEnd_0 : decode cX12_laysEnd 0 = .ok (.aload_n 0, 1) := by decide +kernel
theorem dX12_laysEnd_1 : decode cX12_laysEnd 1 = .ok (.invokevirtual 427, 3) := by decide +kernel
theorem dX12_laysEnd_4 : decode cX12_laysEnd 4 = .ok (.iconst 0, 1) := by decide +kernel
theorem dX12_laysEnd_5 : decode cX12_laysEnd 5 = .ok (.istore_n 2, 1) := by decide +kernel
theorem dX12_laysEnd_6 : decode cX12_laysEnd 6 = .ok (.iload_n 2, 1) := by decide +kernel
theorem dX12_laysEnd_7 : decode cX12_laysEnd 7 = .ok (.sipush 256, 3) := by decide +kernel
theorem dX12_laysEnd_10 : decode cX12_laysEnd 10 = .ok (.if_icmp .ge 20, 3) := by decide +kernel
theorem dX12_laysEnd_13 : decode cX12_laysEnd 13 = .ok (.aload_n 0, 1) := by decide +kernel
theorem dX12_laysEnd_14 : decode cX12_laysEnd 14 = .ok (.getfield 139, 3) := by decide +kernel
theorem dX12_laysEnd_17 : decode cX12_laysEnd 17 = .ok (.sipush 2048, 3) := by decide +kernel
theorem dX12_laysEnd_20 : decode cX12_laysEnd 20 = .ok (.iload_n 2, 1) := by decide +kernel
theorem dX12_laysEnd_21 : decode cX12_laysEnd 21 = .ok (.iadd, 1) := by decide +kernel
theorem dX12_laysEnd_22 : decode cX12_laysEnd 22 = .ok (.iconst 0, 1) := by decide +kernel
theorem dX12_laysEnd_23 : decode cX12_laysEnd 23 = .ok (.iastore, 1) := by decide +kernel
theorem dX12_laysEnd_24 : decode cX12_laysEnd 24 = .ok (.iinc 2 1, 3) := by decide +kernel
theorem dX12_laysEnd_27 : decode cX12_laysEnd 27 = .ok (.goto (-21), 3) := by decide +kernel
theorem dX12_laysEnd_30 : decode cX12_laysEnd 30 = .ok (.bipush 7, 2) := by decide +kernel
theorem dX12_laysEnd_32 : decode cX12_laysEnd 32 = .ok (.istore_n 2, 1) := by decide +kernel
theorem dX12_laysEnd_33 : decode cX12_laysEnd 33 = .ok (.iload_n 2, 1) := by decide +kernel
theorem dX12_laysEnd_34 : decode cX12_laysEnd 34 = .ok (.ifCond .lt 103, 3) := by decide +kernel
theorem dX12_laysEnd_37 : decode cX12_laysEnd 37 = .ok (.iconst 0, 1) := by decide +kernel
theorem dX12_laysEnd_38 : decode cX12_laysEnd 38 = .ok (.istore_n 3, 1) := by decide +kernel
theorem dX12_laysEnd_39 : decode cX12_laysEnd 39 = .ok (.iload_n 3, 1) := by decide +kernel
theorem dX12_laysEnd_40 : decode cX12_laysEnd 40 = .ok (.sipush 256, 3) := by decide +kernel
theorem dX12_laysEnd_43 : decode cX12_laysEnd 43 = .ok (.if_icmp .ge 88, 3) := by decide +kernel
theorem dX12_laysEnd_46 : decode cX12_laysEnd 46 = .ok (.aload_n 0, 1) := by decide +kernel
theorem dX12_laysEnd_47 : decode cX12_laysEnd 47 = .ok (.iload_n 2, 1) := by decide +kernel
theorem dX12_laysEnd_48 : decode cX12_laysEnd 48 = .ok (.bipush 8, 2) := by decide +kernel
theorem dX12_laysEnd_50 : decode cX12_laysEnd 50 = .ok (.iload_n 3, 1) := by decide +kernel
theorem dX12_laysEnd_51 : decode cX12_laysEnd 51 = .ok (.invokevirtual 430, 3) := by decide +kernel
theorem dX12_laysEnd_54 : decode cX12_laysEnd 54 = .ok (.istore 4, 2) := by decide +kernel
theorem dX12_laysEnd_56 : decode cX12_laysEnd 56 = .ok (.iconst 0, 1) := by decide +kernel
theorem dX12_laysEnd_57 : decode cX12_laysEnd 57 = .ok (.istore 5, 2) := by decide +kernel
theorem dX12_laysEnd_59 : decode cX12_laysEnd 59 = .ok (.iload 5, 2) := by decide +kernel
theorem dX12_laysEnd_61 : decode cX12_laysEnd 61 = .ok (.aload_n 0, 1) := by decide +kernel
theorem dX12_laysEnd_62 : decode cX12_laysEnd 62 = .ok (.getfield 152, 3) := by decide +kernel
theorem dX12_laysEnd_65 : decode cX12_laysEnd 65 = .ok (.if_icmp .ge 46, 3) := by decide +kernel
theorem dX12_laysEnd_68 : decode cX12_laysEnd 68 = .ok (.iload_n 1, 1) := by decide +kernel
theorem dX12_laysEnd_69 : decode cX12_laysEnd 69 = .ok (.iload_n 2, 1) := by decide +kernel
theorem dX12_laysEnd_70 : decode cX12_laysEnd 70 = .ok (.ishr, 1) := by decide +kernel
theorem dX12_laysEnd_71 : decode cX12_laysEnd 71 = .ok (.iconst 1, 1) := by decide +kernel
theorem dX12_laysEnd_72 : decode cX12_laysEnd 72 = .ok (.iand, 1) := by decide +kernel
theorem dX12_laysEnd_73 : decode cX12_laysEnd 73 = .ok (.iconst 1, 1) := by decide +kernel
theorem dX12_laysEnd_74 : decode cX12_laysEnd 74 = .ok (.if_icmp .ne 37, 3) := by decide +kernel
theorem dX12_laysEnd_77 : decode cX12_laysEnd 77 = .ok (.aload_n 0, 1) := by decide +kernel
theorem dX12_laysEnd_78 : decode cX12_laysEnd 78 = .ok (.iload_n 2, 1) := by decide +kernel
theorem dX12_laysEnd_79 : decode cX12_laysEnd 79 = .ok (.iload 5, 2) := by decide +kernel
theorem dX12_laysEnd_81 : decode cX12_laysEnd 81 = .ok (.iload_n 3, 1) := by decide +kernel
theorem dX12_laysEnd_82 : decode cX12_laysEnd 82 = .ok (.invokevirtual 430, 3) := by decide +kernel
theorem dX12_laysEnd_85 : decode cX12_laysEnd 85 = .ok (.iload 4, 2) := by decide +kernel
theorem dX12_laysEnd_87 : decode cX12_laysEnd 87 = .ok (.if_icmp .le 14, 3) := by decide +kernel
theorem dX12_laysEnd_90 : decode cX12_laysEnd 90 = .ok (.aload_n 0, 1) := by decide +kernel
theorem dX12_laysEnd_91 : decode cX12_laysEnd 91 = .ok (.iload_n 2, 1) := by decide +kernel
theorem dX12_laysEnd_92 : decode cX12_laysEnd 92 = .ok (.iload 5, 2) := by decide +kernel
theorem dX12_laysEnd_94 : decode cX12_laysEnd 94 = .ok (.iload_n 3, 1) := by decide +kernel
theorem dX12_laysEnd_95 : decode cX12_laysEnd 95 = .ok (.invokevirtual 430, 3) := by decide +kernel
theorem dX12_laysEnd_98 : decode cX12_laysEnd 98 = .ok (.goto 5, 3) := by decide +kernel
theorem dX12_laysEnd_101 : decode cX12_laysEnd 101 = .ok (.iload 4, 2) := by decide +kernel
theorem dX12_laysEnd_103 : decode cX12_laysEnd 103 = .ok (.istore 4, 2) := by decide +kernel
theorem dX12_laysEnd_105 : decode cX12_laysEnd 105 = .ok (.iinc 5 1, 3) := by decide +kernel
theorem dX12_laysEnd_108 : decode cX12_laysEnd 108 = .ok (.goto (-49), 3) := by decide +kernel
theorem dX12_laysEnd_111 : decode cX12_laysEnd 111 = .ok (.aload_n 0, 1) := by decide +kernel
theorem dX12_laysEnd_112 : decode cX12_laysEnd 112 = .ok (.getfield 139, 3) := by decide +kernel
theorem dX12_laysEnd_115 : decode cX12_laysEnd 115 = .ok (.sipush 256, 3) := by decide +kernel
theorem dX12_laysEnd_118 : decode cX12_laysEnd 118 = .ok (.iload_n 2, 1) := by decide +kernel
theorem dX12_laysEnd_119 : decode cX12_laysEnd 119 = .ok (.imul, 1) := by decide +kernel
theorem dX12_laysEnd_120 : decode cX12_laysEnd 120 = .ok (.iload_n 3, 1) := by decide +kernel
theorem dX12_laysEnd_121 : decode cX12_laysEnd 121 = .ok (.iadd, 1) := by decide +kernel
theorem dX12_laysEnd_122 : decode cX12_laysEnd 122 = .ok (.iload 4, 2) := by decide +kernel
theorem dX12_laysEnd_124 : decode cX12_laysEnd 124 = .ok (.iastore, 1) := by decide +kernel
theorem dX12_laysEnd_125 : decode cX12_laysEnd 125 = .ok (.iinc 3 1, 3) := by decide +kernel
theorem dX12_laysEnd_128 : decode cX12_laysEnd 128 = .ok (.goto (-89), 3) := by decide +kernel
theorem dX12_laysEnd_131 : decode cX12_laysEnd 131 = .ok (.iinc 2 (-1), 3) := by decide +kernel
theorem dX12_laysEnd_134 : decode cX12_laysEnd 134 = .ok (.goto (-101), 3) := by decide +kernel
theorem dX12_laysEnd_137 : decode cX12_laysEnd 137 = .ok (.return_, 1) := by decide +kernel
theorem dX12_laysFollows_0 : decode cX12_laysFollows 0 = .ok (.iconst 0, 1) := by decide +kernel
theorem dX12_laysFollows_1 : decode cX12_laysFollows 1 = .ok (.istore_n 2, 1) := by decide +kernel
theorem dX12_laysFollows_2 : decode cX12_laysFollows 2 = .ok (.iload_n 2, 1) := by decide +kernel
theorem dX12_laysFollows_3 : decode cX12_laysFollows 3 = .ok (.bipush 9, 2) := by decide +kernel
theorem dX12_laysFollows_5 : decode cX12_laysFollows 5 = .ok (.if_icmp .ge 115, 3) := by decide +kernel
theorem dX12_laysFollows_8 : decode cX12_laysFollows 8 = .ok (.iload_n 2, 1) := by decide +kernel
theorem dX12_laysFollows_9 : decode cX12_laysFollows 9 = .ok (.bipush 8, 2) := by decide +kernel
theorem dX12_laysFollows_11 : decode cX12_laysFollows 11 = .ok (.if_icmp .ne 12, 3) := by decide +kernel
theorem dX12_laysFollows_14 : decode cX12_laysFollows 14 = .ok (.aload_n 0, 1) := by decide +kernel
theorem dX12_laysFollows_15 : decode cX12_laysFollows 15 = .ok (.iload_n 1, 1) := by decide +kernel
theorem dX12_laysFollows_16 : decode cX12_laysFollows 16 = .ok (.iconst 0, 1) := by decide +kernel
theorem dX12_laysFollows_17 : decode cX12_laysFollows 17 = .ok (.invokevirtual 334, 3) := by decide +kernel
theorem dX12_laysFollows_20 : decode cX12_laysFollows 20 = .ok (.goto 16, 3) := by decide +kernel
theorem dX12_laysFollows_23 : decode cX12_laysFollows 23 = .ok (.aload_n 0, 1) := by decide +kernel
theorem dX12_laysFollows_24 : decode cX12_laysFollows 24 = .ok (.iload_n 2, 1) := by decide +kernel
theorem dX12_laysFollows_25 : decode cX12_laysFollows 25 = .ok (.invokevirtual 326, 3) := by decide +kernel
theorem dX12_laysFollows_28 : decode cX12_laysFollows 28 = .ok (.ifCond .eq 8, 3) := by decide +kernel
theorem dX12_laysFollows_31 : decode cX12_laysFollows 31 = .ok (.aload_n 0, 1) := by decide +kernel
theorem dX12_laysFollows_32 : decode cX12_laysFollows 32 = .ok (.iload_n 2, 1) := by decide +kernel
theorem dX12_laysFollows_33 : decode cX12_laysFollows 33 = .ok (.invokevirtual 448, 3) := by decide +kernel
theorem dX12_laysFollows_36 : decode cX12_laysFollows 36 = .ok (.iconst 0, 1) := by decide +kernel
theorem dX12_laysFollows_37 : decode cX12_laysFollows 37 = .ok (.istore_n 3, 1) := by decide +kernel
theorem dX12_laysFollows_38 : decode cX12_laysFollows 38 = .ok (.iload_n 3, 1) := by decide +kernel
theorem dX12_laysFollows_39 : decode cX12_laysFollows 39 = .ok (.bipush 8, 2) := by decide +kernel
theorem dX12_laysFollows_41 : decode cX12_laysFollows 41 = .ok (.if_icmp .ge 73, 3) := by decide +kernel
theorem dX12_laysFollows_44 : decode cX12_laysFollows 44 = .ok (.aload_n 0, 1) := by decide +kernel
theorem dX12_laysFollows_45 : decode cX12_laysFollows 45 = .ok (.iload_n 3, 1) := by decide +kernel
theorem dX12_laysFollows_46 : decode cX12_laysFollows 46 = .ok (.invokevirtual 326, 3) := by decide +kernel
theorem dX12_laysFollows_49 : decode cX12_laysFollows 49 = .ok (.ifCond .eq 8, 3) := by decide +kernel
theorem dX12_laysFollows_52 : decode cX12_laysFollows 52 = .ok (.aload_n 0, 1) := by decide +kernel
theorem dX12_laysFollows_53 : decode cX12_laysFollows 53 = .ok (.iload_n 3, 1) := by decide +kernel
theorem dX12_laysFollows_54 : decode cX12_laysFollows 54 = .ok (.invokevirtual 338, 3) := by decide +kernel
theorem dX12_laysFollows_57 : decode cX12_laysFollows 57 = .ok (.aload_n 0, 1) := by decide +kernel
theorem dX12_laysFollows_58 : decode cX12_laysFollows 58 = .ok (.getfield 142, 3) := by decide +kernel
theorem dX12_laysFollows_61 : decode cX12_laysFollows 61 = .ok (.bipush 8, 2) := by decide +kernel
theorem dX12_laysFollows_63 : decode cX12_laysFollows 63 = .ok (.iload_n 2, 1) := by decide +kernel
theorem dX12_laysFollows_64 : decode cX12_laysFollows 64 = .ok (.imul, 1) := by decide +kernel
theorem dX12_laysFollows_65 : decode cX12_laysFollows 65 = .ok (.iload_n 3, 1) := by decide +kernel
theorem dX12_laysFollows_66 : decode cX12_laysFollows 66 = .ok (.iadd, 1) := by decide +kernel
theorem dX12_laysFollows_67 : decode cX12_laysFollows 67 = .ok (.iload_n 3, 1) := by decide +kernel
theorem dX12_laysFollows_68 : decode cX12_laysFollows 68 = .ok (.iload_n 2, 1) := by decide +kernel
theorem dX12_laysFollows_69 : decode cX12_laysFollows 69 = .ok (.if_icmp .eq 37, 3) := by decide +kernel
theorem dX12_laysFollows_72 : decode cX12_laysFollows 72 = .ok (.aload_n 0, 1) := by decide +kernel
theorem dX12_laysFollows_73 : decode cX12_laysFollows 73 = .ok (.iload_n 3, 1) := by decide +kernel
theorem dX12_laysFollows_74 : decode cX12_laysFollows 74 = .ok (.invokevirtual 326, 3) := by decide +kernel
theorem dX12_laysFollows_77 : decode cX12_laysFollows 77 = .ok (.ifCond .eq 29, 3) := by decide +kernel
theorem dX12_laysFollows_80 : decode cX12_laysFollows 80 = .ok (.iload_n 2, 1) := by decide +kernel
theorem dX12_laysFollows_81 : decode cX12_laysFollows 81 = .ok (.bipush 8, 2) := by decide +kernel
theorem dX12_laysFollows_83 : decode cX12_laysFollows 83 = .ok (.if_icmp .eq 11, 3) := by decide +kernel
theorem dX12_laysFollows_86 : decode cX12_laysFollows 86 = .ok (.aload_n 0, 1) := by decide +kernel
theorem dX12_laysFollows_87 : decode cX12_laysFollows 87 = .ok (.iload_n 2, 1) := by decide +kernel
theorem dX12_laysFollows_88 : decode cX12_laysFollows 88 = .ok (.invokevirtual 326, 3) := by decide +kernel
theorem dX12_laysFollows_91 : decode cX12_laysFollows 91 = .ok (.ifCond .eq 15, 3) := by decide +kernel
theorem dX12_laysFollows_94 : decode cX12_laysFollows 94 = .ok (.aload_n 0, 1) := by decide +kernel
theorem dX12_laysFollows_95 : decode cX12_laysFollows 95 = .ok (.iconst (-1), 1) := by decide +kernel
theorem dX12_laysFollows_96 : decode cX12_laysFollows 96 = .ok (.invokevirtual 417, 3) := by decide +kernel
theorem dX12_laysFollows_99 : decode cX12_laysFollows 99 = .ok (.ifCond .eq 7, 3) := by decide +kernel
theorem dX12_laysFollows_102 : decode cX12_laysFollows 102 = .ok (.iconst 1, 1) := by decide +kernel
theorem dX12_laysFollows_103 : decode cX12_laysFollows 103 = .ok (.goto 4, 3) := by decide +kernel
theorem dX12_laysFollows_106 : decode cX12_laysFollows 106 = .ok (.iconst 0, 1) := by decide +kernel
theorem dX12_laysFollows_107 : decode cX12_laysFollows 107 = .ok (.bastore, 1) := by decide +kernel
theorem dX12_laysFollows_108 : decode cX12_laysFollows 108 = .ok (.iinc 3 1, 3) := by decide +kernel
theorem dX12_laysFollows_111 : decode cX12_laysFollows 111 = .ok (.goto (-73), 3) := by decide +kernel
theorem dX12_laysFollows_114 : decode cX12_laysFollows 114 = .ok (.iinc 2 1, 3) := by decide +kernel
theorem dX12_laysFollows_117 : decode cX12_laysFollows 117 = .ok (.goto (-115), 3) := by decide +kernel
theorem dX12_laysFollows_120 : decode cX12_laysFollows 120 = .ok (.return_, 1) := by decide +kernel
theorem dX12_laysHidden_0 : decode cX12_laysHidden 0 = .ok (.aload_n 0, 1) := by decide +kernel
theorem dX12_laysHidden_1 : decode cX12_laysHidden 1 = .ok (.iconst 0, 1) := by decide +kernel
theorem dX12_laysHidden_2 : decode cX12_laysHidden 2 = .ok (.invokevirtual 372, 3) := by decide +kernel
theorem dX12_laysHidden_5 : decode cX12_laysHidden 5 = .ok (.istore_n 1, 1) := by decide +kernel
theorem dX12_laysHidden_6 : decode cX12_laysHidden 6 = .ok (.iload_n 1, 1) := by decide +kernel
theorem dX12_laysHidden_7 : decode cX12_laysHidden 7 = .ok (.ifCond .lt 101, 3) := by decide +kernel
theorem dX12_laysHidden_10 : decode cX12_laysHidden 10 = .ok (.aload_n 0, 1) := by decide +kernel
theorem dX12_laysHidden_11 : decode cX12_laysHidden 11 = .ok (.iconst 1, 1) := by decide +kernel
theorem dX12_laysHidden_12 : decode cX12_laysHidden 12 = .ok (.invokevirtual 372, 3) := by decide +kernel
theorem dX12_laysHidden_15 : decode cX12_laysHidden 15 = .ok (.istore_n 2, 1) := by decide +kernel
theorem dX12_laysHidden_16 : decode cX12_laysHidden 16 = .ok (.iload_n 2, 1) := by decide +kernel
theorem dX12_laysHidden_17 : decode cX12_laysHidden 17 = .ok (.ifCond .lt 85, 3) := by decide +kernel
theorem dX12_laysHidden_20 : decode cX12_laysHidden 20 = .ok (.aload_n 0, 1) := by decide +kernel
theorem dX12_laysHidden_21 : decode cX12_laysHidden 21 = .ok (.iconst 2, 1) := by decide +kernel
theorem dX12_laysHidden_22 : decode cX12_laysHidden 22 = .ok (.invokevirtual 372, 3) := by decide +kernel
theorem dX12_laysHidden_25 : decode cX12_laysHidden 25 = .ok (.istore_n 3, 1) := by decide +kernel
theorem dX12_laysHidden_26 : decode cX12_laysHidden 26 = .ok (.iload_n 3, 1) := by decide +kernel
theorem dX12_laysHidden_27 : decode cX12_laysHidden 27 = .ok (.ifCond .lt 69, 3) := by decide +kernel
theorem dX12_laysHidden_30 : decode cX12_laysHidden 30 = .ok (.iconst 0, 1) := by decide +kernel
theorem dX12_laysHidden_31 : decode cX12_laysHidden 31 = .ok (.istore 4, 2) := by decide +kernel
theorem dX12_laysHidden_33 : decode cX12_laysHidden 33 = .ok (.iconst 0, 1) := by decide +kernel
theorem dX12_laysHidden_34 : decode cX12_laysHidden 34 = .ok (.istore 5, 2) := by decide +kernel
theorem dX12_laysHidden_36 : decode cX12_laysHidden 36 = .ok (.iload 5, 2) := by decide +kernel
theorem dX12_laysHidden_38 : decode cX12_laysHidden 38 = .ok (.bipush 26, 2) := by decide +kernel
theorem dX12_laysHidden_40 : decode cX12_laysHidden 40 = .ok (.if_icmp .ge 36, 3) := by decide +kernel
theorem dX12_laysHidden_43 : decode cX12_laysHidden 43 = .ok (.aload_n 0, 1) := by decide +kernel
theorem dX12_laysHidden_44 : decode cX12_laysHidden 44 = .ok (.iload_n 1, 1) := by decide +kernel
theorem dX12_laysHidden_45 : decode cX12_laysHidden 45 = .ok (.iload_n 2, 1) := by decide +kernel
theorem dX12_laysHidden_46 : decode cX12_laysHidden 46 = .ok (.iload_n 3, 1) := by decide +kernel
theorem dX12_laysHidden_47 : decode cX12_laysHidden 47 = .ok (.iload 5, 2) := by decide +kernel
theorem dX12_laysHidden_49 : decode cX12_laysHidden 49 = .ok (.invokevirtual 387, 3) := by decide +kernel
theorem dX12_laysHidden_52 : decode cX12_laysHidden 52 = .ok (.istore 6, 2) := by decide +kernel
theorem dX12_laysHidden_54 : decode cX12_laysHidden 54 = .ok (.iload 6, 2) := by decide +kernel
theorem dX12_laysHidden_56 : decode cX12_laysHidden 56 = .ok (.iload 4, 2) := by decide +kernel
theorem dX12_laysHidden_58 : decode cX12_laysHidden 58 = .ok (.if_icmp .le 8, 3) := by decide +kernel
theorem dX12_laysHidden_61 : decode cX12_laysHidden 61 = .ok (.iload 6, 2) := by decide +kernel
theorem dX12_laysHidden_63 : decode cX12_laysHidden 63 = .ok (.goto 5, 3) := by decide +kernel
theorem dX12_laysHidden_66 : decode cX12_laysHidden 66 = .ok (.iload 4, 2) := by decide +kernel
theorem dX12_laysHidden_68 : decode cX12_laysHidden 68 = .ok (.istore 4, 2) := by decide +kernel
theorem dX12_laysHidden_70 : decode cX12_laysHidden 70 = .ok (.iinc 5 1, 3) := by decide +kernel
theorem dX12_laysHidden_73 : decode cX12_laysHidden 73 = .ok (.goto (-37), 3) := by decide +kernel
theorem dX12_laysHidden_76 : decode cX12_laysHidden 76 = .ok (.aload_n 0, 1) := by decide +kernel
theorem dX12_laysHidden_77 : decode cX12_laysHidden 77 = .ok (.getfield 124, 3) := by decide +kernel
theorem dX12_laysHidden_80 : decode cX12_laysHidden 80 = .ok (.aload_n 0, 1) := by decide +kernel
theorem dX12_laysHidden_81 : decode cX12_laysHidden 81 = .ok (.iload_n 1, 1) := by decide +kernel
theorem dX12_laysHidden_82 : decode cX12_laysHidden 82 = .ok (.iload_n 2, 1) := by decide +kernel
theorem dX12_laysHidden_83 : decode cX12_laysHidden 83 = .ok (.iload_n 3, 1) := by decide +kernel
theorem dX12_laysHidden_84 : decode cX12_laysHidden 84 = .ok (.invokevirtual 384, 3) := by decide +kernel
theorem dX12_laysHidden_87 : decode cX12_laysHidden 87 = .ok (.iload 4, 2) := by decide +kernel
theorem dX12_laysHidden_89 : decode cX12_laysHidden 89 = .ok (.iastore, 1) := by decide +kernel
theorem dX12_laysHidden_90 : decode cX12_laysHidden 90 = .ok (.iinc 3 (-1), 3) := by decide +kernel
theorem dX12_laysHidden_93 : decode cX12_laysHidden 93 = .ok (.goto (-67), 3) := by decide +kernel
theorem dX12_laysHidden_96 : decode cX12_laysHidden 96 = .ok (.iinc 2 (-1), 3) := by decide +kernel
theorem dX12_laysHidden_99 : decode cX12_laysHidden 99 = .ok (.goto (-83), 3) := by decide +kernel
theorem dX12_laysHidden_102 : decode cX12_laysHidden 102 = .ok (.iinc 1 (-1), 3) := by decide +kernel
theorem dX12_laysHidden_105 : decode cX12_laysHidden 105 = .ok (.goto (-99), 3) := by decide +kernel
theorem dX12_laysHidden_108 : decode cX12_laysHidden 108 = .ok (.return_, 1) := by decide +kernel
theorem dX12_laysLong_0 : decode cX12_laysLong 0 = .ok (.sipush 255, 3) := by decide +kernel
theorem dX12_laysLong_3 : decode cX12_laysLong 3 = .ok (.istore_n 1, 1) := by decide +kernel
theorem dX12_laysLong_4 : decode cX12_laysLong 4 = .ok (.iload_n 1, 1) := by decide +kernel
theorem dX12_laysLong_5 : decode cX12_laysLong 5 = .ok (.ifCond .lt 79, 3) := by decide +kernel
theorem dX12_laysLong_8 : decode cX12_laysLong 8 = .ok (.iconst 0, 1) := by decide +kernel
theorem dX12_laysLong_9 : decode cX12_laysLong 9 = .ok (.istore_n 2, 1) := by decide +kernel
theorem dX12_laysLong_10 : decode cX12_laysLong 10 = .ok (.iload_n 2, 1) := by decide +kernel
theorem dX12_laysLong_11 : decode cX12_laysLong 11 = .ok (.bipush 9, 2) := by decide +kernel
theorem dX12_laysLong_13 : decode cX12_laysLong 13 = .ok (.if_icmp .ge 65, 3) := by decide +kernel
theorem dX12_laysLong_16 : decode cX12_laysLong 16 = .ok (.iconst 0, 1) := by decide +kernel
theorem dX12_laysLong_17 : decode cX12_laysLong 17 = .ok (.istore_n 3, 1) := by decide +kernel
theorem dX12_laysLong_18 : decode cX12_laysLong 18 = .ok (.iconst 0, 1) := by decide +kernel
theorem dX12_laysLong_19 : decode cX12_laysLong 19 = .ok (.istore 4, 2) := by decide +kernel
theorem dX12_laysLong_21 : decode cX12_laysLong 21 = .ok (.iload 4, 2) := by decide +kernel
theorem dX12_laysLong_23 : decode cX12_laysLong 23 = .ok (.bipush 8, 2) := by decide +kernel
theorem dX12_laysLong_25 : decode cX12_laysLong 25 = .ok (.if_icmp .ge 34, 3) := by decide +kernel
theorem dX12_laysLong_28 : decode cX12_laysLong 28 = .ok (.aload_n 0, 1) := by decide +kernel
theorem dX12_laysLong_29 : decode cX12_laysLong 29 = .ok (.iload_n 2, 1) := by decide +kernel
theorem dX12_laysLong_30 : decode cX12_laysLong 30 = .ok (.iload 4, 2) := by decide +kernel
theorem dX12_laysLong_32 : decode cX12_laysLong 32 = .ok (.iload_n 1, 1) := by decide +kernel
theorem dX12_laysLong_33 : decode cX12_laysLong 33 = .ok (.invokevirtual 454, 3) := by decide +kernel
theorem dX12_laysLong_36 : decode cX12_laysLong 36 = .ok (.iload_n 3, 1) := by decide +kernel
theorem dX12_laysLong_37 : decode cX12_laysLong 37 = .ok (.if_icmp .le 14, 3) := by decide +kernel
theorem dX12_laysLong_40 : decode cX12_laysLong 40 = .ok (.aload_n 0, 1) := by decide +kernel
theorem dX12_laysLong_41 : decode cX12_laysLong 41 = .ok (.iload_n 2, 1) := by decide +kernel
theorem dX12_laysLong_42 : decode cX12_laysLong 42 = .ok (.iload 4, 2) := by decide +kernel
theorem dX12_laysLong_44 : decode cX12_laysLong 44 = .ok (.iload_n 1, 1) := by decide +kernel
theorem dX12_laysLong_45 : decode cX12_laysLong 45 = .ok (.invokevirtual 454, 3) := by decide +kernel
theorem dX12_laysLong_48 : decode cX12_laysLong 48 = .ok (.goto 4, 3) := by decide +kernel
theorem dX12_laysLong_51 : decode cX12_laysLong 51 = .ok (.iload_n 3, 1) := by decide +kernel
theorem dX12_laysLong_52 : decode cX12_laysLong 52 = .ok (.istore_n 3, 1) := by decide +kernel
theorem dX12_laysLong_53 : decode cX12_laysLong 53 = .ok (.iinc 4 1, 3) := by decide +kernel
theorem dX12_laysLong_56 : decode cX12_laysLong 56 = .ok (.goto (-35), 3) := by decide +kernel
theorem dX12_laysLong_59 : decode cX12_laysLong 59 = .ok (.aload_n 0, 1) := by decide +kernel
theorem dX12_laysLong_60 : decode cX12_laysLong 60 = .ok (.getfield 145, 3) := by decide +kernel
theorem dX12_laysLong_63 : decode cX12_laysLong 63 = .ok (.sipush 256, 3) := by decide +kernel
theorem dX12_laysLong_66 : decode cX12_laysLong 66 = .ok (.iload_n 2, 1) := by decide +kernel
theorem dX12_laysLong_67 : decode cX12_laysLong 67 = .ok (.imul, 1) := by decide +kernel
theorem dX12_laysLong_68 : decode cX12_laysLong 68 = .ok (.iload_n 1, 1) := by decide +kernel
theorem dX12_laysLong_69 : decode cX12_laysLong 69 = .ok (.iadd, 1) := by decide +kernel
theorem dX12_laysLong_70 : decode cX12_laysLong 70 = .ok (.iload_n 3, 1) := by decide +kernel
theorem dX12_laysLong_71 : decode cX12_laysLong 71 = .ok (.iastore, 1) := by decide +kernel
theorem dX12_laysLong_72 : decode cX12_laysLong 72 = .ok (.iinc 2 1, 3) := by decide +kernel
theorem dX12_laysLong_75 : decode cX12_laysLong 75 = .ok (.goto (-65), 3) := by decide +kernel
theorem dX12_laysLong_78 : decode cX12_laysLong 78 = .ok (.iinc 1 (-1), 3) := by decide +kernel
theorem dX12_laysLong_81 : decode cX12_laysLong 81 = .ok (.goto (-77), 3) := by decide +kernel
theorem dX12_laysLong_84 : decode cX12_laysLong 84 = .ok (.return_, 1) := by decide +kernel
theorem dX12_laysParent_0 : decode cX12_laysParent 0 = .ok (.aload_n 0, 1) := by decide +kernel
theorem dX12_laysParent_1 : decode cX12_laysParent 1 = .ok (.aload_n 0, 1) := by decide +kernel
theorem dX12_laysParent_2 : decode cX12_laysParent 2 = .ok (.getfield 16, 3) := by decide +kernel
theorem dX12_laysParent_5 : decode cX12_laysParent 5 = .ok (.iload_n 1, 1) := by decide +kernel
theorem dX12_laysParent_6 : decode cX12_laysParent 6 = .ok (.iaload, 1) := by decide +kernel
theorem dX12_laysParent_7 : decode cX12_laysParent 7 = .ok (.putfield 320, 3) := by decide +kernel
theorem dX12_laysParent_10 : decode cX12_laysParent 10 = .ok (.iconst 0, 1) := by decide +kernel
theorem dX12_laysParent_11 : decode cX12_laysParent 11 = .ok (.istore_n 2, 1) := by decide +kernel
theorem dX12_laysParent_12 : decode cX12_laysParent 12 = .ok (.iload_n 2, 1) := by decide +kernel
theorem dX12_laysParent_13 : decode cX12_laysParent 13 = .ok (.aload_n 0, 1) := by decide +kernel
theorem dX12_laysParent_14 : decode cX12_laysParent 14 = .ok (.getfield 320, 3) := by decide +kernel
theorem dX12_laysParent_17 : decode cX12_laysParent 17 = .ok (.if_icmp .ge 26, 3) := by decide +kernel
theorem dX12_laysParent_20 : decode cX12_laysParent 20 = .ok (.aload_n 0, 1) := by decide +kernel
theorem dX12_laysParent_21 : decode cX12_laysParent 21 = .ok (.getfield 87, 3) := by decide +kernel
theorem dX12_laysParent_24 : decode cX12_laysParent 24 = .ok (.iload_n 2, 1) := by decide +kernel
theorem dX12_laysParent_25 : decode cX12_laysParent 25 = .ok (.aload_n 0, 1) := by decide +kernel
theorem dX12_laysParent_26 : decode cX12_laysParent 26 = .ok (.getfield 19, 3) := by decide +kernel
theorem dX12_laysParent_29 : decode cX12_laysParent 29 = .ok (.bipush 16, 2) := by decide +kernel
theorem dX12_laysParent_31 : decode cX12_laysParent 31 = .ok (.iload_n 1, 1) := by decide +kernel
theorem dX12_laysParent_32 : decode cX12_laysParent 32 = .ok (.imul, 1) := by decide +kernel
theorem dX12_laysParent_33 : decode cX12_laysParent 33 = .ok (.iload_n 2, 1) := by decide +kernel
theorem dX12_laysParent_34 : decode cX12_laysParent 34 = .ok (.iadd, 1) := by decide +kernel
theorem dX12_laysParent_35 : decode cX12_laysParent 35 = .ok (.iaload, 1) := by decide +kernel
theorem dX12_laysParent_36 : decode cX12_laysParent 36 = .ok (.iastore, 1) := by decide +kernel
theorem dX12_laysParent_37 : decode cX12_laysParent 37 = .ok (.iinc 2 1, 3) := by decide +kernel
theorem dX12_laysParent_40 : decode cX12_laysParent 40 = .ok (.goto (-28), 3) := by decide +kernel
theorem dX12_laysParent_43 : decode cX12_laysParent 43 = .ok (.return_, 1) := by decide +kernel
theorem dX12_laysPrices_0 : decode cX12_laysPrices 0 = .ok (.iconst 0, 1) := by decide +kernel
theorem dX12_laysPrices_1 : decode cX12_laysPrices 1 = .ok (.istore_n 3, 1) := by decide +kernel
theorem dX12_laysPrices_2 : decode cX12_laysPrices 2 = .ok (.iload_n 3, 1) := by decide +kernel
theorem dX12_laysPrices_3 : decode cX12_laysPrices 3 = .ok (.aload_n 0, 1) := by decide +kernel
theorem dX12_laysPrices_4 : decode cX12_laysPrices 4 = .ok (.getfield 320, 3) := by decide +kernel
theorem dX12_laysPrices_7 : decode cX12_laysPrices 7 = .ok (.if_icmp .ge 38, 3) := by decide +kernel
theorem dX12_laysPrices_10 : decode cX12_laysPrices 10 = .ok (.aload_n 0, 1) := by decide +kernel
theorem dX12_laysPrices_11 : decode cX12_laysPrices 11 = .ok (.getfield 97, 3) := by decide +kernel
theorem dX12_laysPrices_14 : decode cX12_laysPrices 14 = .ok (.iload_n 3, 1) := by decide +kernel
theorem dX12_laysPrices_15 : decode cX12_laysPrices 15 = .ok (.aload_n 0, 1) := by decide +kernel
theorem dX12_laysPrices_16 : decode cX12_laysPrices 16 = .ok (.iload_n 1, 1) := by decide +kernel
theorem dX12_laysPrices_17 : decode cX12_laysPrices 17 = .ok (.iload_n 3, 1) := by decide +kernel
theorem dX12_laysPrices_18 : decode cX12_laysPrices 18 = .ok (.iload_n 2, 1) := by decide +kernel
theorem dX12_laysPrices_19 : decode cX12_laysPrices 19 = .ok (.invokevirtual 303, 3) := by decide +kernel
theorem dX12_laysPrices_22 : decode cX12_laysPrices 22 = .ok (.ifCond .eq 13, 3) := by decide +kernel
theorem dX12_laysPrices_25 : decode cX12_laysPrices 25 = .ok (.aload_n 0, 1) := by decide +kernel
theorem dX12_laysPrices_26 : decode cX12_laysPrices 26 = .ok (.iload_n 1, 1) := by decide +kernel
theorem dX12_laysPrices_27 : decode cX12_laysPrices 27 = .ok (.iload_n 3, 1) := by decide +kernel
theorem dX12_laysPrices_28 : decode cX12_laysPrices 28 = .ok (.iload_n 2, 1) := by decide +kernel
theorem dX12_laysPrices_29 : decode cX12_laysPrices 29 = .ok (.invokevirtual 300, 3) := by decide +kernel
theorem dX12_laysPrices_32 : decode cX12_laysPrices 32 = .ok (.goto 6, 3) := by decide +kernel
theorem dX12_laysPrices_35 : decode cX12_laysPrices 35 = .ok (.ldc_w 341, 3) := by decide +kernel
theorem dX12_laysPrices_38 : decode cX12_laysPrices 38 = .ok (.iastore, 1) := by decide +kernel
theorem dX12_laysPrices_39 : decode cX12_laysPrices 39 = .ok (.iinc 3 1, 3) := by decide +kernel
theorem dX12_laysPrices_42 : decode cX12_laysPrices 42 = .ok (.goto (-40), 3) := by decide +kernel
theorem dX12_laysPrices_45 : decode cX12_laysPrices 45 = .ok (.return_, 1) := by decide +kernel
theorem dX12_laysShort_0 : decode cX12_laysShort 0 = .ok (.aload_n 0, 1) := by decide +kernel
theorem dX12_laysShort_1 : decode cX12_laysShort 1 = .ok (.iconst 0, 1) := by decide +kernel
theorem dX12_laysShort_2 : decode cX12_laysShort 2 = .ok (.invokevirtual 372, 3) := by decide +kernel
theorem dX12_laysShort_5 : decode cX12_laysShort 5 = .ok (.istore_n 1, 1) := by decide +kernel
theorem dX12_laysShort_6 : decode cX12_laysShort 6 = .ok (.iload_n 1, 1) := by decide +kernel
theorem dX12_laysShort_7 : decode cX12_laysShort 7 = .ok (.ifCond .lt 92, 3) := by decide +kernel
theorem dX12_laysShort_10 : decode cX12_laysShort 10 = .ok (.aload_n 0, 1) := by decide +kernel
theorem dX12_laysShort_11 : decode cX12_laysShort 11 = .ok (.iconst 1, 1) := by decide +kernel
theorem dX12_laysShort_12 : decode cX12_laysShort 12 = .ok (.invokevirtual 372, 3) := by decide +kernel
theorem dX12_laysShort_15 : decode cX12_laysShort 15 = .ok (.istore_n 2, 1) := by decide +kernel
theorem dX12_laysShort_16 : decode cX12_laysShort 16 = .ok (.iload_n 2, 1) := by decide +kernel
theorem dX12_laysShort_17 : decode cX12_laysShort 17 = .ok (.ifCond .lt 76, 3) := by decide +kernel
theorem dX12_laysShort_20 : decode cX12_laysShort 20 = .ok (.aload_n 0, 1) := by decide +kernel
theorem dX12_laysShort_21 : decode cX12_laysShort 21 = .ok (.iconst 2, 1) := by decide +kernel
theorem dX12_laysShort_22 : decode cX12_laysShort 22 = .ok (.invokevirtual 372, 3) := by decide +kernel
theorem dX12_laysShort_25 : decode cX12_laysShort 25 = .ok (.istore_n 3, 1) := by decide +kernel
theorem dX12_laysShort_26 : decode cX12_laysShort 26 = .ok (.iload_n 3, 1) := by decide +kernel
theorem dX12_laysShort_27 : decode cX12_laysShort 27 = .ok (.ifCond .lt 60, 3) := by decide +kernel
theorem dX12_laysShort_30 : decode cX12_laysShort 30 = .ok (.aload_n 0, 1) := by decide +kernel
theorem dX12_laysShort_31 : decode cX12_laysShort 31 = .ok (.iconst 3, 1) := by decide +kernel
theorem dX12_laysShort_32 : decode cX12_laysShort 32 = .ok (.invokevirtual 372, 3) := by decide +kernel
theorem dX12_laysShort_35 : decode cX12_laysShort 35 = .ok (.istore 4, 2) := by decide +kernel
theorem dX12_laysShort_37 : decode cX12_laysShort 37 = .ok (.iload 4, 2) := by decide +kernel
theorem dX12_laysShort_39 : decode cX12_laysShort 39 = .ok (.ifCond .lt 42, 3) := by decide +kernel
theorem dX12_laysShort_42 : decode cX12_laysShort 42 = .ok (.aload_n 0, 1) := by decide +kernel
theorem dX12_laysShort_43 : decode cX12_laysShort 43 = .ok (.getfield 115, 3) := by decide +kernel
theorem dX12_laysShort_46 : decode cX12_laysShort 46 = .ok (.iconst 0, 1) := by decide +kernel
theorem dX12_laysShort_47 : decode cX12_laysShort 47 = .ok (.iload_n 1, 1) := by decide +kernel
theorem dX12_laysShort_48 : decode cX12_laysShort 48 = .ok (.iastore, 1) := by decide +kernel
theorem dX12_laysShort_49 : decode cX12_laysShort 49 = .ok (.aload_n 0, 1) := by decide +kernel
theorem dX12_laysShort_50 : decode cX12_laysShort 50 = .ok (.getfield 115, 3) := by decide +kernel
theorem dX12_laysShort_53 : decode cX12_laysShort 53 = .ok (.iconst 1, 1) := by decide +kernel
theorem dX12_laysShort_54 : decode cX12_laysShort 54 = .ok (.iload_n 2, 1) := by decide +kernel
theorem dX12_laysShort_55 : decode cX12_laysShort 55 = .ok (.iastore, 1) := by decide +kernel
theorem dX12_laysShort_56 : decode cX12_laysShort 56 = .ok (.aload_n 0, 1) := by decide +kernel
theorem dX12_laysShort_57 : decode cX12_laysShort 57 = .ok (.getfield 115, 3) := by decide +kernel
theorem dX12_laysShort_60 : decode cX12_laysShort 60 = .ok (.iconst 2, 1) := by decide +kernel
theorem dX12_laysShort_61 : decode cX12_laysShort 61 = .ok (.iload_n 3, 1) := by decide +kernel
theorem dX12_laysShort_62 : decode cX12_laysShort 62 = .ok (.iastore, 1) := by decide +kernel
theorem dX12_laysShort_63 : decode cX12_laysShort 63 = .ok (.aload_n 0, 1) := by decide +kernel
theorem dX12_laysShort_64 : decode cX12_laysShort 64 = .ok (.getfield 115, 3) := by decide +kernel
theorem dX12_laysShort_67 : decode cX12_laysShort 67 = .ok (.iconst 3, 1) := by decide +kernel
theorem dX12_laysShort_68 : decode cX12_laysShort 68 = .ok (.iload 4, 2) := by decide +kernel
theorem dX12_laysShort_70 : decode cX12_laysShort 70 = .ok (.iastore, 1) := by decide +kernel
theorem dX12_laysShort_71 : decode cX12_laysShort 71 = .ok (.aload_n 0, 1) := by decide +kernel
theorem dX12_laysShort_72 : decode cX12_laysShort 72 = .ok (.invokevirtual 406, 3) := by decide +kernel
theorem dX12_laysShort_75 : decode cX12_laysShort 75 = .ok (.iinc 4 (-1), 3) := by decide +kernel
theorem dX12_laysShort_78 : decode cX12_laysShort 78 = .ok (.goto (-41), 3) := by decide +kernel
theorem dX12_laysShort_81 : decode cX12_laysShort 81 = .ok (.iinc 3 (-1), 3) := by decide +kernel
theorem dX12_laysShort_84 : decode cX12_laysShort 84 = .ok (.goto (-58), 3) := by decide +kernel
theorem dX12_laysShort_87 : decode cX12_laysShort 87 = .ok (.iinc 2 (-1), 3) := by decide +kernel
theorem dX12_laysShort_90 : decode cX12_laysShort 90 = .ok (.goto (-74), 3) := by decide +kernel
theorem dX12_laysShort_93 : decode cX12_laysShort 93 = .ok (.iinc 1 (-1), 3) := by decide +kernel
theorem dX12_laysShort_96 : decode cX12_laysShort 96 = .ok (.goto (-90), 3) := by decide +kernel
theorem dX12_laysShort_99 : decode cX12_laysShort 99 = .ok (.return_, 1) := by decide +kernel
theorem dX12_laysShortAt_0 : decode cX12_laysShortAt 0 = .ok (.ldc_w 341, 3) := by decide +kernel
theorem dX12_laysShortAt_3 : decode cX12_laysShortAt 3 = .ok (.istore_n 1, 1) := by decide +kernel
theorem dX12_laysShortAt_4 : decode cX12_laysShortAt 4 = .ok (.lconst 0, 1) := by decide +kernel
theorem dX12_laysShortAt_5 : decode cX12_laysShortAt 5 = .ok (.lstore_n 2, 1) := by decide +kernel
theorem dX12_laysShortAt_6 : decode cX12_laysShortAt 6 = .ok (.iconst 1, 1) := by decide +kernel
theorem dX12_laysShortAt_7 : decode cX12_laysShortAt 7 = .ok (.istore 4, 2) := by decide +kernel
theorem dX12_laysShortAt_9 : decode cX12_laysShortAt 9 = .ok (.iconst 0, 1) := by decide +kernel
theorem dX12_laysShortAt_10 : decode cX12_laysShortAt 10 = .ok (.istore 5, 2) := by decide +kernel
theorem dX12_laysShortAt_12 : decode cX12_laysShortAt 12 = .ok (.iload 5, 2) := by decide +kernel
theorem dX12_laysShortAt_14 : decode cX12_laysShortAt 14 = .ok (.aload_n 0, 1) := by decide +kernel
theorem dX12_laysShortAt_15 : decode cX12_laysShortAt 15 = .ok (.getfield 369, 3) := by decide +kernel
theorem dX12_laysShortAt_18 : decode cX12_laysShortAt 18 = .ok (.if_icmp .ge 37, 3) := by decide +kernel
theorem dX12_laysShortAt_21 : decode cX12_laysShortAt 21 = .ok (.iload 4, 2) := by decide +kernel
theorem dX12_laysShortAt_23 : decode cX12_laysShortAt 23 = .ok (.ifCond .eq 23, 3) := by decide +kernel
theorem dX12_laysShortAt_26 : decode cX12_laysShortAt 26 = .ok (.aload_n 0, 1) := by decide +kernel
theorem dX12_laysShortAt_27 : decode cX12_laysShortAt 27 = .ok (.getfield 115, 3) := by decide +kernel
theorem dX12_laysShortAt_30 : decode cX12_laysShortAt 30 = .ok (.iload 5, 2) := by decide +kernel
theorem dX12_laysShortAt_32 : decode cX12_laysShortAt 32 = .ok (.iaload, 1) := by decide +kernel
theorem dX12_laysShortAt_33 : decode cX12_laysShortAt 33 = .ok (.aload_n 0, 1) := by decide +kernel
theorem dX12_laysShortAt_34 : decode cX12_laysShortAt 34 = .ok (.iload 5, 2) := by decide +kernel
theorem dX12_laysShortAt_36 : decode cX12_laysShortAt 36 = .ok (.invokevirtual 372, 3) := by decide +kernel
theorem dX12_laysShortAt_39 : decode cX12_laysShortAt 39 = .ok (.if_icmp .ne 7, 3) := by decide +kernel
