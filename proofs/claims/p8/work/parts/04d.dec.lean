theorem dX11_toldDeeds_21 : decode cX11_toldDeeds 21 = .ok (.ishl, 1) := by decide +kernel
theorem dX11_toldDeeds_22 : decode cX11_toldDeeds 22 = .ok (.ior, 1) := by decide +kernel
theorem dX11_toldDeeds_23 : decode cX11_toldDeeds 23 = .ok (.istore_n 1, 1) := by decide +kernel
theorem dX11_toldDeeds_24 : decode cX11_toldDeeds 24 = .ok (.iinc 2 1, 3) := by decide +kernel
theorem dX11_toldDeeds_27 : decode cX11_toldDeeds 27 = .ok (.goto (-23), 3) := by decide +kernel
theorem dX11_toldDeeds_30 : decode cX11_toldDeeds 30 = .ok (.iload_n 1, 1) := by decide +kernel
theorem dX11_toldDeeds_31 : decode cX11_toldDeeds 31 = .ok (.ireturn, 1) := by decide +kernel
theorem dX11_ways_0 : decode cX11_ways 0 = .ok (.aload_n 0, 1) := by decide +kernel
theorem dX11_ways_1 : decode cX11_ways 1 = .ok (.iload_n 1, 1) := by decide +kernel
theorem dX11_ways_2 : decode cX11_ways 2 = .ok (.invokevirtual 180, 3) := by decide +kernel
theorem dX11_ways_5 : decode cX11_ways 5 = .ok (.ifCond .eq 11, 3) := by decide +kernel
theorem dX11_ways_8 : decode cX11_ways 8 = .ok (.aload_n 0, 1) := by decide +kernel
theorem dX11_ways_9 : decode cX11_ways 9 = .ok (.iload_n 2, 1) := by decide +kernel
theorem dX11_ways_10 : decode cX11_ways 10 = .ok (.invokevirtual 200, 3) := by decide +kernel
theorem dX11_ways_13 : decode cX11_ways 13 = .ok (.ifCond .ne 7, 3) := by decide +kernel
theorem dX11_ways_16 : decode cX11_ways 16 = .ok (.ldc2_w 203, 3) := by decide +kernel
theorem dX11_ways_19 : decode cX11_ways 19 = .ok (.lreturn, 1) := by decide +kernel
theorem dX11_ways_20 : decode cX11_ways 20 = .ok (.aload_n 0, 1) := by decide +kernel
theorem dX11_ways_21 : decode cX11_ways 21 = .ok (.getfield 66, 3) := by decide +kernel
theorem dX11_ways_24 : decode cX11_ways 24 = .ok (.aload_n 0, 1) := by decide +kernel
theorem dX11_ways_25 : decode cX11_ways 25 = .ok (.getfield 18, 3) := by decide +kernel
theorem dX11_ways_28 : decode cX11_ways 28 = .ok (.iload_n 1, 1) := by decide +kernel
theorem dX11_ways_29 : decode cX11_ways 29 = .ok (.aaload, 1) := by decide +kernel
theorem dX11_ways_30 : decode cX11_ways 30 = .ok (.getfield 147, 3) := by decide +kernel
theorem dX11_ways_33 : decode cX11_ways 33 = .ok (.aload_n 0, 1) := by decide +kernel
theorem dX11_ways_34 : decode cX11_ways 34 = .ok (.getfield 29, 3) := by decide +kernel
theorem dX11_ways_37 : decode cX11_ways 37 = .ok (.iload_n 2, 1) := by decide +kernel
theorem dX11_ways_38 : decode cX11_ways 38 = .ok (.aaload, 1) := by decide +kernel
theorem dX11_ways_39 : decode cX11_ways 39 = .ok (.iconst 1, 1) := by decide +kernel
theorem dX11_ways_40 : decode cX11_ways 40 = .ok (.invokevirtual 205, 3) := by decide +kernel
theorem dX11_ways_43 : decode cX11_ways 43 = .ok (.lreturn, 1) := by decide +kernel
theorem dX11_weighSharing_0 : decode cX11_weighSharing 0 = .ok (.iconst 0, 1) := by decide +kernel
theorem dX11_weighSharing_1 : decode cX11_weighSharing 1 = .ok (.istore_n 2, 1) := by decide +kernel
theorem dX11_weighSharing_2 : decode cX11_weighSharing 2 = .ok (.iload_n 2, 1) := by decide +kernel
theorem dX11_weighSharing_3 : decode cX11_weighSharing 3 = .ok (.bipush 8, 2) := by decide +kernel
theorem dX11_weighSharing_5 : decode cX11_weighSharing 5 = .ok (.if_icmp .ge 107, 3) := by decide +kernel
theorem dX11_weighSharing_8 : decode cX11_weighSharing 8 = .ok (.iconst 0, 1) := by decide +kernel
theorem dX11_weighSharing_9 : decode cX11_weighSharing 9 = .ok (.istore_n 3, 1) := by decide +kernel
theorem dX11_weighSharing_10 : decode cX11_weighSharing 10 = .ok (.iload_n 3, 1) := by decide +kernel
theorem dX11_weighSharing_11 : decode cX11_weighSharing 11 = .ok (.bipush 8, 2) := by decide +kernel
theorem dX11_weighSharing_13 : decode cX11_weighSharing 13 = .ok (.if_icmp .ge 93, 3) := by decide +kernel
theorem dX11_weighSharing_16 : decode cX11_weighSharing 16 = .ok (.iload_n 1, 1) := by decide +kernel
theorem dX11_weighSharing_17 : decode cX11_weighSharing 17 = .ok (.iload_n 2, 1) := by decide +kernel
theorem dX11_weighSharing_18 : decode cX11_weighSharing 18 = .ok (.invokestatic 268, 3) := by decide +kernel
theorem dX11_weighSharing_21 : decode cX11_weighSharing 21 = .ok (.ifCond .eq 36, 3) := by decide +kernel
theorem dX11_weighSharing_24 : decode cX11_weighSharing 24 = .ok (.aload_n 0, 1) := by decide +kernel
theorem dX11_weighSharing_25 : decode cX11_weighSharing 25 = .ok (.iload_n 3, 1) := by decide +kernel
theorem dX11_weighSharing_26 : decode cX11_weighSharing 26 = .ok (.invokevirtual 180, 3) := by decide +kernel
theorem dX11_weighSharing_29 : decode cX11_weighSharing 29 = .ok (.ifCond .eq 28, 3) := by decide +kernel
theorem dX11_weighSharing_32 : decode cX11_weighSharing 32 = .ok (.aload_n 0, 1) := by decide +kernel
theorem dX11_weighSharing_33 : decode cX11_weighSharing 33 = .ok (.getfield 29, 3) := by decide +kernel
theorem dX11_weighSharing_36 : decode cX11_weighSharing 36 = .ok (.iload_n 2, 1) := by decide +kernel
theorem dX11_weighSharing_37 : decode cX11_weighSharing 37 = .ok (.aaload, 1) := by decide +kernel
theorem dX11_weighSharing_38 : decode cX11_weighSharing 38 = .ok (.aload_n 0, 1) := by decide +kernel
theorem dX11_weighSharing_39 : decode cX11_weighSharing 39 = .ok (.getfield 18, 3) := by decide +kernel
theorem dX11_weighSharing_42 : decode cX11_weighSharing 42 = .ok (.iload_n 3, 1) := by decide +kernel
theorem dX11_weighSharing_43 : decode cX11_weighSharing 43 = .ok (.aaload, 1) := by decide +kernel
theorem dX11_weighSharing_44 : decode cX11_weighSharing 44 = .ok (.getfield 147, 3) := by decide +kernel
theorem dX11_weighSharing_47 : decode cX11_weighSharing 47 = .ok (.invokevirtual 276, 3) := by decide +kernel
theorem dX11_weighSharing_50 : decode cX11_weighSharing 50 = .ok (.ifCond .eq 7, 3) := by decide +kernel
theorem dX11_weighSharing_53 : decode cX11_weighSharing 53 = .ok (.iconst 1, 1) := by decide +kernel
theorem dX11_weighSharing_54 : decode cX11_weighSharing 54 = .ok (.goto 4, 3) := by decide +kernel
theorem dX11_weighSharing_57 : decode cX11_weighSharing 57 = .ok (.iconst 0, 1) := by decide +kernel
theorem dX11_weighSharing_58 : decode cX11_weighSharing 58 = .ok (.istore 4, 2) := by decide +kernel
theorem dX11_weighSharing_60 : decode cX11_weighSharing 60 = .ok (.aload_n 0, 1) := by decide +kernel
theorem dX11_weighSharing_61 : decode cX11_weighSharing 61 = .ok (.getfield 91, 3) := by decide +kernel
theorem dX11_weighSharing_64 : decode cX11_weighSharing 64 = .ok (.iload_n 2, 1) := by decide +kernel
theorem dX11_weighSharing_65 : decode cX11_weighSharing 65 = .ok (.iload_n 3, 1) := by decide +kernel
theorem dX11_weighSharing_66 : decode cX11_weighSharing 66 = .ok (.iload 4, 2) := by decide +kernel
theorem dX11_weighSharing_68 : decode cX11_weighSharing 68 = .ok (.ifCond .eq 28, 3) := by decide +kernel
theorem dX11_weighSharing_71 : decode cX11_weighSharing 71 = .ok (.aload_n 0, 1) := by decide +kernel
theorem dX11_weighSharing_72 : decode cX11_weighSharing 72 = .ok (.getfield 18, 3) := by decide +kernel
theorem dX11_weighSharing_75 : decode cX11_weighSharing 75 = .ok (.iload_n 3, 1) := by decide +kernel
theorem dX11_weighSharing_76 : decode cX11_weighSharing 76 = .ok (.aaload, 1) := by decide +kernel
theorem dX11_weighSharing_77 : decode cX11_weighSharing 77 = .ok (.getfield 147, 3) := by decide +kernel
theorem dX11_weighSharing_80 : decode cX11_weighSharing 80 = .ok (.getfield 171, 3) := by decide +kernel
theorem dX11_weighSharing_83 : decode cX11_weighSharing 83 = .ok (.aload_n 0, 1) := by decide +kernel
theorem dX11_weighSharing_84 : decode cX11_weighSharing 84 = .ok (.getfield 29, 3) := by decide +kernel
theorem dX11_weighSharing_87 : decode cX11_weighSharing 87 = .ok (.iload_n 2, 1) := by decide +kernel
theorem dX11_weighSharing_88 : decode cX11_weighSharing 88 = .ok (.aaload, 1) := by decide +kernel
theorem dX11_weighSharing_89 : decode cX11_weighSharing 89 = .ok (.getfield 171, 3) := by decide +kernel
theorem dX11_weighSharing_92 : decode cX11_weighSharing 92 = .ok (.isub, 1) := by decide +kernel
theorem dX11_weighSharing_93 : decode cX11_weighSharing 93 = .ok (.goto 4, 3) := by decide +kernel
theorem dX11_weighSharing_96 : decode cX11_weighSharing 96 = .ok (.iconst (-1), 1) := by decide +kernel
theorem dX11_weighSharing_97 : decode cX11_weighSharing 97 = .ok (.invokevirtual 364, 3) := by decide +kernel
theorem dX11_weighSharing_100 : decode cX11_weighSharing 100 = .ok (.iinc 3 1, 3) := by decide +kernel
theorem dX11_weighSharing_103 : decode cX11_weighSharing 103 = .ok (.goto (-93), 3) := by decide +kernel
theorem dX11_weighSharing_106 : decode cX11_weighSharing 106 = .ok (.iinc 2 1, 3) := by decide +kernel
theorem dX11_weighSharing_109 : decode cX11_weighSharing 109 = .ok (.goto (-107), 3) := by decide +kernel
theorem dX11_weighSharing_112 : decode cX11_weighSharing 112 = .ok (.aload_n 0, 1) := by decide +kernel
theorem dX11_weighSharing_113 : decode cX11_weighSharing 113 = .ok (.getfield 91, 3) := by decide +kernel
theorem dX11_weighSharing_116 : decode cX11_weighSharing 116 = .ok (.aload_n 0, 1) := by decide +kernel
theorem dX11_weighSharing_117 : decode cX11_weighSharing 117 = .ok (.getfield 23, 3) := by decide +kernel
theorem dX11_weighSharing_120 : decode cX11_weighSharing 120 = .ok (.invokevirtual 367, 3) := by decide +kernel
theorem dX11_weighSharing_123 : decode cX11_weighSharing 123 = .ok (.return_, 1) := by decide +kernel
theorem dX11_worth_0 : decode cX11_worth 0 = .ok (.aload_n 0, 1) := by decide +kernel
theorem dX11_worth_1 : decode cX11_worth 1 = .ok (.iload_n 1, 1) := by decide +kernel
theorem dX11_worth_2 : decode cX11_worth 2 = .ok (.invokevirtual 180, 3) := by decide +kernel
theorem dX11_worth_5 : decode cX11_worth 5 = .ok (.ifCond .eq 20, 3) := by decide +kernel
theorem dX11_worth_8 : decode cX11_worth 8 = .ok (.aload_n 0, 1) := by decide +kernel
theorem dX11_worth_9 : decode cX11_worth 9 = .ok (.iload_n 2, 1) := by decide +kernel
theorem dX11_worth_10 : decode cX11_worth 10 = .ok (.invokevirtual 235, 3) := by decide +kernel
theorem dX11_worth_13 : decode cX11_worth 13 = .ok (.ifCond .eq 12, 3) := by decide +kernel
theorem dX11_worth_16 : decode cX11_worth 16 = .ok (.iload_n 3, 1) := by decide +kernel
theorem dX11_worth_17 : decode cX11_worth 17 = .ok (.ifCond .lt 8, 3) := by decide +kernel
theorem dX11_worth_20 : decode cX11_worth 20 = .ok (.iload_n 3, 1) := by decide +kernel
theorem dX11_worth_21 : decode cX11_worth 21 = .ok (.iconst 1, 1) := by decide +kernel
theorem dX11_worth_22 : decode cX11_worth 22 = .ok (.if_icmp .le 7, 3) := by decide +kernel
theorem dX11_worth_25 : decode cX11_worth 25 = .ok (.sipush (-1000), 3) := by decide +kernel
theorem dX11_worth_28 : decode cX11_worth 28 = .ok (.ireturn, 1) := by decide +kernel
theorem dX11_worth_29 : decode cX11_worth 29 = .ok (.aload_n 0, 1) := by decide +kernel
theorem dX11_worth_30 : decode cX11_worth 30 = .ok (.iload_n 2, 1) := by decide +kernel
theorem dX11_worth_31 : decode cX11_worth 31 = .ok (.invokevirtual 286, 3) := by decide +kernel
theorem dX11_worth_34 : decode cX11_worth 34 = .ok (.aload_n 0, 1) := by decide +kernel
theorem dX11_worth_35 : decode cX11_worth 35 = .ok (.getfield 91, 3) := by decide +kernel
theorem dX11_worth_38 : decode cX11_worth 38 = .ok (.iconst 0, 1) := by decide +kernel
theorem dX11_worth_39 : decode cX11_worth 39 = .ok (.invokevirtual 289, 3) := by decide +kernel
theorem dX11_worth_42 : decode cX11_worth 42 = .ok (.aload_n 0, 1) := by decide +kernel
theorem dX11_worth_43 : decode cX11_worth 43 = .ok (.getfield 91, 3) := by decide +kernel
theorem dX11_worth_46 : decode cX11_worth 46 = .ok (.getfield 292, 3) := by decide +kernel
theorem dX11_worth_49 : decode cX11_worth 49 = .ok (.istore 4, 2) := by decide +kernel
theorem dX11_worth_51 : decode cX11_worth 51 = .ok (.aload_n 0, 1) := by decide +kernel
theorem dX11_worth_52 : decode cX11_worth 52 = .ok (.getfield 91, 3) := by decide +kernel
theorem dX11_worth_55 : decode cX11_worth 55 = .ok (.getfield 295, 3) := by decide +kernel
theorem dX11_worth_58 : decode cX11_worth 58 = .ok (.istore 5, 2) := by decide +kernel
theorem dX11_worth_60 : decode cX11_worth 60 = .ok (.aload_n 0, 1) := by decide +kernel
theorem dX11_worth_61 : decode cX11_worth 61 = .ok (.getfield 91, 3) := by decide +kernel
theorem dX11_worth_64 : decode cX11_worth 64 = .ok (.iconst 1, 1) := by decide +kernel
theorem dX11_worth_65 : decode cX11_worth 65 = .ok (.iload_n 1, 1) := by decide +kernel
theorem dX11_worth_66 : decode cX11_worth 66 = .ok (.ishl, 1) := by decide +kernel
theorem dX11_worth_67 : decode cX11_worth 67 = .ok (.invokevirtual 289, 3) := by decide +kernel
theorem dX11_worth_70 : decode cX11_worth 70 = .ok (.iload_n 3, 1) := by decide +kernel
theorem dX11_worth_71 : decode cX11_worth 71 = .ok (.ifCond .ne 16, 3) := by decide +kernel
theorem dX11_worth_74 : decode cX11_worth 74 = .ok (.iload 4, 2) := by decide +kernel
theorem dX11_worth_76 : decode cX11_worth 76 = .ok (.aload_n 0, 1) := by decide +kernel
theorem dX11_worth_77 : decode cX11_worth 77 = .ok (.getfield 91, 3) := by decide +kernel
theorem dX11_worth_80 : decode cX11_worth 80 = .ok (.getfield 292, 3) := by decide +kernel
theorem dX11_worth_83 : decode cX11_worth 83 = .ok (.isub, 1) := by decide +kernel
theorem dX11_worth_84 : decode cX11_worth 84 = .ok (.goto 13, 3) := by decide +kernel
theorem dX11_worth_87 : decode cX11_worth 87 = .ok (.aload_n 0, 1) := by decide +kernel
theorem dX11_worth_88 : decode cX11_worth 88 = .ok (.getfield 91, 3) := by decide +kernel
theorem dX11_worth_91 : decode cX11_worth 91 = .ok (.getfield 295, 3) := by decide +kernel
theorem dX11_worth_94 : decode cX11_worth 94 = .ok (.iload 5, 2) := by decide +kernel
theorem dX11_worth_96 : decode cX11_worth 96 = .ok (.isub, 1) := by decide +kernel
theorem dX11_worth_97 : decode cX11_worth 97 = .ok (.ireturn, 1) := by decide +kernel
theorem dX11_writeStroke_0 : decode cX11_writeStroke 0 = .ok (.aload_n 0, 1) := by decide +kernel
theorem dX11_writeStroke_1 : decode cX11_writeStroke 1 = .ok (.getfield 53, 3) := by decide +kernel
theorem dX11_writeStroke_4 : decode cX11_writeStroke 4 = .ok (.iload_n 1, 1) := by decide +kernel
theorem dX11_writeStroke_5 : decode cX11_writeStroke 5 = .ok (.iload 4, 2) := by decide +kernel
theorem dX11_writeStroke_7 : decode cX11_writeStroke 7 = .ok (.aload_n 0, 1) := by decide +kernel
theorem dX11_writeStroke_8 : decode cX11_writeStroke 8 = .ok (.getfield 57, 3) := by decide +kernel
theorem dX11_writeStroke_11 : decode cX11_writeStroke 11 = .ok (.invokevirtual 342, 3) := by decide +kernel
theorem dX11_writeStroke_14 : decode cX11_writeStroke 14 = .ok (.iconst 0, 1) := by decide +kernel
theorem dX11_writeStroke_15 : decode cX11_writeStroke 15 = .ok (.istore 5, 2) := by decide +kernel
theorem dX11_writeStroke_17 : decode cX11_writeStroke 17 = .ok (.iload_n 2, 1) := by decide +kernel
theorem dX11_writeStroke_18 : decode cX11_writeStroke 18 = .ok (.istore 6, 2) := by decide +kernel
theorem dX11_writeStroke_20 : decode cX11_writeStroke 20 = .ok (.iload 6, 2) := by decide +kernel
theorem dX11_writeStroke_22 : decode cX11_writeStroke 22 = .ok (.iload_n 2, 1) := by decide +kernel
theorem dX11_writeStroke_23 : decode cX11_writeStroke 23 = .ok (.iload_n 3, 1) := by decide +kernel
theorem dX11_writeStroke_24 : decode cX11_writeStroke 24 = .ok (.iadd, 1) := by decide +kernel
theorem dX11_writeStroke_25 : decode cX11_writeStroke 25 = .ok (.if_icmp .ge 68, 3) := by decide +kernel
theorem dX11_writeStroke_28 : decode cX11_writeStroke 28 = .ok (.aload_n 0, 1) := by decide +kernel
theorem dX11_writeStroke_29 : decode cX11_writeStroke 29 = .ok (.getfield 18, 3) := by decide +kernel
theorem dX11_writeStroke_32 : decode cX11_writeStroke 32 = .ok (.iload_n 1, 1) := by decide +kernel
theorem dX11_writeStroke_33 : decode cX11_writeStroke 33 = .ok (.aaload, 1) := by decide +kernel
theorem dX11_writeStroke_34 : decode cX11_writeStroke 34 = .ok (.iload 6, 2) := by decide +kernel
theorem dX11_writeStroke_36 : decode cX11_writeStroke 36 = .ok (.invokevirtual 154, 3) := by decide +kernel
theorem dX11_writeStroke_39 : decode cX11_writeStroke 39 = .ok (.istore 7, 2) := by decide +kernel
theorem dX11_writeStroke_41 : decode cX11_writeStroke 41 = .ok (.aload_n 0, 1) := by decide +kernel
theorem dX11_writeStroke_42 : decode cX11_writeStroke 42 = .ok (.getfield 53, 3) := by decide +kernel
theorem dX11_writeStroke_45 : decode cX11_writeStroke 45 = .ok (.iload 7, 2) := by decide +kernel
theorem dX11_writeStroke_47 : decode cX11_writeStroke 47 = .ok (.aload_n 0, 1) := by decide +kernel
theorem dX11_writeStroke_48 : decode cX11_writeStroke 48 = .ok (.getfield 73, 3) := by decide +kernel
theorem dX11_writeStroke_51 : decode cX11_writeStroke 51 = .ok (.getfield 168, 3) := by decide +kernel
theorem dX11_writeStroke_54 : decode cX11_writeStroke 54 = .ok (.iload 6, 2) := by decide +kernel
theorem dX11_writeStroke_56 : decode cX11_writeStroke 56 = .ok (.iaload, 1) := by decide +kernel
theorem dX11_writeStroke_57 : decode cX11_writeStroke 57 = .ok (.invokevirtual 346, 3) := by decide +kernel
theorem dX11_writeStroke_60 : decode cX11_writeStroke 60 = .ok (.aload_n 0, 1) := by decide +kernel
theorem dX11_writeStroke_61 : decode cX11_writeStroke 61 = .ok (.getfield 18, 3) := by decide +kernel
theorem dX11_writeStroke_64 : decode cX11_writeStroke 64 = .ok (.iload_n 1, 1) := by decide +kernel
theorem dX11_writeStroke_65 : decode cX11_writeStroke 65 = .ok (.aaload, 1) := by decide +kernel
theorem dX11_writeStroke_66 : decode cX11_writeStroke 66 = .ok (.iload 7, 2) := by decide +kernel
theorem dX11_writeStroke_68 : decode cX11_writeStroke 68 = .ok (.iconst 1, 1) := by decide +kernel
theorem dX11_writeStroke_69 : decode cX11_writeStroke 69 = .ok (.invokevirtual 190, 3) := by decide +kernel
theorem dX11_writeStroke_72 : decode cX11_writeStroke 72 = .ok (.iload 5, 2) := by decide +kernel
theorem dX11_writeStroke_74 : decode cX11_writeStroke 74 = .ok (.aload_n 0, 1) := by decide +kernel
theorem dX11_writeStroke_75 : decode cX11_writeStroke 75 = .ok (.getfield 73, 3) := by decide +kernel
theorem dX11_writeStroke_78 : decode cX11_writeStroke 78 = .ok (.getfield 168, 3) := by decide +kernel
theorem dX11_writeStroke_81 : decode cX11_writeStroke 81 = .ok (.iload 6, 2) := by decide +kernel
theorem dX11_writeStroke_83 : decode cX11_writeStroke 83 = .ok (.iaload, 1) := by decide +kernel
theorem dX11_writeStroke_84 : decode cX11_writeStroke 84 = .ok (.iadd, 1) := by decide +kernel
theorem dX11_writeStroke_85 : decode cX11_writeStroke 85 = .ok (.istore 5, 2) := by decide +kernel
theorem dX11_writeStroke_87 : decode cX11_writeStroke 87 = .ok (.iinc 6 1, 3) := by decide +kernel
theorem dX11_writeStroke_90 : decode cX11_writeStroke 90 = .ok (.goto (-70), 3) := by decide +kernel
theorem dX11_writeStroke_93 : decode cX11_writeStroke 93 = .ok (.aload_n 0, 1) := by decide +kernel
theorem dX11_writeStroke_94 : decode cX11_writeStroke 94 = .ok (.getfield 18, 3) := by decide +kernel
theorem dX11_writeStroke_97 : decode cX11_writeStroke 97 = .ok (.iload_n 1, 1) := by decide +kernel
theorem dX11_writeStroke_98 : decode cX11_writeStroke 98 = .ok (.aaload, 1) := by decide +kernel
theorem dX11_writeStroke_99 : decode cX11_writeStroke 99 = .ok (.invokevirtual 126, 3) := by decide +kernel
theorem dX11_writeStroke_102 : decode cX11_writeStroke 102 = .ok (.iload 5, 2) := by decide +kernel
theorem dX11_writeStroke_104 : decode cX11_writeStroke 104 = .ok (.ireturn, 1) := by decide +kernel
theorem dX12_areLetters_0 : decode cX12_areLetters 0 = .ok (.iconst 0, 1) := by decide +kernel
theorem dX12_areLetters_1 : decode cX12_areLetters 1 = .ok (.istore_n 2, 1) := by decide +kernel
theorem dX12_areLetters_2 : decode cX12_areLetters 2 = .ok (.iload_n 2, 1) := by decide +kernel
theorem dX12_areLetters_3 : decode cX12_areLetters 3 = .ok (.iload_n 1, 1) := by decide +kernel
theorem dX12_areLetters_4 : decode cX12_areLetters 4 = .ok (.if_icmp .ge 27, 3) := by decide +kernel
theorem dX12_areLetters_7 : decode cX12_areLetters 7 = .ok (.aload_n 0, 1) := by decide +kernel
theorem dX12_areLetters_8 : decode cX12_areLetters 8 = .ok (.getfield 26, 3) := by decide +kernel
theorem dX12_areLetters_11 : decode cX12_areLetters 11 = .ok (.iload_n 2, 1) := by decide +kernel
theorem dX12_areLetters_12 : decode cX12_areLetters 12 = .ok (.baload, 1) := by decide +kernel
theorem dX12_areLetters_13 : decode cX12_areLetters 13 = .ok (.bipush 97, 2) := by decide +kernel
theorem dX12_areLetters_15 : decode cX12_areLetters 15 = .ok (.bipush 122, 2) := by decide +kernel
theorem dX12_areLetters_17 : decode cX12_areLetters 17 = .ok (.invokestatic 161, 3) := by decide +kernel
theorem dX12_areLetters_20 : decode cX12_areLetters 20 = .ok (.ifCond .ne 5, 3) := by decide +kernel
theorem dX12_areLetters_23 : decode cX12_areLetters 23 = .ok (.iconst 0, 1) := by decide +kernel
theorem dX12_areLetters_24 : decode cX12_areLetters 24 = .ok (.ireturn, 1) := by decide +kernel
theorem dX12_areLetters_25 : decode cX12_areLetters 25 = .ok (.iinc 2 1, 3) := by decide +kernel
theorem dX12_areLetters_28 : decode cX12_areLetters 28 = .ok (.goto (-26), 3) := by decide +kernel
theorem dX12_areLetters_31 : decode cX12_areLetters 31 = .ok (.iconst 1, 1) := by decide +kernel
theorem dX12_areLetters_32 : decode cX12_areLetters 32 = .ok (.ireturn, 1) := by decide +kernel
theorem dX12_areSet_0 : decode cX12_areSet 0 = .ok (.iload_n 1, 1) := by decide +kernel
theorem dX12_areSet_1 : decode cX12_areSet 1 = .ok (.iconst 0, 1) := by decide +kernel
theorem dX12_areSet_2 : decode cX12_areSet 2 = .ok (.sipush 255, 3) := by decide +kernel
theorem dX12_areSet_5 : decode cX12_areSet 5 = .ok (.invokestatic 161, 3) := by decide +kernel
theorem dX12_areSet_8 : decode cX12_areSet 8 = .ok (.ifCond .eq 18, 3) := by decide +kernel
theorem dX12_areSet_11 : decode cX12_areSet 11 = .ok (.iload_n 1, 1) := by decide +kernel
theorem dX12_areSet_12 : decode cX12_areSet 12 = .ok (.aload_n 0, 1) := by decide +kernel
theorem dX12_areSet_13 : decode cX12_areSet 13 = .ok (.getfield 155, 3) := by decide +kernel
theorem dX12_areSet_16 : decode cX12_areSet 16 = .ok (.iconst (-1), 1) := by decide +kernel
theorem dX12_areSet_17 : decode cX12_areSet 17 = .ok (.ixor, 1) := by decide +kernel
theorem dX12_areSet_18 : decode cX12_areSet 18 = .ok (.iand, 1) := by decide +kernel
theorem dX12_areSet_19 : decode cX12_areSet 19 = .ok (.ifCond .ne 7, 3) := by decide +kernel
theorem dX12_areSet_22 : decode cX12_areSet 22 = .ok (.iconst 1, 1) := by decide +kernel
theorem dX12_areSet_23 : decode cX12_areSet 23 = .ok (.goto 4, 3) := by decide +kernel
theorem dX12_areSet_26 : decode cX12_areSet 26 = .ok (.iconst 0, 1) := by decide +kernel
theorem dX12_areSet_27 : decode cX12_areSet 27 = .ok (.ireturn, 1) := by decide +kernel
theorem dX12_back_0 : decode cX12_back 0 = .ok (.aload_n 0, 1) := by decide +kernel
theorem dX12_back_1 : decode cX12_back 1 = .ok (.iload_n 1, 1) := by decide +kernel
theorem dX12_back_2 : decode cX12_back 2 = .ok (.invokevirtual 172, 3) := by decide +kernel
theorem dX12_back_5 : decode cX12_back 5 = .ok (.ifCond .ne 5, 3) := by decide +kernel
theorem dX12_back_8 : decode cX12_back 8 = .ok (.iconst (-1), 1) := by decide +kernel
theorem dX12_back_9 : decode cX12_back 9 = .ok (.ireturn, 1) := by decide +kernel
theorem dX12_back_10 : decode cX12_back 10 = .ok (.aload_n 0, 1) := by decide +kernel
theorem dX12_back_11 : decode cX12_back 11 = .ok (.getfield 306, 3) := by decide +kernel
theorem dX12_back_14 : decode cX12_back 14 = .ok (.iconst 1, 1) := by decide +kernel
theorem dX12_back_15 : decode cX12_back 15 = .ok (.isub, 1) := by decide +kernel
theorem dX12_back_16 : decode cX12_back 16 = .ok (.istore_n 2, 1) := by decide +kernel
theorem dX12_back_17 : decode cX12_back 17 = .ok (.iload_n 2, 1) := by decide +kernel
theorem dX12_back_18 : decode cX12_back 18 = .ok (.ifCond .lt 20, 3) := by decide +kernel
theorem dX12_back_21 : decode cX12_back 21 = .ok (.aload_n 0, 1) := by decide +kernel
theorem dX12_back_22 : decode cX12_back 22 = .ok (.getfield 69, 3) := by decide +kernel
theorem dX12_back_25 : decode cX12_back 25 = .ok (.iload_n 2, 1) := by decide +kernel
theorem dX12_back_26 : decode cX12_back 26 = .ok (.iaload, 1) := by decide +kernel
theorem dX12_back_27 : decode cX12_back 27 = .ok (.iload_n 1, 1) := by decide +kernel
theorem dX12_back_28 : decode cX12_back 28 = .ok (.if_icmp .eq 10, 3) := by decide +kernel
theorem dX12_back_31 : decode cX12_back 31 = .ok (.iload_n 2, 1) := by decide +kernel
theorem dX12_back_32 : decode cX12_back 32 = .ok (.iconst 1, 1) := by decide +kernel
theorem dX12_back_33 : decode cX12_back 33 = .ok (.isub, 1) := by decide +kernel
theorem dX12_back_34 : decode cX12_back 34 = .ok (.istore_n 2, 1) := by decide +kernel
theorem dX12_back_35 : decode cX12_back 35 = .ok (.goto (-18), 3) := by decide +kernel
theorem dX12_back_38 : decode cX12_back 38 = .ok (.iload_n 2, 1) := by decide +kernel
theorem dX12_back_39 : decode cX12_back 39 = .ok (.ifCond .ge 5, 3) := by decide +kernel
theorem dX12_back_42 : decode cX12_back 42 = .ok (.iconst (-1), 1) := by decide +kernel
theorem dX12_back_43 : decode cX12_back 43 = .ok (.ireturn, 1) := by decide +kernel
theorem dX12_back_44 : decode cX12_back 44 = .ok (.aload_n 0, 1) := by decide +kernel
theorem dX12_back_45 : decode cX12_back 45 = .ok (.getfield 81, 3) := by decide +kernel
theorem dX12_back_48 : decode cX12_back 48 = .ok (.iload_n 2, 1) := by decide +kernel
theorem dX12_back_49 : decode cX12_back 49 = .ok (.iaload, 1) := by decide +kernel
theorem dX12_back_50 : decode cX12_back 50 = .ok (.istore_n 3, 1) := by decide +kernel
theorem dX12_back_51 : decode cX12_back 51 = .ok (.iconst 0, 1) := by decide +kernel
theorem dX12_back_52 : decode cX12_back 52 = .ok (.istore 4, 2) := by decide +kernel
theorem dX12_back_54 : decode cX12_back 54 = .ok (.iload 4, 2) := by decide +kernel
theorem dX12_back_56 : decode cX12_back 56 = .ok (.iload_n 3, 1) := by decide +kernel
theorem dX12_back_57 : decode cX12_back 57 = .ok (.if_icmp .ge 32, 3) := by decide +kernel
theorem dX12_back_60 : decode cX12_back 60 = .ok (.aload_n 0, 1) := by decide +kernel
theorem dX12_back_61 : decode cX12_back 61 = .ok (.getfield 22, 3) := by decide +kernel
theorem dX12_back_64 : decode cX12_back 64 = .ok (.bipush 40, 2) := by decide +kernel
theorem dX12_back_66 : decode cX12_back 66 = .ok (.iload_n 1, 1) := by decide +kernel
theorem dX12_back_67 : decode cX12_back 67 = .ok (.imul, 1) := by decide +kernel
theorem dX12_back_68 : decode cX12_back 68 = .ok (.aload_n 0, 1) := by decide +kernel
theorem dX12_back_69 : decode cX12_back 69 = .ok (.getfield 84, 3) := by decide +kernel
theorem dX12_back_72 : decode cX12_back 72 = .ok (.bipush 9, 2) := by decide +kernel
theorem dX12_back_74 : decode cX12_back 74 = .ok (.iload_n 2, 1) := by decide +kernel
theorem dX12_back_75 : decode cX12_back 75 = .ok (.imul, 1) := by decide +kernel
theorem dX12_back_76 : decode cX12_back 76 = .ok (.iload 4, 2) := by decide +kernel
theorem dX12_back_78 : decode cX12_back 78 = .ok (.iadd, 1) := by decide +kernel
theorem dX12_back_79 : decode cX12_back 79 = .ok (.iaload, 1) := by decide +kernel
theorem dX12_back_80 : decode cX12_back 80 = .ok (.iadd, 1) := by decide +kernel
theorem dX12_back_81 : decode cX12_back 81 = .ok (.iconst 0, 1) := by decide +kernel
theorem dX12_back_82 : decode cX12_back 82 = .ok (.bastore, 1) := by decide +kernel
theorem dX12_back_83 : decode cX12_back 83 = .ok (.iinc 4 1, 3) := by decide +kernel
theorem dX12_back_86 : decode cX12_back 86 = .ok (.goto (-32), 3) := by decide +kernel
theorem dX12_back_89 : decode cX12_back 89 = .ok (.aload_n 0, 1) := by decide +kernel
theorem dX12_back_90 : decode cX12_back 90 = .ok (.iload_n 2, 1) := by decide +kernel
theorem dX12_back_91 : decode cX12_back 91 = .ok (.invokevirtual 317, 3) := by decide +kernel
theorem dX12_back_94 : decode cX12_back 94 = .ok (.iload_n 3, 1) := by decide +kernel
theorem dX12_back_95 : decode cX12_back 95 = .ok (.ireturn, 1) := by decide +kernel
theorem dX12_behind_0 : decode cX12_behind 0 = .ok (.iload_n 0, 1) := by decide +kernel
theorem dX12_behind_1 : decode cX12_behind 1 = .ok (.iload_n 1, 1) := by decide +kernel
theorem dX12_behind_2 : decode cX12_behind 2 = .ok (.if_icmp .ge 9, 3) := by decide +kernel
theorem dX12_behind_5 : decode cX12_behind 5 = .ok (.iload_n 2, 1) := by decide +kernel
theorem dX12_behind_6 : decode cX12_behind 6 = .ok (.iconst 1, 1) := by decide +kernel
theorem dX12_behind_7 : decode cX12_behind 7 = .ok (.iadd, 1) := by decide +kernel
theorem dX12_behind_8 : decode cX12_behind 8 = .ok (.goto 4, 3) := by decide +kernel
theorem dX12_behind_11 : decode cX12_behind 11 = .ok (.iconst 0, 1) := by decide +kernel
theorem dX12_behind_12 : decode cX12_behind 12 = .ok (.ireturn, 1) := by decide +kernel
theorem dX12_bits_0 : decode cX12_bits 0 = .ok (.iconst 0, 1) := by decide +kernel
theorem dX12_bits_1 : decode cX12_bits 1 = .ok (.istore_n 1, 1) := by decide +kernel
theorem dX12_bits_2 : decode cX12_bits 2 = .ok (.iconst 0, 1) := by decide +kernel
theorem dX12_bits_3 : decode cX12_bits 3 = .ok (.istore_n 2, 1) := by decide +kernel
theorem dX12_bits_4 : decode cX12_bits 4 = .ok (.iload_n 2, 1) := by decide +kernel
theorem dX12_bits_5 : decode cX12_bits 5 = .ok (.bipush 8, 2) := by decide +kernel
theorem dX12_bits_7 : decode cX12_bits 7 = .ok (.if_icmp .ge 17, 3) := by decide +kernel
theorem dX12_bits_10 : decode cX12_bits 10 = .ok (.iload_n 1, 1) := by decide +kernel
theorem dX12_bits_11 : decode cX12_bits 11 = .ok (.iload_n 0, 1) := by decide +kernel
theorem dX12_bits_12 : decode cX12_bits 12 = .ok (.iload_n 2, 1) := by decide +kernel
theorem dX12_bits_13 : decode cX12_bits 13 = .ok (.ishr, 1) := by decide +kernel
theorem dX12_bits_14 : decode cX12_bits 14 = .ok (.iconst 1, 1) := by decide +kernel
theorem dX12_bits_15 : decode cX12_bits 15 = .ok (.iand, 1) := by decide +kernel
theorem dX12_bits_16 : decode cX12_bits 16 = .ok (.iadd, 1) := by decide +kernel
theorem dX12_bits_17 : decode cX12_bits 17 = .ok (.istore_n 1, 1) := by decide +kernel
theorem dX12_bits_18 : decode cX12_bits 18 = .ok (.iinc 2 1, 3) := by decide +kernel
theorem dX12_bits_21 : decode cX12_bits 21 = .ok (.goto (-17), 3) := by decide +kernel
theorem dX12_bits_24 : decode cX12_bits 24 = .ok (.iload_n 1, 1) := by decide +kernel
theorem dX12_bits_25 : decode cX12_bits 25 = .ok (.ireturn, 1) := by decide +kernel
theorem dX12_blank_0 : decode cX12_blank 0 = .ok (.iload_n 1, 1) := by decide +kernel
theorem dX12_blank_1 : decode cX12_blank 1 = .ok (.iconst 1, 1) := by decide +kernel
theorem dX12_blank_2 : decode cX12_blank 2 = .ok (.bipush 40, 2) := by decide +kernel
theorem dX12_blank_4 : decode cX12_blank 4 = .ok (.invokestatic 161, 3) := by decide +kernel
theorem dX12_blank_7 : decode cX12_blank 7 = .ok (.ifCond .eq 20, 3) := by decide +kernel
theorem dX12_blank_10 : decode cX12_blank 10 = .ok (.aload_n 0, 1) := by decide +kernel
theorem dX12_blank_11 : decode cX12_blank 11 = .ok (.getfield 152, 3) := by decide +kernel
theorem dX12_blank_14 : decode cX12_blank 14 = .ok (.bipush 8, 2) := by decide +kernel
theorem dX12_blank_16 : decode cX12_blank 16 = .ok (.if_icmp .eq 11, 3) := by decide +kernel
theorem dX12_blank_19 : decode cX12_blank 19 = .ok (.iload_n 1, 1) := by decide +kernel
theorem dX12_blank_20 : decode cX12_blank 20 = .ok (.aload_n 0, 1) := by decide +kernel
theorem dX12_blank_21 : decode cX12_blank 21 = .ok (.getfield 165, 3) := by decide +kernel
theorem dX12_blank_24 : decode cX12_blank 24 = .ok (.if_icmp .le 5, 3) := by decide +kernel
theorem dX12_blank_27 : decode cX12_blank 27 = .ok (.iconst (-1), 1) := by decide +kernel
theorem dX12_blank_28 : decode cX12_blank 28 = .ok (.ireturn, 1) := by decide +kernel
theorem dX12_blank_29 : decode cX12_blank 29 = .ok (.aload_n 0, 1) := by decide +kernel
theorem dX12_blank_30 : decode cX12_blank 30 = .ok (.iconst 0, 1) := by decide +kernel
theorem dX12_blank_31 : decode cX12_blank 31 = .ok (.putfield 165, 3) := by decide +kernel
theorem dX12_blank_34 : decode cX12_blank 34 = .ok (.aload_n 0, 1) := by decide +kernel
theorem dX12_blank_35 : decode cX12_blank 35 = .ok (.iload_n 1, 1) := by decide +kernel
theorem dX12_blank_36 : decode cX12_blank 36 = .ok (.invokevirtual 168, 3) := by decide +kernel
theorem dX12_blank_39 : decode cX12_blank 39 = .ok (.ifCond .ne 6, 3) := by decide +kernel
theorem dX12_blank_42 : decode cX12_blank 42 = .ok (.bipush (-2), 2) := by decide +kernel
theorem dX12_blank_44 : decode cX12_blank 44 = .ok (.ireturn, 1) := by decide +kernel
theorem dX12_blank_45 : decode cX12_blank 45 = .ok (.iconst 0, 1) := by decide +kernel
theorem dX12_blank_46 : decode cX12_blank 46 = .ok (.istore_n 2, 1) := by decide +kernel
theorem dX12_blank_47 : decode cX12_blank 47 = .ok (.iload_n 2, 1) := by decide +kernel
theorem dX12_blank_48 : decode cX12_blank 48 = .ok (.iload_n 1, 1) := by decide +kernel
theorem dX12_blank_49 : decode cX12_blank 49 = .ok (.if_icmp .ge 32, 3) := by decide +kernel
theorem dX12_blank_52 : decode cX12_blank 52 = .ok (.aload_n 0, 1) := by decide +kernel
theorem dX12_blank_53 : decode cX12_blank 53 = .ok (.getfield 13, 3) := by decide +kernel
theorem dX12_blank_56 : decode cX12_blank 56 = .ok (.bipush 40, 2) := by decide +kernel
theorem dX12_blank_58 : decode cX12_blank 58 = .ok (.aload_n 0, 1) := by decide +kernel
theorem dX12_blank_59 : decode cX12_blank 59 = .ok (.getfield 152, 3) := by decide +kernel
theorem dX12_blank_62 : decode cX12_blank 62 = .ok (.imul, 1) := by decide +kernel
theorem dX12_blank_63 : decode cX12_blank 63 = .ok (.iload_n 2, 1) := by decide +kernel
theorem dX12_blank_64 : decode cX12_blank 64 = .ok (.iadd, 1) := by decide +kernel
theorem dX12_blank_65 : decode cX12_blank 65 = .ok (.aload_n 0, 1) := by decide +kernel
theorem dX12_blank_66 : decode cX12_blank 66 = .ok (.getfield 26, 3) := by decide +kernel
theorem dX12_blank_69 : decode cX12_blank 69 = .ok (.iload_n 2, 1) := by decide +kernel
theorem dX12_blank_70 : decode cX12_blank 70 = .ok (.baload, 1) := by decide +kernel
theorem dX12_blank_71 : decode cX12_blank 71 = .ok (.bipush 97, 2) := by decide +kernel
theorem dX12_blank_73 : decode cX12_blank 73 = .ok (.isub, 1) := by decide +kernel
theorem dX12_blank_74 : decode cX12_blank 74 = .ok (.iastore, 1) := by decide +kernel
theorem dX12_blank_75 : decode cX12_blank 75 = .ok (.iinc 2 1, 3) := by decide +kernel
theorem dX12_blank_78 : decode cX12_blank 78 = .ok (.goto (-31), 3) := by decide +kernel
theorem dX12_blank_81 : decode cX12_blank 81 = .ok (.aload_n 0, 1) := by decide +kernel
theorem dX12_blank_82 : decode cX12_blank 82 = .ok (.getfield 7, 3) := by decide +kernel
theorem dX12_blank_85 : decode cX12_blank 85 = .ok (.aload_n 0, 1) := by decide +kernel
theorem dX12_blank_86 : decode cX12_blank 86 = .ok (.getfield 152, 3) := by decide +kernel
theorem dX12_blank_89 : decode cX12_blank 89 = .ok (.iload_n 1, 1) := by decide +kernel
theorem dX12_blank_90 : decode cX12_blank 90 = .ok (.iastore, 1) := by decide +kernel
theorem dX12_blank_91 : decode cX12_blank 91 = .ok (.aload_n 0, 1) := by decide +kernel
theorem dX12_blank_92 : decode cX12_blank 92 = .ok (.aload_n 0, 1) := by decide +kernel
theorem dX12_blank_93 : decode cX12_blank 93 = .ok (.getfield 152, 3) := by decide +kernel
theorem dX12_blank_96 : decode cX12_blank 96 = .ok (.iconst 1, 1) := by decide +kernel
theorem dX12_blank_97 : decode cX12_blank 97 = .ok (.iadd, 1) := by decide +kernel
theorem dX12_blank_98 : decode cX12_blank 98 = .ok (.putfield 152, 3) := by decide +kernel
theorem dX12_blank_101 : decode cX12_blank 101 = .ok (.aload_n 0, 1) := by decide +kernel
theorem dX12_blank_102 : decode cX12_blank 102 = .ok (.getfield 152, 3) := by decide +kernel
theorem dX12_blank_105 : decode cX12_blank 105 = .ok (.iconst 1, 1) := by decide +kernel
theorem dX12_blank_106 : decode cX12_blank 106 = .ok (.isub, 1) := by decide +kernel
theorem dX12_blank_107 : decode cX12_blank 107 = .ok (.ireturn, 1) := by decide +kernel
theorem dX12_blankFor_0 : decode cX12_blankFor 0 = .ok (.iconst 0, 1) := by decide +kernel
theorem dX12_blankFor_1 : decode cX12_blankFor 1 = .ok (.istore_n 3, 1) := by decide +kernel
theorem dX12_blankFor_2 : decode cX12_blankFor 2 = .ok (.iconst 0, 1) := by decide +kernel
theorem dX12_blankFor_3 : decode cX12_blankFor 3 = .ok (.istore 4, 2) := by decide +kernel
theorem dX12_blankFor_5 : decode cX12_blankFor 5 = .ok (.iconst 0, 1) := by decide +kernel
theorem dX12_blankFor_6 : decode cX12_blankFor 6 = .ok (.istore 5, 2) := by decide +kernel
theorem dX12_blankFor_8 : decode cX12_blankFor 8 = .ok (.iload 5, 2) := by decide +kernel
theorem dX12_blankFor_10 : decode cX12_blankFor 10 = .ok (.bipush 8, 2) := by decide +kernel
theorem dX12_blankFor_12 : decode cX12_blankFor 12 = .ok (.if_icmp .ge 46, 3) := by decide +kernel
theorem dX12_blankFor_15 : decode cX12_blankFor 15 = .ok (.iload_n 1, 1) := by decide +kernel
theorem dX12_blankFor_16 : decode cX12_blankFor 16 = .ok (.iload 4, 2) := by decide +kernel
theorem dX12_blankFor_18 : decode cX12_blankFor 18 = .ok (.ishr, 1) := by decide +kernel
theorem dX12_blankFor_19 : decode cX12_blankFor 19 = .ok (.iconst 1, 1) := by decide +kernel
theorem dX12_blankFor_20 : decode cX12_blankFor 20 = .ok (.iand, 1) := by decide +kernel
theorem dX12_blankFor_21 : decode cX12_blankFor 21 = .ok (.ifCond .eq 28, 3) := by decide +kernel
theorem dX12_blankFor_24 : decode cX12_blankFor 24 = .ok (.aload_n 0, 1) := by decide +kernel
theorem dX12_blankFor_25 : decode cX12_blankFor 25 = .ok (.iload 4, 2) := by decide +kernel
theorem dX12_blankFor_27 : decode cX12_blankFor 27 = .ok (.iload 5, 2) := by decide +kernel
theorem dX12_blankFor_29 : decode cX12_blankFor 29 = .ok (.iload_n 3, 1) := by decide +kernel
theorem dX12_blankFor_30 : decode cX12_blankFor 30 = .ok (.invokevirtual 430, 3) := by decide +kernel
theorem dX12_blankFor_33 : decode cX12_blankFor 33 = .ok (.aload_n 0, 1) := by decide +kernel
theorem dX12_blankFor_34 : decode cX12_blankFor 34 = .ok (.getfield 139, 3) := by decide +kernel
theorem dX12_blankFor_37 : decode cX12_blankFor 37 = .ok (.sipush 256, 3) := by decide +kernel
theorem dX12_blankFor_40 : decode cX12_blankFor 40 = .ok (.iload 4, 2) := by decide +kernel
theorem dX12_blankFor_42 : decode cX12_blankFor 42 = .ok (.imul, 1) := by decide +kernel
theorem dX12_blankFor_43 : decode cX12_blankFor 43 = .ok (.iload_n 3, 1) := by decide +kernel
theorem dX12_blankFor_44 : decode cX12_blankFor 44 = .ok (.iadd, 1) := by decide +kernel
theorem dX12_blankFor_45 : decode cX12_blankFor 45 = .ok (.iaload, 1) := by decide +kernel
theorem dX12_blankFor_46 : decode cX12_blankFor 46 = .ok (.if_icmp .eq 12, 3) := by decide +kernel
theorem dX12_blankFor_49 : decode cX12_blankFor 49 = .ok (.iload 5, 2) := by decide +kernel
theorem dX12_blankFor_51 : decode cX12_blankFor 51 = .ok (.iconst 1, 1) := by decide +kernel
theorem dX12_blankFor_52 : decode cX12_blankFor 52 = .ok (.iadd, 1) := by decide +kernel
theorem dX12_blankFor_53 : decode cX12_blankFor 53 = .ok (.istore 5, 2) := by decide +kernel
theorem dX12_blankFor_55 : decode cX12_blankFor 55 = .ok (.goto (-47), 3) := by decide +kernel
theorem dX12_blankFor_58 : decode cX12_blankFor 58 = .ok (.iload 4, 2) := by decide +kernel
theorem dX12_blankFor_60 : decode cX12_blankFor 60 = .ok (.iload_n 2, 1) := by decide +kernel
theorem dX12_blankFor_61 : decode cX12_blankFor 61 = .ok (.if_icmp .ne 6, 3) := by decide +kernel
theorem dX12_blankFor_64 : decode cX12_blankFor 64 = .ok (.iload 5, 2) := by decide +kernel
theorem dX12_blankFor_66 : decode cX12_blankFor 66 = .ok (.ireturn, 1) := by decide +kernel
theorem dX12_blankFor_67 : decode cX12_blankFor 67 = .ok (.iload 5, 2) := by decide +kernel
theorem dX12_blankFor_69 : decode cX12_blankFor 69 = .ok (.bipush 8, 2) := by decide +kernel
theorem dX12_blankFor_71 : decode cX12_blankFor 71 = .ok (.if_icmp .ne 7, 3) := by decide +kernel
theorem dX12_blankFor_74 : decode cX12_blankFor 74 = .ok (.iload_n 3, 1) := by decide +kernel
theorem dX12_blankFor_75 : decode cX12_blankFor 75 = .ok (.goto 9, 3) := by decide +kernel
theorem dX12_blankFor_78 : decode cX12_blankFor 78 = .ok (.iload_n 3, 1) := by decide +kernel
theorem dX12_blankFor_79 : decode cX12_blankFor 79 = .ok (.iconst 1, 1) := by decide +kernel
theorem dX12_blankFor_80 : decode cX12_blankFor 80 = .ok (.iload 5, 2) := by decide +kernel
theorem dX12_blankFor_82 : decode cX12_blankFor 82 = .ok (.ishl, 1) := by decide +kernel
theorem dX12_blankFor_83 : decode cX12_blankFor 83 = .ok (.ior, 1) := by decide +kernel
theorem dX12_blankFor_84 : decode cX12_blankFor 84 = .ok (.istore_n 3, 1) := by decide +kernel
theorem dX12_blankFor_85 : decode cX12_blankFor 85 = .ok (.iinc 4 1, 3) := by decide +kernel
theorem dX12_blankFor_88 : decode cX12_blankFor 88 = .ok (.goto (-83), 3) := by decide +kernel
theorem dX12_book_0 : decode cX12_book 0 = .ok (.iload_n 1, 1) := by decide +kernel
theorem dX12_book_1 : decode cX12_book 1 = .ok (.ifCond .lt 11, 3) := by decide +kernel
theorem dX12_book_4 : decode cX12_book 4 = .ok (.iload_n 1, 1) := by decide +kernel
theorem dX12_book_5 : decode cX12_book 5 = .ok (.aload_n 0, 1) := by decide +kernel
theorem dX12_book_6 : decode cX12_book 6 = .ok (.getfield 306, 3) := by decide +kernel
theorem dX12_book_9 : decode cX12_book 9 = .ok (.if_icmp .lt 7, 3) := by decide +kernel
theorem dX12_book_12 : decode cX12_book 12 = .ok (.sipush (-1000), 3) := by decide +kernel
theorem dX12_book_15 : decode cX12_book 15 = .ok (.ireturn, 1) := by decide +kernel
theorem dX12_book_16 : decode cX12_book 16 = .ok (.iload_n 2, 1) := by decide +kernel
theorem dX12_book_17 : decode cX12_book 17 = .ok (.tableswitch 70 0 4 #[35, 42, 49, 56, 63], 35) := by decide +kernel
theorem dX12_book_52 : decode cX12_book 52 = .ok (.aload_n 0, 1) := by decide +kernel
theorem dX12_book_53 : decode cX12_book 53 = .ok (.getfield 69, 3) := by decide +kernel
theorem dX12_book_56 : decode cX12_book 56 = .ok (.iload_n 1, 1) := by decide +kernel
theorem dX12_book_57 : decode cX12_book 57 = .ok (.iaload, 1) := by decide +kernel
theorem dX12_book_58 : decode cX12_book 58 = .ok (.ireturn, 1) := by decide +kernel
theorem dX12_book_59 : decode cX12_book 59 = .ok (.aload_n 0, 1) := by decide +kernel
theorem dX12_book_60 : decode cX12_book 60 = .ok (.getfield 72, 3) := by decide +kernel
theorem dX12_book_63 : decode cX12_book 63 = .ok (.iload_n 1, 1) := by decide +kernel
theorem dX12_book_64 : decode cX12_book 64 = .ok (.iaload, 1) := by decide +kernel
theorem dX12_book_65 : decode cX12_book 65 = .ok (.ireturn, 1) := by decide +kernel
theorem dX12_book_66 : decode cX12_book 66 = .ok (.aload_n 0, 1) := by decide +kernel
theorem dX12_book_67 : decode cX12_book 67 = .ok (.getfield 75, 3) := by decide +kernel
theorem dX12_book_70 : decode cX12_book 70 = .ok (.iload_n 1, 1) := by decide +kernel
theorem dX12_book_71 : decode cX12_book 71 = .ok (.iaload, 1) := by decide +kernel
theorem dX12_book_72 : decode cX12_book 72 = .ok (.ireturn, 1) := by decide +kernel
theorem dX12_book_73 : decode cX12_book 73 = .ok (.aload_n 0, 1) := by decide +kernel
theorem dX12_book_74 : decode cX12_book 74 = .ok (.getfield 78, 3) := by decide +kernel
theorem dX12_book_77 : decode cX12_book 77 = .ok (.iload_n 1, 1) := by decide +kernel
theorem dX12_book_78 : decode cX12_book 78 = .ok (.iaload, 1) := by decide +kernel
theorem dX12_book_79 : decode cX12_book 79 = .ok (.ireturn, 1) := by decide +kernel
theorem dX12_book_80 : decode cX12_book 80 = .ok (.aload_n 0, 1) := by decide +kernel
theorem dX12_book_81 : decode cX12_book 81 = .ok (.getfield 81, 3) := by decide +kernel
theorem dX12_book_84 : decode cX12_book 84 = .ok (.iload_n 1, 1) := by decide +kernel
theorem dX12_book_85 : decode cX12_book 85 = .ok (.iaload, 1) := by decide +kernel
theorem dX12_book_86 : decode cX12_book 86 = .ok (.ireturn, 1) := by decide +kernel
theorem dX12_book_87 : decode cX12_book 87 = .ok (.iload_n 2, 1) := by decide +kernel
theorem dX12_book_88 : decode cX12_book 88 = .ok (.bipush 10, 2) := by decide +kernel
theorem dX12_book_90 : decode cX12_book 90 = .ok (.bipush 9, 2) := by decide +kernel
theorem dX12_book_92 : decode cX12_book 92 = .ok (.aload_n 0, 1) := by decide +kernel
theorem dX12_book_93 : decode cX12_book 93 = .ok (.getfield 81, 3) := by decide +kernel
theorem dX12_book_96 : decode cX12_book 96 = .ok (.iload_n 1, 1) := by decide +kernel
theorem dX12_book_97 : decode cX12_book 97 = .ok (.iaload, 1) := by decide +kernel
theorem dX12_book_98 : decode cX12_book 98 = .ok (.iadd, 1) := by decide +kernel
theorem dX12_book_99 : decode cX12_book 99 = .ok (.invokestatic 161, 3) := by decide +kernel
theorem dX12_book_102 : decode cX12_book 102 = .ok (.ifCond .eq 20, 3) := by decide +kernel
theorem dX12_book_105 : decode cX12_book 105 = .ok (.aload_n 0, 1) := by decide +kernel
theorem dX12_book_106 : decode cX12_book 106 = .ok (.getfield 84, 3) := by decide +kernel
theorem dX12_book_109 : decode cX12_book 109 = .ok (.bipush 9, 2) := by decide +kernel
theorem dX12_book_111 : decode cX12_book 111 = .ok (.iload_n 1, 1) := by decide +kernel
theorem dX12_book_112 : decode cX12_book 112 = .ok (.imul, 1) := by decide +kernel
theorem dX12_book_113 : decode cX12_book 113 = .ok (.iload_n 2, 1) := by decide +kernel
theorem dX12_book_114 : decode cX12_book 114 = .ok (.iadd, 1) := by decide +kernel
theorem dX12_book_115 : decode cX12_book 115 = .ok (.bipush 10, 2) := by decide +kernel
theorem dX12_book_117 : decode cX12_book 117 = .ok (.isub, 1) := by decide +kernel
theorem dX12_book_118 : decode cX12_book 118 = .ok (.iaload, 1) := by decide +kernel
theorem dX12_book_119 : decode cX12_book 119 = .ok (.goto 6, 3) := by decide +kernel
theorem dX12_book_122 : decode cX12_book 122 = .ok (.sipush (-1000), 3) := by decide +kernel
theorem dX12_book_125 : decode cX12_book 125 = .ok (.ireturn, 1) := by decide +kernel
theorem dX12_bound_0 : decode cX12_bound 0 = .ok (.aload_n 0, 1) := by decide +kernel
theorem dX12_bound_1 : decode cX12_bound 1 = .ok (.iload_n 1, 1) := by decide +kernel
theorem dX12_bound_2 : decode cX12_bound 2 = .ok (.iconst 2, 1) := by decide +kernel
theorem dX12_bound_3 : decode cX12_bound 3 = .ok (.iconst 4, 1) := by decide +kernel
theorem dX12_bound_4 : decode cX12_bound 4 = .ok (.invokevirtual 391, 3) := by decide +kernel
theorem dX12_bound_7 : decode cX12_bound 7 = .ok (.ifCond .ne 5, 3) := by decide +kernel
theorem dX12_bound_10 : decode cX12_bound 10 = .ok (.iconst (-1), 1) := by decide +kernel
theorem dX12_bound_11 : decode cX12_bound 11 = .ok (.ireturn, 1) := by decide +kernel
theorem dX12_bound_12 : decode cX12_bound 12 = .ok (.aload_n 0, 1) := by decide +kernel
theorem dX12_bound_13 : decode cX12_bound 13 = .ok (.invokevirtual 409, 3) := by decide +kernel
theorem dX12_bound_16 : decode cX12_bound 16 = .ok (.ifCond .eq 6, 3) := by decide +kernel
theorem dX12_bound_19 : decode cX12_bound 19 = .ok (.bipush (-2), 2) := by decide +kernel
theorem dX12_bound_21 : decode cX12_bound 21 = .ok (.ireturn, 1) := by decide +kernel
theorem dX12_bound_22 : decode cX12_bound 22 = .ok (.iconst 0, 1) := by decide +kernel
theorem dX12_bound_23 : decode cX12_bound 23 = .ok (.istore_n 2, 1) := by decide +kernel
theorem dX12_bound_24 : decode cX12_bound 24 = .ok (.iconst 0, 1) := by decide +kernel
theorem dX12_bound_25 : decode cX12_bound 25 = .ok (.istore_n 3, 1) := by decide +kernel
theorem dX12_bound_26 : decode cX12_bound 26 = .ok (.iload_n 3, 1) := by decide +kernel
theorem dX12_bound_27 : decode cX12_bound 27 = .ok (.bipush 8, 2) := by decide +kernel
theorem dX12_bound_29 : decode cX12_bound 29 = .ok (.if_icmp .ge 87, 3) := by decide +kernel
theorem dX12_bound_32 : decode cX12_bound 32 = .ok (.iload_n 3, 1) := by decide +kernel
theorem dX12_bound_33 : decode cX12_bound 33 = .ok (.iconst 1, 1) := by decide +kernel
theorem dX12_bound_34 : decode cX12_bound 34 = .ok (.iadd, 1) := by decide +kernel
theorem dX12_bound_35 : decode cX12_bound 35 = .ok (.istore 4, 2) := by decide +kernel
theorem dX12_bound_37 : decode cX12_bound 37 = .ok (.iload 4, 2) := by decide +kernel
theorem dX12_bound_39 : decode cX12_bound 39 = .ok (.bipush 8, 2) := by decide +kernel
theorem dX12_bound_41 : decode cX12_bound 41 = .ok (.if_icmp .ge 69, 3) := by decide +kernel
theorem dX12_bound_44 : decode cX12_bound 44 = .ok (.iload_n 1, 1) := by decide +kernel
theorem dX12_bound_45 : decode cX12_bound 45 = .ok (.iload_n 3, 1) := by decide +kernel
theorem dX12_bound_46 : decode cX12_bound 46 = .ok (.ishr, 1) := by decide +kernel
theorem dX12_bound_47 : decode cX12_bound 47 = .ok (.iconst 1, 1) := by decide +kernel
theorem dX12_bound_48 : decode cX12_bound 48 = .ok (.iand, 1) := by decide +kernel
theorem dX12_bound_49 : decode cX12_bound 49 = .ok (.ifCond .eq 55, 3) := by decide +kernel
theorem dX12_bound_52 : decode cX12_bound 52 = .ok (.iload_n 1, 1) := by decide +kernel
theorem dX12_bound_53 : decode cX12_bound 53 = .ok (.iload 4, 2) := by decide +kernel
theorem dX12_bound_55 : decode cX12_bound 55 = .ok (.ishr, 1) := by decide +kernel
theorem dX12_bound_56 : decode cX12_bound 56 = .ok (.iconst 1, 1) := by decide +kernel
theorem dX12_bound_57 : decode cX12_bound 57 = .ok (.iand, 1) := by decide +kernel
theorem dX12_bound_58 : decode cX12_bound 58 = .ok (.ifCond .ne 6, 3) := by decide +kernel
theorem dX12_bound_61 : decode cX12_bound 61 = .ok (.goto 43, 3) := by decide +kernel
theorem dX12_bound_64 : decode cX12_bound 64 = .ok (.aload_n 0, 1) := by decide +kernel
theorem dX12_bound_65 : decode cX12_bound 65 = .ok (.iconst 1, 1) := by decide +kernel
theorem dX12_bound_66 : decode cX12_bound 66 = .ok (.iload_n 3, 1) := by decide +kernel
theorem dX12_bound_67 : decode cX12_bound 67 = .ok (.ishl, 1) := by decide +kernel
theorem dX12_bound_68 : decode cX12_bound 68 = .ok (.iconst 1, 1) := by decide +kernel
theorem dX12_bound_69 : decode cX12_bound 69 = .ok (.iload 4, 2) := by decide +kernel
theorem dX12_bound_71 : decode cX12_bound 71 = .ok (.ishl, 1) := by decide +kernel
theorem dX12_bound_72 : decode cX12_bound 72 = .ok (.ior, 1) := by decide +kernel
theorem dX12_bound_73 : decode cX12_bound 73 = .ok (.iconst 2, 1) := by decide +kernel
theorem dX12_bound_74 : decode cX12_bound 74 = .ok (.iconst 2, 1) := by decide +kernel
theorem dX12_bound_75 : decode cX12_bound 75 = .ok (.invokevirtual 391, 3) := by decide +kernel
theorem dX12_bound_78 : decode cX12_bound 78 = .ok (.pop, 1) := by decide +kernel
theorem dX12_bound_79 : decode cX12_bound 79 = .ok (.aload_n 0, 1) := by decide +kernel
theorem dX12_bound_80 : decode cX12_bound 80 = .ok (.invokevirtual 412, 3) := by decide +kernel
theorem dX12_bound_83 : decode cX12_bound 83 = .ok (.aload_n 0, 1) := by decide +kernel
theorem dX12_bound_84 : decode cX12_bound 84 = .ok (.getfield 130, 3) := by decide +kernel
theorem dX12_bound_87 : decode cX12_bound 87 = .ok (.iconst 0, 1) := by decide +kernel
theorem dX12_bound_88 : decode cX12_bound 88 = .ok (.iaload, 1) := by decide +kernel
theorem dX12_bound_89 : decode cX12_bound 89 = .ok (.iload_n 2, 1) := by decide +kernel
theorem dX12_bound_90 : decode cX12_bound 90 = .ok (.if_icmp .le 12, 3) := by decide +kernel
theorem dX12_bound_93 : decode cX12_bound 93 = .ok (.aload_n 0, 1) := by decide +kernel
theorem dX12_bound_94 : decode cX12_bound 94 = .ok (.getfield 130, 3) := by decide +kernel
theorem dX12_bound_97 : decode cX12_bound 97 = .ok (.iconst 0, 1) := by decide +kernel
theorem dX12_bound_98 : decode cX12_bound 98 = .ok (.iaload, 1) := by decide +kernel
theorem dX12_bound_99 : decode cX12_bound 99 = .ok (.goto 4, 3) := by decide +kernel
theorem dX12_bound_102 : decode cX12_bound 102 = .ok (.iload_n 2, 1) := by decide +kernel
theorem dX12_bound_103 : decode cX12_bound 103 = .ok (.istore_n 2, 1) := by decide +kernel
theorem dX12_bound_104 : decode cX12_bound 104 = .ok (.iinc 4 1, 3) := by decide +kernel
theorem dX12_bound_107 : decode cX12_bound 107 = .ok (.goto (-70), 3) := by decide +kernel
theorem dX12_bound_110 : decode cX12_bound 110 = .ok (.iinc 3 1, 3) := by decide +kernel
theorem dX12_bound_113 : decode cX12_bound 113 = .ok (.goto (-87), 3) := by decide +kernel
theorem dX12_bound_116 : decode cX12_bound 116 = .ok (.iload_n 2, 1) := by decide +kernel
theorem dX12_bound_117 : decode cX12_bound 117 = .ok (.ireturn, 1) := by decide +kernel
theorem dX12_chain_0 : decode cX12_chain 0 = .ok (.aload_n 0, 1) := by decide +kernel
theorem dX12_chain_1 : decode cX12_chain 1 = .ok (.iload_n 1, 1) := by decide +kernel
theorem dX12_chain_2 : decode cX12_chain 2 = .ok (.invokevirtual 172, 3) := by decide +kernel
theorem dX12_chain_5 : decode cX12_chain 5 = .ok (.ifCond .eq 8, 3) := by decide +kernel
theorem dX12_chain_8 : decode cX12_chain 8 = .ok (.iload_n 2, 1) := by decide +kernel
theorem dX12_chain_9 : decode cX12_chain 9 = .ok (.iconst (-1), 1) := by decide +kernel
theorem dX12_chain_10 : decode cX12_chain 10 = .ok (.if_icmp .ge 5, 3) := by decide +kernel
theorem dX12_chain_13 : decode cX12_chain 13 = .ok (.iconst (-1), 1) := by decide +kernel
theorem dX12_chain_14 : decode cX12_chain 14 = .ok (.ireturn, 1) := by decide +kernel
theorem dX12_chain_15 : decode cX12_chain 15 = .ok (.aload_n 0, 1) := by decide +kernel
theorem dX12_chain_16 : decode cX12_chain 16 = .ok (.iload_n 1, 1) := by decide +kernel
theorem dX12_chain_17 : decode cX12_chain 17 = .ok (.invokevirtual 457, 3) := by decide +kernel
theorem dX12_chain_20 : decode cX12_chain 20 = .ok (.aload_n 0, 1) := by decide +kernel
theorem dX12_chain_21 : decode cX12_chain 21 = .ok (.invokevirtual 460, 3) := by decide +kernel
theorem dX12_chain_24 : decode cX12_chain 24 = .ok (.aload_n 0, 1) := by decide +kernel
theorem dX12_chain_25 : decode cX12_chain 25 = .ok (.getfield 145, 3) := by decide +kernel
theorem dX12_chain_28 : decode cX12_chain 28 = .ok (.sipush 2048, 3) := by decide +kernel
theorem dX12_chain_31 : decode cX12_chain 31 = .ok (.iaload, 1) := by decide +kernel
theorem dX12_chain_32 : decode cX12_chain 32 = .ok (.istore_n 3, 1) := by decide +kernel
theorem dX12_chain_33 : decode cX12_chain 33 = .ok (.iload_n 2, 1) := by decide +kernel
theorem dX12_chain_34 : decode cX12_chain 34 = .ok (.iconst (-1), 1) := by decide +kernel
theorem dX12_chain_35 : decode cX12_chain 35 = .ok (.if_icmp .ne 5, 3) := by decide +kernel
theorem dX12_chain_38 : decode cX12_chain 38 = .ok (.iload_n 3, 1) := by decide +kernel
theorem dX12_chain_39 : decode cX12_chain 39 = .ok (.ireturn, 1) := by decide +kernel
theorem dX12_chain_40 : decode cX12_chain 40 = .ok (.iload_n 2, 1) := by decide +kernel
theorem dX12_chain_41 : decode cX12_chain 41 = .ok (.iload_n 3, 1) := by decide +kernel
theorem dX12_chain_42 : decode cX12_chain 42 = .ok (.if_icmp .lt 6, 3) := by decide +kernel
theorem dX12_chain_45 : decode cX12_chain 45 = .ok (.bipush (-2), 2) := by decide +kernel
theorem dX12_chain_47 : decode cX12_chain 47 = .ok (.ireturn, 1) := by decide +kernel
theorem dX12_chain_48 : decode cX12_chain 48 = .ok (.bipush 8, 2) := by decide +kernel
theorem dX12_chain_50 : decode cX12_chain 50 = .ok (.istore 4, 2) := by decide +kernel
theorem dX12_chain_52 : decode cX12_chain 52 = .ok (.iconst 0, 1) := by decide +kernel
theorem dX12_chain_53 : decode cX12_chain 53 = .ok (.istore 5, 2) := by decide +kernel
theorem dX12_chain_55 : decode cX12_chain 55 = .ok (.iconst 0, 1) := by decide +kernel
theorem dX12_chain_56 : decode cX12_chain 56 = .ok (.istore 6, 2) := by decide +kernel
theorem dX12_chain_58 : decode cX12_chain 58 = .ok (.iconst 0, 1) := by decide +kernel
theorem dX12_chain_59 : decode cX12_chain 59 = .ok (.istore 7, 2) := by decide +kernel
theorem dX12_chain_61 : decode cX12_chain 61 = .ok (.aload_n 0, 1) := by decide +kernel
theorem dX12_chain_62 : decode cX12_chain 62 = .ok (.iload 4, 2) := by decide +kernel
theorem dX12_chain_64 : decode cX12_chain 64 = .ok (.iload 7, 2) := by decide +kernel
theorem dX12_chain_66 : decode cX12_chain 66 = .ok (.iload 5, 2) := by decide +kernel
theorem dX12_chain_68 : decode cX12_chain 68 = .ok (.invokevirtual 454, 3) := by decide +kernel
theorem dX12_chain_71 : decode cX12_chain 71 = .ok (.aload_n 0, 1) := by decide +kernel
theorem dX12_chain_72 : decode cX12_chain 72 = .ok (.getfield 145, 3) := by decide +kernel
theorem dX12_chain_75 : decode cX12_chain 75 = .ok (.sipush 256, 3) := by decide +kernel
theorem dX12_chain_78 : decode cX12_chain 78 = .ok (.iload 4, 2) := by decide +kernel
theorem dX12_chain_80 : decode cX12_chain 80 = .ok (.imul, 1) := by decide +kernel
theorem dX12_chain_81 : decode cX12_chain 81 = .ok (.iload 5, 2) := by decide +kernel
theorem dX12_chain_83 : decode cX12_chain 83 = .ok (.iadd, 1) := by decide +kernel
theorem dX12_chain_84 : decode cX12_chain 84 = .ok (.iaload, 1) := by decide +kernel
theorem dX12_chain_85 : decode cX12_chain 85 = .ok (.if_icmp .eq 12, 3) := by decide +kernel
theorem dX12_chain_88 : decode cX12_chain 88 = .ok (.iload 7, 2) := by decide +kernel
theorem dX12_chain_90 : decode cX12_chain 90 = .ok (.iconst 1, 1) := by decide +kernel
theorem dX12_chain_91 : decode cX12_chain 91 = .ok (.iadd, 1) := by decide +kernel
theorem dX12_chain_92 : decode cX12_chain 92 = .ok (.istore 7, 2) := by decide +kernel
theorem dX12_chain_94 : decode cX12_chain 94 = .ok (.goto (-33), 3) := by decide +kernel
theorem dX12_chain_97 : decode cX12_chain 97 = .ok (.iload 6, 2) := by decide +kernel
theorem dX12_chain_99 : decode cX12_chain 99 = .ok (.iload_n 2, 1) := by decide +kernel
theorem dX12_chain_100 : decode cX12_chain 100 = .ok (.if_icmp .ne 6, 3) := by decide +kernel
theorem dX12_chain_103 : decode cX12_chain 103 = .ok (.iload 7, 2) := by decide +kernel
theorem dX12_chain_105 : decode cX12_chain 105 = .ok (.ireturn, 1) := by decide +kernel
theorem dX12_chain_106 : decode cX12_chain 106 = .ok (.iload 7, 2) := by decide +kernel
theorem dX12_chain_108 : decode cX12_chain 108 = .ok (.istore 4, 2) := by decide +kernel
theorem dX12_chain_110 : decode cX12_chain 110 = .ok (.iload 5, 2) := by decide +kernel
theorem dX12_chain_112 : decode cX12_chain 112 = .ok (.iconst 1, 1) := by decide +kernel
theorem dX12_chain_113 : decode cX12_chain 113 = .ok (.iload 7, 2) := by decide +kernel
theorem dX12_chain_115 : decode cX12_chain 115 = .ok (.ishl, 1) := by decide +kernel
theorem dX12_chain_116 : decode cX12_chain 116 = .ok (.ior, 1) := by decide +kernel
theorem dX12_chain_117 : decode cX12_chain 117 = .ok (.istore 5, 2) := by decide +kernel
theorem dX12_chain_119 : decode cX12_chain 119 = .ok (.iinc 6 1, 3) := by decide +kernel
theorem dX12_chain_122 : decode cX12_chain 122 = .ok (.goto (-64), 3) := by decide +kernel
theorem dX12_cheapest_0 : decode cX12_cheapest 0 = .ok (.aload_n 0, 1) := by decide +kernel
theorem dX12_cheapest_1 : decode cX12_cheapest 1 = .ok (.iload_n 1, 1) := by decide +kernel
theorem dX12_cheapest_2 : decode cX12_cheapest 2 = .ok (.iload_n 2, 1) := by decide +kernel
theorem dX12_cheapest_3 : decode cX12_cheapest 3 = .ok (.invokevirtual 329, 3) := by decide +kernel
theorem dX12_cheapest_6 : decode cX12_cheapest 6 = .ok (.ifCond .eq 27, 3) := by decide +kernel
theorem dX12_cheapest_9 : decode cX12_cheapest 9 = .ok (.iload_n 3, 1) := by decide +kernel
theorem dX12_cheapest_10 : decode cX12_cheapest 10 = .ok (.invokestatic 297, 3) := by decide +kernel
theorem dX12_cheapest_13 : decode cX12_cheapest 13 = .ok (.ifCond .eq 20, 3) := by decide +kernel
theorem dX12_cheapest_16 : decode cX12_cheapest 16 = .ok (.iload 4, 2) := by decide +kernel
theorem dX12_cheapest_18 : decode cX12_cheapest 18 = .ok (.iconst (-1), 1) := by decide +kernel
theorem dX12_cheapest_19 : decode cX12_cheapest 19 = .ok (.aload_n 0, 1) := by decide +kernel
theorem dX12_cheapest_20 : decode cX12_cheapest 20 = .ok (.getfield 16, 3) := by decide +kernel
theorem dX12_cheapest_23 : decode cX12_cheapest 23 = .ok (.iload_n 2, 1) := by decide +kernel
theorem dX12_cheapest_24 : decode cX12_cheapest 24 = .ok (.iaload, 1) := by decide +kernel
theorem dX12_cheapest_25 : decode cX12_cheapest 25 = .ok (.iconst 1, 1) := by decide +kernel
theorem dX12_cheapest_26 : decode cX12_cheapest 26 = .ok (.isub, 1) := by decide +kernel
theorem dX12_cheapest_27 : decode cX12_cheapest 27 = .ok (.invokestatic 161, 3) := by decide +kernel
theorem dX12_cheapest_30 : decode cX12_cheapest 30 = .ok (.ifCond .ne 5, 3) := by decide +kernel
theorem dX12_cheapest_33 : decode cX12_cheapest 33 = .ok (.iconst (-1), 1) := by decide +kernel
theorem dX12_cheapest_34 : decode cX12_cheapest 34 = .ok (.ireturn, 1) := by decide +kernel
theorem dX12_cheapest_35 : decode cX12_cheapest 35 = .ok (.aload_n 0, 1) := by decide +kernel
theorem dX12_cheapest_36 : decode cX12_cheapest 36 = .ok (.iload_n 1, 1) := by decide +kernel
theorem dX12_cheapest_37 : decode cX12_cheapest 37 = .ok (.iload_n 2, 1) := by decide +kernel
theorem dX12_cheapest_38 : decode cX12_cheapest 38 = .ok (.iload_n 3, 1) := by decide +kernel
theorem dX12_cheapest_39 : decode cX12_cheapest 39 = .ok (.invokevirtual 354, 3) := by decide +kernel
theorem dX12_cheapest_42 : decode cX12_cheapest 42 = .ok (.istore 5, 2) := by decide +kernel
theorem dX12_cheapest_44 : decode cX12_cheapest 44 = .ok (.iload 5, 2) := by decide +kernel
theorem dX12_cheapest_46 : decode cX12_cheapest 46 = .ok (.bipush (-2), 2) := by decide +kernel
theorem dX12_cheapest_48 : decode cX12_cheapest 48 = .ok (.if_icmp .eq 9, 3) := by decide +kernel
theorem dX12_cheapest_51 : decode cX12_cheapest 51 = .ok (.iload 4, 2) := by decide +kernel
theorem dX12_cheapest_53 : decode cX12_cheapest 53 = .ok (.iconst (-1), 1) := by decide +kernel
theorem dX12_cheapest_54 : decode cX12_cheapest 54 = .ok (.if_icmp .ne 8, 3) := by decide +kernel
theorem dX12_cheapest_57 : decode cX12_cheapest 57 = .ok (.iload 5, 2) := by decide +kernel
theorem dX12_cheapest_59 : decode cX12_cheapest 59 = .ok (.goto 10, 3) := by decide +kernel
theorem dX12_cheapest_62 : decode cX12_cheapest 62 = .ok (.aload_n 0, 1) := by decide +kernel
theorem dX12_cheapest_63 : decode cX12_cheapest 63 = .ok (.getfield 103, 3) := by decide +kernel
theorem dX12_cheapest_66 : decode cX12_cheapest 66 = .ok (.iload 4, 2) := by decide +kernel
theorem dX12_cheapest_68 : decode cX12_cheapest 68 = .ok (.iaload, 1) := by decide +kernel
theorem dX12_cheapest_69 : decode cX12_cheapest 69 = .ok (.ireturn, 1) := by decide +kernel
theorem dX12_cheapestOf_0 : decode cX12_cheapestOf 0 = .ok (.aload_n 0, 1) := by decide +kernel
theorem dX12_cheapestOf_1 : decode cX12_cheapestOf 1 = .ok (.iload_n 1, 1) := by decide +kernel
theorem dX12_cheapestOf_2 : decode cX12_cheapestOf 2 = .ok (.iconst 0, 1) := by decide +kernel
theorem dX12_cheapestOf_3 : decode cX12_cheapestOf 3 = .ok (.invokevirtual 334, 3) := by decide +kernel
theorem dX12_cheapestOf_6 : decode cX12_cheapestOf 6 = .ok (.aload_n 0, 1) := by decide +kernel
theorem dX12_cheapestOf_7 : decode cX12_cheapestOf 7 = .ok (.iload_n 2, 1) := by decide +kernel
theorem dX12_cheapestOf_8 : decode cX12_cheapestOf 8 = .ok (.invokevirtual 338, 3) := by decide +kernel
theorem dX12_cheapestOf_11 : decode cX12_cheapestOf 11 = .ok (.aload_n 0, 1) := by decide +kernel
theorem dX12_cheapestOf_12 : decode cX12_cheapestOf 12 = .ok (.iload_n 1, 1) := by decide +kernel
theorem dX12_cheapestOf_13 : decode cX12_cheapestOf 13 = .ok (.iload_n 3, 1) := by decide +kernel
theorem dX12_cheapestOf_14 : decode cX12_cheapestOf 14 = .ok (.invokevirtual 345, 3) := by decide +kernel
theorem dX12_cheapestOf_17 : decode cX12_cheapestOf 17 = .ok (.aload_n 0, 1) := by decide +kernel
theorem dX12_cheapestOf_18 : decode cX12_cheapestOf 18 = .ok (.invokevirtual 348, 3) := by decide +kernel
theorem dX12_cheapestOf_21 : decode cX12_cheapestOf 21 = .ok (.aload_n 0, 1) := by decide +kernel
theorem dX12_cheapestOf_22 : decode cX12_cheapestOf 22 = .ok (.getfield 100, 3) := by decide +kernel
theorem dX12_cheapestOf_25 : decode cX12_cheapestOf 25 = .ok (.iconst 0, 1) := by decide +kernel
theorem dX12_cheapestOf_26 : decode cX12_cheapestOf 26 = .ok (.iaload, 1) := by decide +kernel
theorem dX12_cheapestOf_27 : decode cX12_cheapestOf 27 = .ok (.ldc_w 341, 3) := by decide +kernel
theorem dX12_cheapestOf_30 : decode cX12_cheapestOf 30 = .ok (.if_icmp .lt 6, 3) := by decide +kernel
theorem dX12_cheapestOf_33 : decode cX12_cheapestOf 33 = .ok (.bipush (-2), 2) := by decide +kernel
theorem dX12_cheapestOf_35 : decode cX12_cheapestOf 35 = .ok (.ireturn, 1) := by decide +kernel
theorem dX12_cheapestOf_36 : decode cX12_cheapestOf 36 = .ok (.aload_n 0, 1) := by decide +kernel
theorem dX12_cheapestOf_37 : decode cX12_cheapestOf 37 = .ok (.invokevirtual 351, 3) := by decide +kernel
theorem dX12_cheapestOf_40 : decode cX12_cheapestOf 40 = .ok (.aload_n 0, 1) := by decide +kernel
theorem dX12_cheapestOf_41 : decode cX12_cheapestOf 41 = .ok (.getfield 100, 3) := by decide +kernel
theorem dX12_cheapestOf_44 : decode cX12_cheapestOf 44 = .ok (.iconst 0, 1) := by decide +kernel
theorem dX12_cheapestOf_45 : decode cX12_cheapestOf 45 = .ok (.iaload, 1) := by decide +kernel
theorem dX12_cheapestOf_46 : decode cX12_cheapestOf 46 = .ok (.ireturn, 1) := by decide +kernel
theorem dX12_check_0 : decode cX12_check 0 = .ok (.aload_n 0, 1) := by decide +kernel
theorem dX12_check_1 : decode cX12_check 1 = .ok (.iload_n 1, 1) := by decide +kernel
theorem dX12_check_2 : decode cX12_check 2 = .ok (.invokevirtual 172, 3) := by decide +kernel
theorem dX12_check_5 : decode cX12_check 5 = .ok (.ifCond .eq 17, 3) := by decide +kernel
theorem dX12_check_8 : decode cX12_check 8 = .ok (.iload_n 2, 1) := by decide +kernel
theorem dX12_check_9 : decode cX12_check 9 = .ok (.ifCond .lt 13, 3) := by decide +kernel
theorem dX12_check_12 : decode cX12_check 12 = .ok (.iload_n 2, 1) := by decide +kernel
theorem dX12_check_13 : decode cX12_check 13 = .ok (.aload_n 0, 1) := by decide +kernel
theorem dX12_check_14 : decode cX12_check 14 = .ok (.getfield 165, 3) := by decide +kernel
theorem dX12_check_17 : decode cX12_check 17 = .ok (.iconst 4, 1) := by decide +kernel
theorem dX12_check_18 : decode cX12_check 18 = .ok (.idiv, 1) := by decide +kernel
theorem dX12_check_19 : decode cX12_check 19 = .ok (.if_icmp .le 6, 3) := by decide +kernel
theorem dX12_check_22 : decode cX12_check 22 = .ok (.bipush (-2), 2) := by decide +kernel
theorem dX12_check_24 : decode cX12_check 24 = .ok (.ireturn, 1) := by decide +kernel
theorem dX12_check_25 : decode cX12_check 25 = .ok (.aload_n 0, 1) := by decide +kernel
theorem dX12_check_26 : decode cX12_check 26 = .ok (.iconst 0, 1) := by decide +kernel
theorem dX12_check_27 : decode cX12_check 27 = .ok (.putfield 165, 3) := by decide +kernel
theorem dX12_check_30 : decode cX12_check 30 = .ok (.aload_n 0, 1) := by decide +kernel
theorem dX12_check_31 : decode cX12_check 31 = .ok (.iload_n 1, 1) := by decide +kernel
theorem dX12_check_32 : decode cX12_check 32 = .ok (.iconst 0, 1) := by decide +kernel
theorem dX12_check_33 : decode cX12_check 33 = .ok (.invokevirtual 334, 3) := by decide +kernel
theorem dX12_check_36 : decode cX12_check 36 = .ok (.iconst 0, 1) := by decide +kernel
theorem dX12_check_37 : decode cX12_check 37 = .ok (.istore_n 3, 1) := by decide +kernel
theorem dX12_check_38 : decode cX12_check 38 = .ok (.iload_n 3, 1) := by decide +kernel
theorem dX12_check_39 : decode cX12_check 39 = .ok (.aload_n 0, 1) := by decide +kernel
theorem dX12_check_40 : decode cX12_check 40 = .ok (.getfield 320, 3) := by decide +kernel
theorem dX12_check_43 : decode cX12_check 43 = .ok (.if_icmp .ge 30, 3) := by decide +kernel
theorem dX12_check_46 : decode cX12_check 46 = .ok (.iload_n 3, 1) := by decide +kernel
theorem dX12_check_47 : decode cX12_check 47 = .ok (.iload_n 2, 1) := by decide +kernel
theorem dX12_check_48 : decode cX12_check 48 = .ok (.if_icmp .eq 17, 3) := by decide +kernel
theorem dX12_check_51 : decode cX12_check 51 = .ok (.aload_n 0, 1) := by decide +kernel
theorem dX12_check_52 : decode cX12_check 52 = .ok (.iload_n 3, 1) := by decide +kernel
theorem dX12_check_53 : decode cX12_check 53 = .ok (.invokevirtual 465, 3) := by decide +kernel
theorem dX12_check_56 : decode cX12_check 56 = .ok (.aload_n 0, 1) := by decide +kernel
theorem dX12_check_57 : decode cX12_check 57 = .ok (.getfield 87, 3) := by decide +kernel
theorem dX12_check_60 : decode cX12_check 60 = .ok (.iload_n 3, 1) := by decide +kernel
theorem dX12_check_61 : decode cX12_check 61 = .ok (.iaload, 1) := by decide +kernel
theorem dX12_check_62 : decode cX12_check 62 = .ok (.if_icmp .eq 5, 3) := by decide +kernel
theorem dX12_check_65 : decode cX12_check 65 = .ok (.iload_n 3, 1) := by decide +kernel
theorem dX12_check_66 : decode cX12_check 66 = .ok (.ireturn, 1) := by decide +kernel
theorem dX12_check_67 : decode cX12_check 67 = .ok (.iinc 3 1, 3) := by decide +kernel
theorem dX12_check_70 : decode cX12_check 70 = .ok (.goto (-32), 3) := by decide +kernel
theorem dX12_check_73 : decode cX12_check 73 = .ok (.aload_n 0, 1) := by decide +kernel
theorem dX12_check_74 : decode cX12_check 74 = .ok (.getfield 320, 3) := by decide +kernel
theorem dX12_check_77 : decode cX12_check 77 = .ok (.iload_n 2, 1) := by decide +kernel
theorem dX12_check_78 : decode cX12_check 78 = .ok (.if_icmp .ge 10, 3) := by decide +kernel
theorem dX12_check_81 : decode cX12_check 81 = .ok (.aload_n 0, 1) := by decide +kernel
theorem dX12_check_82 : decode cX12_check 82 = .ok (.getfield 320, 3) := by decide +kernel
theorem dX12_check_85 : decode cX12_check 85 = .ok (.goto 4, 3) := by decide +kernel
theorem dX12_check_88 : decode cX12_check 88 = .ok (.iconst (-1), 1) := by decide +kernel
theorem dX12_check_89 : decode cX12_check 89 = .ok (.ireturn, 1) := by decide +kernel
theorem dX12_closesSums_0 : decode cX12_closesSums 0 = .ok (.aload_n 0, 1) := by decide +kernel
theorem dX12_closesSums_1 : decode cX12_closesSums 1 = .ok (.invokevirtual 221, 3) := by decide +kernel
theorem dX12_closesSums_4 : decode cX12_closesSums 4 = .ok (.iconst 4, 1) := by decide +kernel
theorem dX12_closesSums_5 : decode cX12_closesSums 5 = .ok (.if_icmp .lt 12, 3) := by decide +kernel
theorem dX12_closesSums_8 : decode cX12_closesSums 8 = .ok (.aload_n 0, 1) := by decide +kernel
theorem dX12_closesSums_9 : decode cX12_closesSums 9 = .ok (.invokevirtual 221, 3) := by decide +kernel
theorem dX12_closesSums_12 : decode cX12_closesSums 12 = .ok (.bipush 6, 2) := by decide +kernel
theorem dX12_closesSums_14 : decode cX12_closesSums 14 = .ok (.if_icmp .le 23, 3) := by decide +kernel
theorem dX12_closesSums_17 : decode cX12_closesSums 17 = .ok (.iload_n 1, 1) := by decide +kernel
theorem dX12_closesSums_18 : decode cX12_closesSums 18 = .ok (.ifCond .eq 41, 3) := by decide +kernel
theorem dX12_closesSums_21 : decode cX12_closesSums 21 = .ok (.aload_n 0, 1) := by decide +kernel
theorem dX12_closesSums_22 : decode cX12_closesSums 22 = .ok (.invokevirtual 221, 3) := by decide +kernel
theorem dX12_closesSums_25 : decode cX12_closesSums 25 = .ok (.iconst 2, 1) := by decide +kernel
theorem dX12_closesSums_26 : decode cX12_closesSums 26 = .ok (.if_icmp .eq 11, 3) := by decide +kernel
theorem dX12_closesSums_29 : decode cX12_closesSums 29 = .ok (.aload_n 0, 1) := by decide +kernel
theorem dX12_closesSums_30 : decode cX12_closesSums 30 = .ok (.invokevirtual 221, 3) := by decide +kernel
theorem dX12_closesSums_33 : decode cX12_closesSums 33 = .ok (.iconst 3, 1) := by decide +kernel
theorem dX12_closesSums_34 : decode cX12_closesSums 34 = .ok (.if_icmp .ne 25, 3) := by decide +kernel
theorem dX12_closesSums_37 : decode cX12_closesSums 37 = .ok (.aload_n 0, 1) := by decide +kernel
theorem dX12_closesSums_38 : decode cX12_closesSums 38 = .ok (.aload_n 0, 1) := by decide +kernel
theorem dX12_closesSums_39 : decode cX12_closesSums 39 = .ok (.invokevirtual 221, 3) := by decide +kernel
theorem dX12_closesSums_42 : decode cX12_closesSums 42 = .ok (.iconst 0, 1) := by decide +kernel
theorem dX12_closesSums_43 : decode cX12_closesSums 43 = .ok (.invokevirtual 224, 3) := by decide +kernel
theorem dX12_closesSums_46 : decode cX12_closesSums 46 = .ok (.aload_n 0, 1) := by decide +kernel
theorem dX12_closesSums_47 : decode cX12_closesSums 47 = .ok (.aload_n 0, 1) := by decide +kernel
theorem dX12_closesSums_48 : decode cX12_closesSums 48 = .ok (.getfield 218, 3) := by decide +kernel
theorem dX12_closesSums_51 : decode cX12_closesSums 51 = .ok (.iconst 1, 1) := by decide +kernel
theorem dX12_closesSums_52 : decode cX12_closesSums 52 = .ok (.isub, 1) := by decide +kernel
theorem dX12_closesSums_53 : decode cX12_closesSums 53 = .ok (.putfield 218, 3) := by decide +kernel
theorem dX12_closesSums_56 : decode cX12_closesSums 56 = .ok (.goto (-56), 3) := by decide +kernel
theorem dX12_closesSums_59 : decode cX12_closesSums 59 = .ok (.return_, 1) := by decide +kernel
theorem dX12_comeAll_0 : decode cX12_comeAll 0 = .ok (.iconst 0, 1) := by decide +kernel
theorem dX12_comeAll_1 : decode cX12_comeAll 1 = .ok (.istore_n 3, 1) := by decide +kernel
theorem dX12_comeAll_2 : decode cX12_comeAll 2 = .ok (.iload_n 3, 1) := by decide +kernel
theorem dX12_comeAll_3 : decode cX12_comeAll 3 = .ok (.bipush 8, 2) := by decide +kernel
theorem dX12_comeAll_5 : decode cX12_comeAll 5 = .ok (.if_icmp .ge 35, 3) := by decide +kernel
theorem dX12_comeAll_8 : decode cX12_comeAll 8 = .ok (.iload_n 1, 1) := by decide +kernel
theorem dX12_comeAll_9 : decode cX12_comeAll 9 = .ok (.iload_n 3, 1) := by decide +kernel
theorem dX12_comeAll_10 : decode cX12_comeAll 10 = .ok (.ishr, 1) := by decide +kernel
theorem dX12_comeAll_11 : decode cX12_comeAll 11 = .ok (.iconst 1, 1) := by decide +kernel
theorem dX12_comeAll_12 : decode cX12_comeAll 12 = .ok (.iand, 1) := by decide +kernel
theorem dX12_comeAll_13 : decode cX12_comeAll 13 = .ok (.ifCond .ne 6, 3) := by decide +kernel
theorem dX12_comeAll_16 : decode cX12_comeAll 16 = .ok (.goto 18, 3) := by decide +kernel
theorem dX12_comeAll_19 : decode cX12_comeAll 19 = .ok (.aload_n 0, 1) := by decide +kernel
theorem dX12_comeAll_20 : decode cX12_comeAll 20 = .ok (.iload_n 3, 1) := by decide +kernel
theorem dX12_comeAll_21 : decode cX12_comeAll 21 = .ok (.invokevirtual 338, 3) := by decide +kernel
theorem dX12_comeAll_24 : decode cX12_comeAll 24 = .ok (.aload_n 0, 1) := by decide +kernel
theorem dX12_comeAll_25 : decode cX12_comeAll 25 = .ok (.iload_n 2, 1) := by decide +kernel
theorem dX12_comeAll_26 : decode cX12_comeAll 26 = .ok (.invokevirtual 417, 3) := by decide +kernel
theorem dX12_comeAll_29 : decode cX12_comeAll 29 = .ok (.ifCond .ne 5, 3) := by decide +kernel
theorem dX12_comeAll_32 : decode cX12_comeAll 32 = .ok (.iconst 0, 1) := by decide +kernel
theorem dX12_comeAll_33 : decode cX12_comeAll 33 = .ok (.ireturn, 1) := by decide +kernel
theorem dX12_comeAll_34 : decode cX12_comeAll 34 = .ok (.iinc 3 1, 3) := by decide +kernel
theorem dX12_comeAll_37 : decode cX12_comeAll 37 = .ok (.goto (-35), 3) := by decide +kernel
theorem dX12_comeAll_40 : decode cX12_comeAll 40 = .ok (.iconst 1, 1) := by decide +kernel
theorem dX12_comeAll_41 : decode cX12_comeAll 41 = .ok (.ireturn, 1) := by decide +kernel
theorem dX12_comesTo_0 : decode cX12_comesTo 0 = .ok (.iconst 0, 1) := by decide +kernel
theorem dX12_comesTo_1 : decode cX12_comesTo 1 = .ok (.istore_n 3, 1) := by decide +kernel
theorem dX12_comesTo_2 : decode cX12_comesTo 2 = .ok (.sipush 180, 3) := by decide +kernel
theorem dX12_comesTo_5 : decode cX12_comesTo 5 = .ok (.iload_n 1, 1) := by decide +kernel
theorem dX12_comesTo_6 : decode cX12_comesTo 6 = .ok (.sipush 180, 3) := by decide +kernel
theorem dX12_comesTo_9 : decode cX12_comesTo 9 = .ok (.idiv, 1) := by decide +kernel
theorem dX12_comesTo_10 : decode cX12_comesTo 10 = .ok (.imul, 1) := by decide +kernel
theorem dX12_comesTo_11 : decode cX12_comesTo 11 = .ok (.istore 4, 2) := by decide +kernel
theorem dX12_comesTo_13 : decode cX12_comesTo 13 = .ok (.iload_n 1, 1) := by decide +kernel
theorem dX12_comesTo_14 : decode cX12_comesTo 14 = .ok (.istore 5, 2) := by decide +kernel
theorem dX12_comesTo_16 : decode cX12_comesTo 16 = .ok (.iload 5, 2) := by decide +kernel
theorem dX12_comesTo_18 : decode cX12_comesTo 18 = .ok (.iload_n 2, 1) := by decide +kernel
theorem dX12_comesTo_19 : decode cX12_comesTo 19 = .ok (.if_icmp .ge 214, 3) := by decide +kernel
theorem dX12_comesTo_22 : decode cX12_comesTo 22 = .ok (.aload_n 0, 1) := by decide +kernel
theorem dX12_comesTo_23 : decode cX12_comesTo 23 = .ok (.getfield 48, 3) := by decide +kernel
theorem dX12_comesTo_26 : decode cX12_comesTo 26 = .ok (.iload 5, 2) := by decide +kernel
theorem dX12_comesTo_28 : decode cX12_comesTo 28 = .ok (.iaload, 1) := by decide +kernel
theorem dX12_comesTo_29 : decode cX12_comesTo 29 = .ok (.ldc 214, 2) := by decide +kernel
theorem dX12_comesTo_31 : decode cX12_comesTo 31 = .ok (.idiv, 1) := by decide +kernel
theorem dX12_comesTo_32 : decode cX12_comesTo 32 = .ok (.istore 6, 2) := by decide +kernel
theorem dX12_comesTo_34 : decode cX12_comesTo 34 = .ok (.aload_n 0, 1) := by decide +kernel
theorem dX12_comesTo_35 : decode cX12_comesTo 35 = .ok (.getfield 48, 3) := by decide +kernel
theorem dX12_comesTo_38 : decode cX12_comesTo 38 = .ok (.iload 5, 2) := by decide +kernel
theorem dX12_comesTo_40 : decode cX12_comesTo 40 = .ok (.iaload, 1) := by decide +kernel
theorem dX12_comesTo_41 : decode cX12_comesTo 41 = .ok (.ldc 214, 2) := by decide +kernel
theorem dX12_comesTo_43 : decode cX12_comesTo 43 = .ok (.irem, 1) := by decide +kernel
theorem dX12_comesTo_44 : decode cX12_comesTo 44 = .ok (.istore 7, 2) := by decide +kernel
theorem dX12_comesTo_46 : decode cX12_comesTo 46 = .ok (.iload 5, 2) := by decide +kernel
theorem dX12_comesTo_48 : decode cX12_comesTo 48 = .ok (.iconst 1, 1) := by decide +kernel
theorem dX12_comesTo_49 : decode cX12_comesTo 49 = .ok (.iadd, 1) := by decide +kernel
theorem dX12_comesTo_50 : decode cX12_comesTo 50 = .ok (.istore 5, 2) := by decide +kernel
theorem dX12_comesTo_52 : decode cX12_comesTo 52 = .ok (.iload 6, 2) := by decide +kernel
theorem dX12_comesTo_54 : decode cX12_comesTo 54 = .ok (.ifCond .eq 9, 3) := by decide +kernel
theorem dX12_comesTo_57 : decode cX12_comesTo 57 = .ok (.iload 6, 2) := by decide +kernel
theorem dX12_comesTo_59 : decode cX12_comesTo 59 = .ok (.iconst 1, 1) := by decide +kernel
theorem dX12_comesTo_60 : decode cX12_comesTo 60 = .ok (.if_icmp .ne 33, 3) := by decide +kernel
theorem dX12_comesTo_63 : decode cX12_comesTo 63 = .ok (.aload_n 0, 1) := by decide +kernel
theorem dX12_comesTo_64 : decode cX12_comesTo 64 = .ok (.getfield 63, 3) := by decide +kernel
theorem dX12_comesTo_67 : decode cX12_comesTo 67 = .ok (.iload_n 3, 1) := by decide +kernel
theorem dX12_comesTo_68 : decode cX12_comesTo 68 = .ok (.iload 6, 2) := by decide +kernel
theorem dX12_comesTo_70 : decode cX12_comesTo 70 = .ok (.ifCond .ne 8, 3) := by decide +kernel
theorem dX12_comesTo_73 : decode cX12_comesTo 73 = .ok (.iload 7, 2) := by decide +kernel
theorem dX12_comesTo_75 : decode cX12_comesTo 75 = .ok (.goto 10, 3) := by decide +kernel
theorem dX12_comesTo_78 : decode cX12_comesTo 78 = .ok (.aload_n 0, 1) := by decide +kernel
theorem dX12_comesTo_79 : decode cX12_comesTo 79 = .ok (.getfield 66, 3) := by decide +kernel
theorem dX12_comesTo_82 : decode cX12_comesTo 82 = .ok (.iload 7, 2) := by decide +kernel
theorem dX12_comesTo_84 : decode cX12_comesTo 84 = .ok (.iaload, 1) := by decide +kernel
theorem dX12_comesTo_85 : decode cX12_comesTo 85 = .ok (.iastore, 1) := by decide +kernel
theorem dX12_comesTo_86 : decode cX12_comesTo 86 = .ok (.iload_n 3, 1) := by decide +kernel
theorem dX12_comesTo_87 : decode cX12_comesTo 87 = .ok (.iconst 1, 1) := by decide +kernel
theorem dX12_comesTo_88 : decode cX12_comesTo 88 = .ok (.iadd, 1) := by decide +kernel
theorem dX12_comesTo_89 : decode cX12_comesTo 89 = .ok (.istore_n 3, 1) := by decide +kernel
theorem dX12_comesTo_90 : decode cX12_comesTo 90 = .ok (.goto 140, 3) := by decide +kernel
theorem dX12_comesTo_93 : decode cX12_comesTo 93 = .ok (.iload 6, 2) := by decide +kernel
theorem dX12_comesTo_95 : decode cX12_comesTo 95 = .ok (.bipush 10, 2) := by decide +kernel
theorem dX12_comesTo_97 : decode cX12_comesTo 97 = .ok (.if_icmp .ne 24, 3) := by decide +kernel
theorem dX12_comesTo_100 : decode cX12_comesTo 100 = .ok (.aload_n 0, 1) := by decide +kernel
theorem dX12_comesTo_101 : decode cX12_comesTo 101 = .ok (.getfield 63, 3) := by decide +kernel
theorem dX12_comesTo_104 : decode cX12_comesTo 104 = .ok (.iload_n 3, 1) := by decide +kernel
theorem dX12_comesTo_105 : decode cX12_comesTo 105 = .ok (.iconst 1, 1) := by decide +kernel
theorem dX12_comesTo_106 : decode cX12_comesTo 106 = .ok (.isub, 1) := by decide +kernel
theorem dX12_comesTo_107 : decode cX12_comesTo 107 = .ok (.iconst 1, 1) := by decide +kernel
theorem dX12_comesTo_108 : decode cX12_comesTo 108 = .ok (.aload_n 0, 1) := by decide +kernel
theorem dX12_comesTo_109 : decode cX12_comesTo 109 = .ok (.getfield 63, 3) := by decide +kernel
theorem dX12_comesTo_112 : decode cX12_comesTo 112 = .ok (.iload_n 3, 1) := by decide +kernel
theorem dX12_comesTo_113 : decode cX12_comesTo 113 = .ok (.iconst 1, 1) := by decide +kernel
theorem dX12_comesTo_114 : decode cX12_comesTo 114 = .ok (.isub, 1) := by decide +kernel
theorem dX12_comesTo_115 : decode cX12_comesTo 115 = .ok (.iaload, 1) := by decide +kernel
theorem dX12_comesTo_116 : decode cX12_comesTo 116 = .ok (.isub, 1) := by decide +kernel
theorem dX12_comesTo_117 : decode cX12_comesTo 117 = .ok (.iastore, 1) := by decide +kernel
theorem dX12_comesTo_118 : decode cX12_comesTo 118 = .ok (.goto 112, 3) := by decide +kernel
theorem dX12_comesTo_121 : decode cX12_comesTo 121 = .ok (.iload 6, 2) := by decide +kernel
theorem dX12_comesTo_123 : decode cX12_comesTo 123 = .ok (.bipush 11, 2) := by decide +kernel
theorem dX12_comesTo_125 : decode cX12_comesTo 125 = .ok (.if_icmp .eq 10, 3) := by decide +kernel
theorem dX12_comesTo_128 : decode cX12_comesTo 128 = .ok (.iload 6, 2) := by decide +kernel
theorem dX12_comesTo_130 : decode cX12_comesTo 130 = .ok (.bipush 12, 2) := by decide +kernel
theorem dX12_comesTo_132 : decode cX12_comesTo 132 = .ok (.if_icmp .ne 43, 3) := by decide +kernel
theorem dX12_comesTo_135 : decode cX12_comesTo 135 = .ok (.aload_n 0, 1) := by decide +kernel
theorem dX12_comesTo_136 : decode cX12_comesTo 136 = .ok (.getfield 63, 3) := by decide +kernel
theorem dX12_comesTo_139 : decode cX12_comesTo 139 = .ok (.iload_n 3, 1) := by decide +kernel
theorem dX12_comesTo_140 : decode cX12_comesTo 140 = .ok (.iconst 1, 1) := by decide +kernel
theorem dX12_comesTo_141 : decode cX12_comesTo 141 = .ok (.isub, 1) := by decide +kernel
theorem dX12_comesTo_142 : decode cX12_comesTo 142 = .ok (.iaload, 1) := by decide +kernel
theorem dX12_comesTo_143 : decode cX12_comesTo 143 = .ok (.iload 6, 2) := by decide +kernel
theorem dX12_comesTo_145 : decode cX12_comesTo 145 = .ok (.bipush 12, 2) := by decide +kernel
theorem dX12_comesTo_147 : decode cX12_comesTo 147 = .ok (.if_icmp .ne 7, 3) := by decide +kernel
theorem dX12_comesTo_150 : decode cX12_comesTo 150 = .ok (.iconst 1, 1) := by decide +kernel
theorem dX12_comesTo_151 : decode cX12_comesTo 151 = .ok (.goto 4, 3) := by decide +kernel
theorem dX12_comesTo_154 : decode cX12_comesTo 154 = .ok (.iconst 0, 1) := by decide +kernel
theorem dX12_comesTo_155 : decode cX12_comesTo 155 = .ok (.if_icmp .ne 13, 3) := by decide +kernel
theorem dX12_comesTo_158 : decode cX12_comesTo 158 = .ok (.iload 4, 2) := by decide +kernel
theorem dX12_comesTo_160 : decode cX12_comesTo 160 = .ok (.iload 7, 2) := by decide +kernel
theorem dX12_comesTo_162 : decode cX12_comesTo 162 = .ok (.iadd, 1) := by decide +kernel
theorem dX12_comesTo_163 : decode cX12_comesTo 163 = .ok (.istore 5, 2) := by decide +kernel
theorem dX12_comesTo_165 : decode cX12_comesTo 165 = .ok (.goto 65, 3) := by decide +kernel
theorem dX12_comesTo_168 : decode cX12_comesTo 168 = .ok (.iload_n 3, 1) := by decide +kernel
theorem dX12_comesTo_169 : decode cX12_comesTo 169 = .ok (.iconst 1, 1) := by decide +kernel
theorem dX12_comesTo_170 : decode cX12_comesTo 170 = .ok (.isub, 1) := by decide +kernel
theorem dX12_comesTo_171 : decode cX12_comesTo 171 = .ok (.istore_n 3, 1) := by decide +kernel
theorem dX12_comesTo_172 : decode cX12_comesTo 172 = .ok (.goto 58, 3) := by decide +kernel
theorem dX12_comesTo_175 : decode cX12_comesTo 175 = .ok (.iload_n 3, 1) := by decide +kernel
theorem dX12_comesTo_176 : decode cX12_comesTo 176 = .ok (.iconst 1, 1) := by decide +kernel
theorem dX12_comesTo_177 : decode cX12_comesTo 177 = .ok (.isub, 1) := by decide +kernel
theorem dX12_comesTo_178 : decode cX12_comesTo 178 = .ok (.istore_n 3, 1) := by decide +kernel
theorem dX12_comesTo_179 : decode cX12_comesTo 179 = .ok (.iload 6, 2) := by decide +kernel
theorem dX12_comesTo_181 : decode cX12_comesTo 181 = .ok (.iconst 5, 1) := by decide +kernel
theorem dX12_comesTo_182 : decode cX12_comesTo 182 = .ok (.if_icmp .eq 10, 3) := by decide +kernel
theorem dX12_comesTo_185 : decode cX12_comesTo 185 = .ok (.iload 6, 2) := by decide +kernel
theorem dX12_comesTo_187 : decode cX12_comesTo 187 = .ok (.bipush 6, 2) := by decide +kernel
theorem dX12_comesTo_189 : decode cX12_comesTo 189 = .ok (.if_icmp .ne 14, 3) := by decide +kernel
theorem dX12_comesTo_192 : decode cX12_comesTo 192 = .ok (.aload_n 0, 1) := by decide +kernel
theorem dX12_comesTo_193 : decode cX12_comesTo 193 = .ok (.getfield 63, 3) := by decide +kernel
theorem dX12_comesTo_196 : decode cX12_comesTo 196 = .ok (.iload_n 3, 1) := by decide +kernel
theorem dX12_comesTo_197 : decode cX12_comesTo 197 = .ok (.iaload, 1) := by decide +kernel
theorem dX12_comesTo_198 : decode cX12_comesTo 198 = .ok (.ifCond .ne 5, 3) := by decide +kernel
theorem dX12_comesTo_201 : decode cX12_comesTo 201 = .ok (.iconst 0, 1) := by decide +kernel
theorem dX12_comesTo_202 : decode cX12_comesTo 202 = .ok (.ireturn, 1) := by decide +kernel
theorem dX12_comesTo_203 : decode cX12_comesTo 203 = .ok (.aload_n 0, 1) := by decide +kernel
theorem dX12_comesTo_204 : decode cX12_comesTo 204 = .ok (.getfield 63, 3) := by decide +kernel
theorem dX12_comesTo_207 : decode cX12_comesTo 207 = .ok (.iload_n 3, 1) := by decide +kernel
theorem dX12_comesTo_208 : decode cX12_comesTo 208 = .ok (.iconst 1, 1) := by decide +kernel
theorem dX12_comesTo_209 : decode cX12_comesTo 209 = .ok (.isub, 1) := by decide +kernel
theorem dX12_comesTo_210 : decode cX12_comesTo 210 = .ok (.iload 6, 2) := by decide +kernel
theorem dX12_comesTo_212 : decode cX12_comesTo 212 = .ok (.aload_n 0, 1) := by decide +kernel
theorem dX12_comesTo_213 : decode cX12_comesTo 213 = .ok (.getfield 63, 3) := by decide +kernel
theorem dX12_comesTo_216 : decode cX12_comesTo 216 = .ok (.iload_n 3, 1) := by decide +kernel
theorem dX12_comesTo_217 : decode cX12_comesTo 217 = .ok (.iconst 1, 1) := by decide +kernel
theorem dX12_comesTo_218 : decode cX12_comesTo 218 = .ok (.isub, 1) := by decide +kernel
theorem dX12_comesTo_219 : decode cX12_comesTo 219 = .ok (.iaload, 1) := by decide +kernel
theorem dX12_comesTo_220 : decode cX12_comesTo 220 = .ok (.aload_n 0, 1) := by decide +kernel
theorem dX12_comesTo_221 : decode cX12_comesTo 221 = .ok (.getfield 63, 3) := by decide +kernel
theorem dX12_comesTo_224 : decode cX12_comesTo 224 = .ok (.iload_n 3, 1) := by decide +kernel
theorem dX12_comesTo_225 : decode cX12_comesTo 225 = .ok (.iaload, 1) := by decide +kernel
theorem dX12_comesTo_226 : decode cX12_comesTo 226 = .ok (.invokestatic 280, 3) := by decide +kernel
theorem dX12_comesTo_229 : decode cX12_comesTo 229 = .ok (.iastore, 1) := by decide +kernel
theorem dX12_comesTo_230 : decode cX12_comesTo 230 = .ok (.goto (-214), 3) := by decide +kernel
theorem dX12_comesTo_233 : decode cX12_comesTo 233 = .ok (.aload_n 0, 1) := by decide +kernel
theorem dX12_comesTo_234 : decode cX12_comesTo 234 = .ok (.getfield 63, 3) := by decide +kernel
theorem dX12_comesTo_237 : decode cX12_comesTo 237 = .ok (.iconst 0, 1) := by decide +kernel
theorem dX12_comesTo_238 : decode cX12_comesTo 238 = .ok (.iaload, 1) := by decide +kernel
theorem dX12_comesTo_239 : decode cX12_comesTo 239 = .ok (.ireturn, 1) := by decide +kernel
theorem dX12_comesWithout_0 : decode cX12_comesWithout 0 = .ok (.iconst 0, 1) := by decide +kernel
theorem dX12_comesWithout_1 : decode cX12_comesWithout 1 = .ok (.istore_n 2, 1) := by decide +kernel
theorem dX12_comesWithout_2 : decode cX12_comesWithout 2 = .ok (.iconst 0, 1) := by decide +kernel
theorem dX12_comesWithout_3 : decode cX12_comesWithout 3 = .ok (.istore_n 3, 1) := by decide +kernel
theorem dX12_comesWithout_4 : decode cX12_comesWithout 4 = .ok (.iload_n 3, 1) := by decide +kernel
theorem dX12_comesWithout_5 : decode cX12_comesWithout 5 = .ok (.aload_n 0, 1) := by decide +kernel
theorem dX12_comesWithout_6 : decode cX12_comesWithout 6 = .ok (.getfield 320, 3) := by decide +kernel
theorem dX12_comesWithout_9 : decode cX12_comesWithout 9 = .ok (.if_icmp .ge 41, 3) := by decide +kernel
theorem dX12_comesWithout_12 : decode cX12_comesWithout 12 = .ok (.iload_n 2, 1) := by decide +kernel
theorem dX12_comesWithout_13 : decode cX12_comesWithout 13 = .ok (.aload_n 0, 1) := by decide +kernel
theorem dX12_comesWithout_14 : decode cX12_comesWithout 14 = .ok (.getfield 323, 3) := by decide +kernel
theorem dX12_comesWithout_17 : decode cX12_comesWithout 17 = .ok (.if_icmp .ge 33, 3) := by decide +kernel
theorem dX12_comesWithout_20 : decode cX12_comesWithout 20 = .ok (.iload_n 3, 1) := by decide +kernel
theorem dX12_comesWithout_21 : decode cX12_comesWithout 21 = .ok (.iload_n 1, 1) := by decide +kernel
theorem dX12_comesWithout_22 : decode cX12_comesWithout 22 = .ok (.if_icmp .eq 22, 3) := by decide +kernel
theorem dX12_comesWithout_25 : decode cX12_comesWithout 25 = .ok (.aload_n 0, 1) := by decide +kernel
theorem dX12_comesWithout_26 : decode cX12_comesWithout 26 = .ok (.getfield 87, 3) := by decide +kernel
theorem dX12_comesWithout_29 : decode cX12_comesWithout 29 = .ok (.iload_n 3, 1) := by decide +kernel
theorem dX12_comesWithout_30 : decode cX12_comesWithout 30 = .ok (.iaload, 1) := by decide +kernel
theorem dX12_comesWithout_31 : decode cX12_comesWithout 31 = .ok (.aload_n 0, 1) := by decide +kernel
theorem dX12_comesWithout_32 : decode cX12_comesWithout 32 = .ok (.getfield 90, 3) := by decide +kernel
theorem dX12_comesWithout_35 : decode cX12_comesWithout 35 = .ok (.iload_n 2, 1) := by decide +kernel
theorem dX12_comesWithout_36 : decode cX12_comesWithout 36 = .ok (.iaload, 1) := by decide +kernel
theorem dX12_comesWithout_37 : decode cX12_comesWithout 37 = .ok (.if_icmp .ne 7, 3) := by decide +kernel
theorem dX12_comesWithout_40 : decode cX12_comesWithout 40 = .ok (.iload_n 2, 1) := by decide +kernel
theorem dX12_comesWithout_41 : decode cX12_comesWithout 41 = .ok (.iconst 1, 1) := by decide +kernel
theorem dX12_comesWithout_42 : decode cX12_comesWithout 42 = .ok (.iadd, 1) := by decide +kernel
theorem dX12_comesWithout_43 : decode cX12_comesWithout 43 = .ok (.istore_n 2, 1) := by decide +kernel
theorem dX12_comesWithout_44 : decode cX12_comesWithout 44 = .ok (.iinc 3 1, 3) := by decide +kernel
theorem dX12_comesWithout_47 : decode cX12_comesWithout 47 = .ok (.goto (-43), 3) := by decide +kernel
theorem dX12_comesWithout_50 : decode cX12_comesWithout 50 = .ok (.iload_n 2, 1) := by decide +kernel
theorem dX12_comesWithout_51 : decode cX12_comesWithout 51 = .ok (.aload_n 0, 1) := by decide +kernel
theorem dX12_comesWithout_52 : decode cX12_comesWithout 52 = .ok (.getfield 323, 3) := by decide +kernel
theorem dX12_comesWithout_55 : decode cX12_comesWithout 55 = .ok (.if_icmp .ne 7, 3) := by decide +kernel
theorem dX12_comesWithout_58 : decode cX12_comesWithout 58 = .ok (.iconst 1, 1) := by decide +kernel
theorem dX12_comesWithout_59 : decode cX12_comesWithout 59 = .ok (.goto 4, 3) := by decide +kernel
theorem dX12_comesWithout_62 : decode cX12_comesWithout 62 = .ok (.iconst 0, 1) := by decide +kernel
theorem dX12_comesWithout_63 : decode cX12_comesWithout 63 = .ok (.ireturn, 1) := by decide +kernel
theorem dX12_costAll_0 : decode cX12_costAll 0 = .ok (.iconst 0, 1) := by decide +kernel
theorem dX12_costAll_1 : decode cX12_costAll 1 = .ok (.istore_n 1, 1) := by decide +kernel
theorem dX12_costAll_2 : decode cX12_costAll 2 = .ok (.iconst 0, 1) := by decide +kernel
theorem dX12_costAll_3 : decode cX12_costAll 3 = .ok (.istore_n 2, 1) := by decide +kernel
theorem dX12_costAll_4 : decode cX12_costAll 4 = .ok (.iload_n 2, 1) := by decide +kernel
theorem dX12_costAll_5 : decode cX12_costAll 5 = .ok (.aload_n 0, 1) := by decide +kernel
theorem dX12_costAll_6 : decode cX12_costAll 6 = .ok (.getfield 306, 3) := by decide +kernel
theorem dX12_costAll_9 : decode cX12_costAll 9 = .ok (.if_icmp .ge 18, 3) := by decide +kernel
theorem dX12_costAll_12 : decode cX12_costAll 12 = .ok (.iload_n 1, 1) := by decide +kernel
theorem dX12_costAll_13 : decode cX12_costAll 13 = .ok (.aload_n 0, 1) := by decide +kernel
theorem dX12_costAll_14 : decode cX12_costAll 14 = .ok (.getfield 78, 3) := by decide +kernel
theorem dX12_costAll_17 : decode cX12_costAll 17 = .ok (.iload_n 2, 1) := by decide +kernel
theorem dX12_costAll_18 : decode cX12_costAll 18 = .ok (.iaload, 1) := by decide +kernel
theorem dX12_costAll_19 : decode cX12_costAll 19 = .ok (.iadd, 1) := by decide +kernel
theorem dX12_costAll_20 : decode cX12_costAll 20 = .ok (.istore_n 1, 1) := by decide +kernel
theorem dX12_costAll_21 : decode cX12_costAll 21 = .ok (.iinc 2 1, 3) := by decide +kernel
theorem dX12_costAll_24 : decode cX12_costAll 24 = .ok (.goto (-20), 3) := by decide +kernel
theorem dX12_costAll_27 : decode cX12_costAll 27 = .ok (.iload_n 1, 1) := by decide +kernel
theorem dX12_costAll_28 : decode cX12_costAll 28 = .ok (.ireturn, 1) := by decide +kernel
theorem dX12_count_0 : decode cX12_count 0 = .ok (.iload_n 1, 1) := by decide +kernel
theorem dX12_count_1 : decode cX12_count 1 = .ok (.tableswitch 87 0 7 #[47, 52, 57, 62, 67, 72, 77, 82], 47) := by decide +kernel
theorem dX12_count_48 : decode cX12_count 48 = .ok (.aload_n 0, 1) := by decide +kernel
theorem dX12_count_49 : decode cX12_count 49 = .ok (.getfield 152, 3) := by decide +kernel
theorem dX12_count_52 : decode cX12_count 52 = .ok (.ireturn, 1) := by decide +kernel
theorem dX12_count_53 : decode cX12_count 53 = .ok (.aload_n 0, 1) := by decide +kernel
theorem dX12_count_54 : decode cX12_count 54 = .ok (.getfield 155, 3) := by decide +kernel
theorem dX12_count_57 : decode cX12_count 57 = .ok (.ireturn, 1) := by decide +kernel
theorem dX12_count_58 : decode cX12_count 58 = .ok (.aload_n 0, 1) := by decide +kernel
theorem dX12_count_59 : decode cX12_count 59 = .ok (.getfield 277, 3) := by decide +kernel
theorem dX12_count_62 : decode cX12_count 62 = .ok (.ireturn, 1) := by decide +kernel
theorem dX12_count_63 : decode cX12_count 63 = .ok (.aload_n 0, 1) := by decide +kernel
theorem dX12_count_64 : decode cX12_count 64 = .ok (.getfield 165, 3) := by decide +kernel
theorem dX12_count_67 : decode cX12_count 67 = .ok (.ireturn, 1) := by decide +kernel
theorem dX12_count_68 : decode cX12_count 68 = .ok (.aload_n 0, 1) := by decide +kernel
theorem dX12_count_69 : decode cX12_count 69 = .ok (.getfield 158, 3) := by decide +kernel
theorem dX12_count_72 : decode cX12_count 72 = .ok (.ireturn, 1) := by decide +kernel
theorem dX12_count_73 : decode cX12_count 73 = .ok (.aload_n 0, 1) := by decide +kernel
theorem dX12_count_74 : decode cX12_count 74 = .ok (.getfield 306, 3) := by decide +kernel
theorem dX12_count_77 : decode cX12_count 77 = .ok (.ireturn, 1) := by decide +kernel
theorem dX12_count_78 : decode cX12_count 78 = .ok (.aload_n 0, 1) := by decide +kernel
theorem dX12_count_79 : decode cX12_count 79 = .ok (.getfield 148, 3) := by decide +kernel
theorem dX12_count_82 : decode cX12_count 82 = .ok (.ireturn, 1) := by decide +kernel
theorem dX12_count_83 : decode cX12_count 83 = .ok (.aload_n 0, 1) := by decide +kernel
theorem dX12_count_84 : decode cX12_count 84 = .ok (.invokevirtual 468, 3) := by decide +kernel
theorem dX12_count_87 : decode cX12_count 87 = .ok (.ireturn, 1) := by decide +kernel
theorem dX12_count_88 : decode cX12_count 88 = .ok (.iload_n 1, 1) := by decide +kernel
theorem dX12_count_89 : decode cX12_count 89 = .ok (.bipush 10, 2) := by decide +kernel
theorem dX12_count_91 : decode cX12_count 91 = .ok (.bipush 9, 2) := by decide +kernel
theorem dX12_count_93 : decode cX12_count 93 = .ok (.aload_n 0, 1) := by decide +kernel
theorem dX12_count_94 : decode cX12_count 94 = .ok (.getfield 152, 3) := by decide +kernel
theorem dX12_count_97 : decode cX12_count 97 = .ok (.iadd, 1) := by decide +kernel
theorem dX12_count_98 : decode cX12_count 98 = .ok (.invokestatic 161, 3) := by decide +kernel
theorem dX12_count_101 : decode cX12_count 101 = .ok (.ifCond .eq 12, 3) := by decide +kernel
theorem dX12_count_104 : decode cX12_count 104 = .ok (.aload_n 0, 1) := by decide +kernel
theorem dX12_count_105 : decode cX12_count 105 = .ok (.iload_n 1, 1) := by decide +kernel
theorem dX12_count_106 : decode cX12_count 106 = .ok (.bipush 10, 2) := by decide +kernel
theorem dX12_count_108 : decode cX12_count 108 = .ok (.isub, 1) := by decide +kernel
theorem dX12_count_109 : decode cX12_count 109 = .ok (.invokevirtual 175, 3) := by decide +kernel
theorem dX12_count_112 : decode cX12_count 112 = .ok (.ireturn, 1) := by decide +kernel
theorem dX12_count_113 : decode cX12_count 113 = .ok (.iload_n 1, 1) := by decide +kernel
theorem dX12_count_114 : decode cX12_count 114 = .ok (.bipush 20, 2) := by decide +kernel
theorem dX12_count_116 : decode cX12_count 116 = .ok (.bipush 27, 2) := by decide +kernel
theorem dX12_count_118 : decode cX12_count 118 = .ok (.invokestatic 161, 3) := by decide +kernel
theorem dX12_count_121 : decode cX12_count 121 = .ok (.ifCond .eq 15, 3) := by decide +kernel
theorem dX12_count_124 : decode cX12_count 124 = .ok (.aload_n 0, 1) := by decide +kernel
theorem dX12_count_125 : decode cX12_count 125 = .ok (.getfield 16, 3) := by decide +kernel
theorem dX12_count_128 : decode cX12_count 128 = .ok (.iload_n 1, 1) := by decide +kernel
theorem dX12_count_129 : decode cX12_count 129 = .ok (.bipush 20, 2) := by decide +kernel
theorem dX12_count_131 : decode cX12_count 131 = .ok (.isub, 1) := by decide +kernel
theorem dX12_count_132 : decode cX12_count 132 = .ok (.iaload, 1) := by decide +kernel
theorem dX12_count_133 : decode cX12_count 133 = .ok (.goto 4, 3) := by decide +kernel
theorem dX12_count_136 : decode cX12_count 136 = .ok (.iconst (-1), 1) := by decide +kernel
theorem dX12_count_137 : decode cX12_count 137 = .ok (.ireturn, 1) := by decide +kernel
theorem dX12_day_0 : decode cX12_day 0 = .ok (.iload_n 1, 1) := by decide +kernel
theorem dX12_day_1 : decode cX12_day 1 = .ok (.aload_n 0, 1) := by decide +kernel
theorem dX12_day_2 : decode cX12_day 2 = .ok (.getfield 158, 3) := by decide +kernel
theorem dX12_day_5 : decode cX12_day 5 = .ok (.sipush 999, 3) := by decide +kernel
theorem dX12_day_8 : decode cX12_day 8 = .ok (.invokestatic 161, 3) := by decide +kernel
theorem dX12_day_11 : decode cX12_day 11 = .ok (.ifCond .ne 5, 3) := by decide +kernel
theorem dX12_day_14 : decode cX12_day 14 = .ok (.iconst 0, 1) := by decide +kernel
theorem dX12_day_15 : decode cX12_day 15 = .ok (.ireturn, 1) := by decide +kernel
theorem dX12_day_16 : decode cX12_day 16 = .ok (.aload_n 0, 1) := by decide +kernel
theorem dX12_day_17 : decode cX12_day 17 = .ok (.iload_n 1, 1) := by decide +kernel
theorem dX12_day_18 : decode cX12_day 18 = .ok (.putfield 158, 3) := by decide +kernel
theorem dX12_day_21 : decode cX12_day 21 = .ok (.iconst 1, 1) := by decide +kernel
theorem dX12_day_22 : decode cX12_day 22 = .ok (.ireturn, 1) := by decide +kernel
theorem dX12_dayEnd_0 : decode cX12_dayEnd 0 = .ok (.aload_n 0, 1) := by decide +kernel
theorem dX12_dayEnd_1 : decode cX12_dayEnd 1 = .ok (.iload_n 1, 1) := by decide +kernel
theorem dX12_dayEnd_2 : decode cX12_dayEnd 2 = .ok (.invokevirtual 420, 3) := by decide +kernel
theorem dX12_dayEnd_5 : decode cX12_dayEnd 5 = .ok (.ifCond .eq 23, 3) := by decide +kernel
theorem dX12_dayEnd_8 : decode cX12_dayEnd 8 = .ok (.iload_n 1, 1) := by decide +kernel
theorem dX12_dayEnd_9 : decode cX12_dayEnd 9 = .ok (.ifCond .eq 19, 3) := by decide +kernel
theorem dX12_dayEnd_12 : decode cX12_dayEnd 12 = .ok (.iload_n 2, 1) := by decide +kernel
theorem dX12_dayEnd_13 : decode cX12_dayEnd 13 = .ok (.bipush 10, 2) := by decide +kernel
theorem dX12_dayEnd_15 : decode cX12_dayEnd 15 = .ok (.if_icmp .eq 15, 3) := by decide +kernel
theorem dX12_dayEnd_18 : decode cX12_dayEnd 18 = .ok (.iload_n 2, 1) := by decide +kernel
theorem dX12_dayEnd_19 : decode cX12_dayEnd 19 = .ok (.iconst (-1), 1) := by decide +kernel
theorem dX12_dayEnd_20 : decode cX12_dayEnd 20 = .ok (.bipush 7, 2) := by decide +kernel
theorem dX12_dayEnd_22 : decode cX12_dayEnd 22 = .ok (.invokestatic 161, 3) := by decide +kernel
theorem dX12_dayEnd_25 : decode cX12_dayEnd 25 = .ok (.ifCond .ne 5, 3) := by decide +kernel
theorem dX12_dayEnd_28 : decode cX12_dayEnd 28 = .ok (.iconst (-1), 1) := by decide +kernel
theorem dX12_dayEnd_29 : decode cX12_dayEnd 29 = .ok (.ireturn, 1) := by decide +kernel
theorem dX12_dayEnd_30 : decode cX12_dayEnd 30 = .ok (.iload_n 2, 1) := by decide +kernel
theorem dX12_dayEnd_31 : decode cX12_dayEnd 31 = .ok (.iconst 0, 1) := by decide +kernel
theorem dX12_dayEnd_32 : decode cX12_dayEnd 32 = .ok (.bipush 7, 2) := by decide +kernel
theorem dX12_dayEnd_34 : decode cX12_dayEnd 34 = .ok (.invokestatic 161, 3) := by decide +kernel
theorem dX12_dayEnd_37 : decode cX12_dayEnd 37 = .ok (.ifCond .eq 14, 3) := by decide +kernel
theorem dX12_dayEnd_40 : decode cX12_dayEnd 40 = .ok (.iload_n 1, 1) := by decide +kernel
theorem dX12_dayEnd_41 : decode cX12_dayEnd 41 = .ok (.iload_n 2, 1) := by decide +kernel
theorem dX12_dayEnd_42 : decode cX12_dayEnd 42 = .ok (.ishr, 1) := by decide +kernel
theorem dX12_dayEnd_43 : decode cX12_dayEnd 43 = .ok (.iconst 1, 1) := by decide +kernel
theorem dX12_dayEnd_44 : decode cX12_dayEnd 44 = .ok (.iand, 1) := by decide +kernel
theorem dX12_dayEnd_45 : decode cX12_dayEnd 45 = .ok (.ifCond .ne 6, 3) := by decide +kernel
theorem dX12_dayEnd_48 : decode cX12_dayEnd 48 = .ok (.bipush (-2), 2) := by decide +kernel
theorem dX12_dayEnd_50 : decode cX12_dayEnd 50 = .ok (.ireturn, 1) := by decide +kernel
theorem dX12_dayEnd_51 : decode cX12_dayEnd 51 = .ok (.aload_n 0, 1) := by decide +kernel
theorem dX12_dayEnd_52 : decode cX12_dayEnd 52 = .ok (.iload_n 1, 1) := by decide +kernel
theorem dX12_dayEnd_53 : decode cX12_dayEnd 53 = .ok (.invokevirtual 436, 3) := by decide +kernel
theorem dX12_dayEnd_56 : decode cX12_dayEnd 56 = .ok (.iload_n 2, 1) := by decide +kernel
theorem dX12_dayEnd_57 : decode cX12_dayEnd 57 = .ok (.iconst (-1), 1) := by decide +kernel
theorem dX12_dayEnd_58 : decode cX12_dayEnd 58 = .ok (.if_icmp .ne 14, 3) := by decide +kernel
theorem dX12_dayEnd_61 : decode cX12_dayEnd 61 = .ok (.aload_n 0, 1) := by decide +kernel
theorem dX12_dayEnd_62 : decode cX12_dayEnd 62 = .ok (.aload_n 0, 1) := by decide +kernel
theorem dX12_dayEnd_63 : decode cX12_dayEnd 63 = .ok (.getfield 139, 3) := by decide +kernel
theorem dX12_dayEnd_66 : decode cX12_dayEnd 66 = .ok (.iconst 0, 1) := by decide +kernel
theorem dX12_dayEnd_67 : decode cX12_dayEnd 67 = .ok (.iaload, 1) := by decide +kernel
theorem dX12_dayEnd_68 : decode cX12_dayEnd 68 = .ok (.invokevirtual 433, 3) := by decide +kernel
theorem dX12_dayEnd_71 : decode cX12_dayEnd 71 = .ok (.ireturn, 1) := by decide +kernel
theorem dX12_dayEnd_72 : decode cX12_dayEnd 72 = .ok (.iload_n 2, 1) := by decide +kernel
theorem dX12_dayEnd_73 : decode cX12_dayEnd 73 = .ok (.bipush 10, 2) := by decide +kernel
theorem dX12_dayEnd_75 : decode cX12_dayEnd 75 = .ok (.if_icmp .ne 16, 3) := by decide +kernel
theorem dX12_dayEnd_78 : decode cX12_dayEnd 78 = .ok (.aload_n 0, 1) := by decide +kernel
theorem dX12_dayEnd_79 : decode cX12_dayEnd 79 = .ok (.aload_n 0, 1) := by decide +kernel
theorem dX12_dayEnd_80 : decode cX12_dayEnd 80 = .ok (.getfield 139, 3) := by decide +kernel
theorem dX12_dayEnd_83 : decode cX12_dayEnd 83 = .ok (.iconst 0, 1) := by decide +kernel
theorem dX12_dayEnd_84 : decode cX12_dayEnd 84 = .ok (.iaload, 1) := by decide +kernel
theorem dX12_dayEnd_85 : decode cX12_dayEnd 85 = .ok (.invokevirtual 439, 3) := by decide +kernel
theorem dX12_dayEnd_88 : decode cX12_dayEnd 88 = .ok (.goto 9, 3) := by decide +kernel
theorem dX12_dayEnd_91 : decode cX12_dayEnd 91 = .ok (.aload_n 0, 1) := by decide +kernel
theorem dX12_dayEnd_92 : decode cX12_dayEnd 92 = .ok (.iload_n 1, 1) := by decide +kernel
theorem dX12_dayEnd_93 : decode cX12_dayEnd 93 = .ok (.iload_n 2, 1) := by decide +kernel
theorem dX12_dayEnd_94 : decode cX12_dayEnd 94 = .ok (.invokevirtual 442, 3) := by decide +kernel
theorem dX12_dayEnd_97 : decode cX12_dayEnd 97 = .ok (.ireturn, 1) := by decide +kernel
theorem dX12_deed_0 : decode cX12_deed 0 = .ok (.iload_n 1, 1) := by decide +kernel
theorem dX12_deed_1 : decode cX12_deed 1 = .ok (.iconst 0, 1) := by decide +kernel
theorem dX12_deed_2 : decode cX12_deed 2 = .ok (.bipush 7, 2) := by decide +kernel
theorem dX12_deed_4 : decode cX12_deed 4 = .ok (.invokestatic 161, 3) := by decide +kernel
theorem dX12_deed_7 : decode cX12_deed 7 = .ok (.ifCond .eq 21, 3) := by decide +kernel
theorem dX12_deed_10 : decode cX12_deed 10 = .ok (.iload_n 2, 1) := by decide +kernel
theorem dX12_deed_11 : decode cX12_deed 11 = .ok (.iconst 1, 1) := by decide +kernel
theorem dX12_deed_12 : decode cX12_deed 12 = .ok (.bipush 16, 2) := by decide +kernel
theorem dX12_deed_14 : decode cX12_deed 14 = .ok (.invokestatic 161, 3) := by decide +kernel
theorem dX12_deed_17 : decode cX12_deed 17 = .ok (.ifCond .eq 11, 3) := by decide +kernel
theorem dX12_deed_20 : decode cX12_deed 20 = .ok (.iload_n 2, 1) := by decide +kernel
theorem dX12_deed_21 : decode cX12_deed 21 = .ok (.aload_n 0, 1) := by decide +kernel
theorem dX12_deed_22 : decode cX12_deed 22 = .ok (.getfield 165, 3) := by decide +kernel
theorem dX12_deed_25 : decode cX12_deed 25 = .ok (.if_icmp .le 5, 3) := by decide +kernel
theorem dX12_deed_28 : decode cX12_deed 28 = .ok (.iconst (-1), 1) := by decide +kernel
theorem dX12_deed_29 : decode cX12_deed 29 = .ok (.ireturn, 1) := by decide +kernel
theorem dX12_deed_30 : decode cX12_deed 30 = .ok (.aload_n 0, 1) := by decide +kernel
theorem dX12_deed_31 : decode cX12_deed 31 = .ok (.iconst 0, 1) := by decide +kernel
theorem dX12_deed_32 : decode cX12_deed 32 = .ok (.putfield 165, 3) := by decide +kernel
theorem dX12_deed_35 : decode cX12_deed 35 = .ok (.aload_n 0, 1) := by decide +kernel
theorem dX12_deed_36 : decode cX12_deed 36 = .ok (.iload_n 2, 1) := by decide +kernel
theorem dX12_deed_37 : decode cX12_deed 37 = .ok (.invokevirtual 168, 3) := by decide +kernel
theorem dX12_deed_40 : decode cX12_deed 40 = .ok (.ifCond .ne 6, 3) := by decide +kernel
theorem dX12_deed_43 : decode cX12_deed 43 = .ok (.bipush (-2), 2) := by decide +kernel
theorem dX12_deed_45 : decode cX12_deed 45 = .ok (.ireturn, 1) := by decide +kernel
theorem dX12_deed_46 : decode cX12_deed 46 = .ok (.iconst 0, 1) := by decide +kernel
theorem dX12_deed_47 : decode cX12_deed 47 = .ok (.istore_n 3, 1) := by decide +kernel
theorem dX12_deed_48 : decode cX12_deed 48 = .ok (.iload_n 3, 1) := by decide +kernel
theorem dX12_deed_49 : decode cX12_deed 49 = .ok (.iload_n 2, 1) := by decide +kernel
theorem dX12_deed_50 : decode cX12_deed 50 = .ok (.if_icmp .ge 29, 3) := by decide +kernel
theorem dX12_deed_53 : decode cX12_deed 53 = .ok (.aload_n 0, 1) := by decide +kernel
theorem dX12_deed_54 : decode cX12_deed 54 = .ok (.getfield 19, 3) := by decide +kernel
theorem dX12_deed_57 : decode cX12_deed 57 = .ok (.bipush 16, 2) := by decide +kernel
theorem dX12_deed_59 : decode cX12_deed 59 = .ok (.iload_n 1, 1) := by decide +kernel
theorem dX12_deed_60 : decode cX12_deed 60 = .ok (.imul, 1) := by decide +kernel
theorem dX12_deed_61 : decode cX12_deed 61 = .ok (.iload_n 3, 1) := by decide +kernel
theorem dX12_deed_62 : decode cX12_deed 62 = .ok (.iadd, 1) := by decide +kernel
theorem dX12_deed_63 : decode cX12_deed 63 = .ok (.aload_n 0, 1) := by decide +kernel
theorem dX12_deed_64 : decode cX12_deed 64 = .ok (.getfield 26, 3) := by decide +kernel
theorem dX12_deed_67 : decode cX12_deed 67 = .ok (.iload_n 3, 1) := by decide +kernel
theorem dX12_deed_68 : decode cX12_deed 68 = .ok (.baload, 1) := by decide +kernel
theorem dX12_deed_69 : decode cX12_deed 69 = .ok (.bipush 97, 2) := by decide +kernel
theorem dX12_deed_71 : decode cX12_deed 71 = .ok (.isub, 1) := by decide +kernel
theorem dX12_deed_72 : decode cX12_deed 72 = .ok (.iastore, 1) := by decide +kernel
theorem dX12_deed_73 : decode cX12_deed 73 = .ok (.iinc 3 1, 3) := by decide +kernel
theorem dX12_deed_76 : decode cX12_deed 76 = .ok (.goto (-28), 3) := by decide +kernel
theorem dX12_deed_79 : decode cX12_deed 79 = .ok (.aload_n 0, 1) := by decide +kernel
theorem dX12_deed_80 : decode cX12_deed 80 = .ok (.getfield 16, 3) := by decide +kernel
theorem dX12_deed_83 : decode cX12_deed 83 = .ok (.iload_n 1, 1) := by decide +kernel
theorem dX12_deed_84 : decode cX12_deed 84 = .ok (.iload_n 2, 1) := by decide +kernel
theorem dX12_deed_85 : decode cX12_deed 85 = .ok (.iastore, 1) := by decide +kernel
theorem dX12_deed_86 : decode cX12_deed 86 = .ok (.aload_n 0, 1) := by decide +kernel
theorem dX12_deed_87 : decode cX12_deed 87 = .ok (.aload_n 0, 1) := by decide +kernel
theorem dX12_deed_88 : decode cX12_deed 88 = .ok (.getfield 155, 3) := by decide +kernel
theorem dX12_deed_91 : decode cX12_deed 91 = .ok (.iconst 1, 1) := by decide +kernel
theorem dX12_deed_92 : decode cX12_deed 92 = .ok (.iload_n 1, 1) := by decide +kernel
theorem dX12_deed_93 : decode cX12_deed 93 = .ok (.ishl, 1) := by decide +kernel
theorem dX12_deed_94 : decode cX12_deed 94 = .ok (.ior, 1) := by decide +kernel
theorem dX12_deed_95 : decode cX12_deed 95 = .ok (.putfield 155, 3) := by decide +kernel
theorem dX12_deed_98 : decode cX12_deed 98 = .ok (.iload_n 2, 1) := by decide +kernel
theorem dX12_deed_99 : decode cX12_deed 99 = .ok (.ireturn, 1) := by decide +kernel
theorem dX12_done_0 : decode cX12_done 0 = .ok (.aload_n 0, 1) := by decide +kernel
theorem dX12_done_1 : decode cX12_done 1 = .ok (.iload_n 1, 1) := by decide +kernel
theorem dX12_done_2 : decode cX12_done 2 = .ok (.iload_n 2, 1) := by decide +kernel
theorem dX12_done_3 : decode cX12_done 3 = .ok (.invokevirtual 329, 3) := by decide +kernel
theorem dX12_done_6 : decode cX12_done 6 = .ok (.ifCond .eq 10, 3) := by decide +kernel
theorem dX12_done_9 : decode cX12_done 9 = .ok (.iload_n 3, 1) := by decide +kernel
theorem dX12_done_10 : decode cX12_done 10 = .ok (.invokestatic 297, 3) := by decide +kernel
theorem dX12_done_13 : decode cX12_done 13 = .ok (.ifCond .ne 5, 3) := by decide +kernel
theorem dX12_done_16 : decode cX12_done 16 = .ok (.iconst (-1), 1) := by decide +kernel
theorem dX12_done_17 : decode cX12_done 17 = .ok (.ireturn, 1) := by decide +kernel
theorem dX12_done_18 : decode cX12_done 18 = .ok (.aload_n 0, 1) := by decide +kernel
theorem dX12_done_19 : decode cX12_done 19 = .ok (.iload_n 1, 1) := by decide +kernel
theorem dX12_done_20 : decode cX12_done 20 = .ok (.iload_n 2, 1) := by decide +kernel
theorem dX12_done_21 : decode cX12_done 21 = .ok (.iload_n 3, 1) := by decide +kernel
theorem dX12_done_22 : decode cX12_done 22 = .ok (.invokevirtual 354, 3) := by decide +kernel
theorem dX12_done_25 : decode cX12_done 25 = .ok (.bipush (-2), 2) := by decide +kernel
theorem dX12_done_27 : decode cX12_done 27 = .ok (.if_icmp .ne 6, 3) := by decide +kernel
theorem dX12_done_30 : decode cX12_done 30 = .ok (.bipush (-2), 2) := by decide +kernel
theorem dX12_done_32 : decode cX12_done 32 = .ok (.ireturn, 1) := by decide +kernel
theorem dX12_done_33 : decode cX12_done 33 = .ok (.aload_n 0, 1) := by decide +kernel
theorem dX12_done_34 : decode cX12_done 34 = .ok (.invokevirtual 357, 3) := by decide +kernel
theorem dX12_done_37 : decode cX12_done 37 = .ok (.istore 4, 2) := by decide +kernel
theorem dX12_done_39 : decode cX12_done 39 = .ok (.aload_n 0, 1) := by decide +kernel
theorem dX12_done_40 : decode cX12_done 40 = .ok (.getfield 306, 3) := by decide +kernel
theorem dX12_done_43 : decode cX12_done 43 = .ok (.iload 4, 2) := by decide +kernel
theorem dX12_done_45 : decode cX12_done 45 = .ok (.iadd, 1) := by decide +kernel
theorem dX12_done_46 : decode cX12_done 46 = .ok (.bipush 60, 2) := by decide +kernel
theorem dX12_done_48 : decode cX12_done 48 = .ok (.if_icmp .le 6, 3) := by decide +kernel
theorem dX12_done_51 : decode cX12_done 51 = .ok (.bipush (-3), 2) := by decide +kernel
theorem dX12_done_53 : decode cX12_done 53 = .ok (.ireturn, 1) := by decide +kernel
theorem dX12_done_54 : decode cX12_done 54 = .ok (.aload_n 0, 1) := by decide +kernel
theorem dX12_done_55 : decode cX12_done 55 = .ok (.getfield 320, 3) := by decide +kernel
theorem dX12_done_58 : decode cX12_done 58 = .ok (.istore 5, 2) := by decide +kernel
theorem dX12_done_60 : decode cX12_done 60 = .ok (.aload_n 0, 1) := by decide +kernel
theorem dX12_done_61 : decode cX12_done 61 = .ok (.getfield 323, 3) := by decide +kernel
theorem dX12_done_64 : decode cX12_done 64 = .ok (.iconst 1, 1) := by decide +kernel
theorem dX12_done_65 : decode cX12_done 65 = .ok (.isub, 1) := by decide +kernel
theorem dX12_done_66 : decode cX12_done 66 = .ok (.istore 6, 2) := by decide +kernel
theorem dX12_done_68 : decode cX12_done 68 = .ok (.iload 6, 2) := by decide +kernel
theorem dX12_done_70 : decode cX12_done 70 = .ok (.iconst (-1), 1) := by decide +kernel
theorem dX12_done_71 : decode cX12_done 71 = .ok (.if_icmp .lt 124, 3) := by decide +kernel
theorem dX12_done_74 : decode cX12_done 74 = .ok (.iload 6, 2) := by decide +kernel
theorem dX12_done_76 : decode cX12_done 76 = .ok (.ifCond .ge 7, 3) := by decide +kernel
theorem dX12_done_79 : decode cX12_done 79 = .ok (.iconst 0, 1) := by decide +kernel
theorem dX12_done_80 : decode cX12_done 80 = .ok (.goto 12, 3) := by decide +kernel
theorem dX12_done_83 : decode cX12_done 83 = .ok (.aload_n 0, 1) := by decide +kernel
theorem dX12_done_84 : decode cX12_done 84 = .ok (.getfield 103, 3) := by decide +kernel
theorem dX12_done_87 : decode cX12_done 87 = .ok (.iload 6, 2) := by decide +kernel
theorem dX12_done_89 : decode cX12_done 89 = .ok (.iaload, 1) := by decide +kernel
theorem dX12_done_90 : decode cX12_done 90 = .ok (.iconst 1, 1) := by decide +kernel
theorem dX12_done_91 : decode cX12_done 91 = .ok (.iadd, 1) := by decide +kernel
theorem dX12_done_92 : decode cX12_done 92 = .ok (.istore 7, 2) := by decide +kernel
theorem dX12_done_94 : decode cX12_done 94 = .ok (.iload 5, 2) := by decide +kernel
theorem dX12_done_96 : decode cX12_done 96 = .ok (.iload 7, 2) := by decide +kernel
theorem dX12_done_98 : decode cX12_done 98 = .ok (.if_icmp .le 85, 3) := by decide +kernel
theorem dX12_done_101 : decode cX12_done 101 = .ok (.iload 5, 2) := by decide +kernel
theorem dX12_done_103 : decode cX12_done 103 = .ok (.iload 7, 2) := by decide +kernel
theorem dX12_done_105 : decode cX12_done 105 = .ok (.isub, 1) := by decide +kernel
theorem dX12_done_106 : decode cX12_done 106 = .ok (.bipush 9, 2) := by decide +kernel
theorem dX12_done_108 : decode cX12_done 108 = .ok (.if_icmp .le 8, 3) := by decide +kernel
theorem dX12_done_111 : decode cX12_done 111 = .ok (.bipush 9, 2) := by decide +kernel
theorem dX12_done_113 : decode cX12_done 113 = .ok (.goto 8, 3) := by decide +kernel
theorem dX12_done_116 : decode cX12_done 116 = .ok (.iload 5, 2) := by decide +kernel
theorem dX12_done_118 : decode cX12_done 118 = .ok (.iload 7, 2) := by decide +kernel
theorem dX12_done_120 : decode cX12_done 120 = .ok (.isub, 1) := by decide +kernel
theorem dX12_done_121 : decode cX12_done 121 = .ok (.istore 8, 2) := by decide +kernel
theorem dX12_done_123 : decode cX12_done 123 = .ok (.iconst 0, 1) := by decide +kernel
theorem dX12_done_124 : decode cX12_done 124 = .ok (.istore 9, 2) := by decide +kernel
theorem dX12_done_126 : decode cX12_done 126 = .ok (.iload 5, 2) := by decide +kernel
theorem dX12_done_128 : decode cX12_done 128 = .ok (.iload 8, 2) := by decide +kernel
theorem dX12_done_130 : decode cX12_done 130 = .ok (.isub, 1) := by decide +kernel
theorem dX12_done_131 : decode cX12_done 131 = .ok (.istore 10, 2) := by decide +kernel
theorem dX12_done_133 : decode cX12_done 133 = .ok (.iload 10, 2) := by decide +kernel
theorem dX12_done_135 : decode cX12_done 135 = .ok (.iload 5, 2) := by decide +kernel
theorem dX12_done_137 : decode cX12_done 137 = .ok (.if_icmp .ge 21, 3) := by decide +kernel
theorem dX12_done_140 : decode cX12_done 140 = .ok (.iload 9, 2) := by decide +kernel
theorem dX12_done_142 : decode cX12_done 142 = .ok (.aload_n 0, 1) := by decide +kernel
theorem dX12_done_143 : decode cX12_done 143 = .ok (.getfield 97, 3) := by decide +kernel
theorem dX12_done_146 : decode cX12_done 146 = .ok (.iload 10, 2) := by decide +kernel
theorem dX12_done_148 : decode cX12_done 148 = .ok (.iaload, 1) := by decide +kernel
theorem dX12_done_149 : decode cX12_done 149 = .ok (.iadd, 1) := by decide +kernel
theorem dX12_done_150 : decode cX12_done 150 = .ok (.istore 9, 2) := by decide +kernel
theorem dX12_done_152 : decode cX12_done 152 = .ok (.iinc 10 1, 3) := by decide +kernel
theorem dX12_done_155 : decode cX12_done 155 = .ok (.goto (-22), 3) := by decide +kernel
theorem dX12_done_158 : decode cX12_done 158 = .ok (.aload_n 0, 1) := by decide +kernel
theorem dX12_done_159 : decode cX12_done 159 = .ok (.iload_n 1, 1) := by decide +kernel
theorem dX12_done_160 : decode cX12_done 160 = .ok (.iload 5, 2) := by decide +kernel
theorem dX12_done_162 : decode cX12_done 162 = .ok (.iload 8, 2) := by decide +kernel
theorem dX12_done_164 : decode cX12_done 164 = .ok (.isub, 1) := by decide +kernel
theorem dX12_done_165 : decode cX12_done 165 = .ok (.iload 8, 2) := by decide +kernel
theorem dX12_done_167 : decode cX12_done 167 = .ok (.iload_n 3, 1) := by decide +kernel
theorem dX12_done_168 : decode cX12_done 168 = .ok (.iload 9, 2) := by decide +kernel
theorem dX12_done_170 : decode cX12_done 170 = .ok (.invokevirtual 313, 3) := by decide +kernel
theorem dX12_done_173 : decode cX12_done 173 = .ok (.iload 5, 2) := by decide +kernel
theorem dX12_done_175 : decode cX12_done 175 = .ok (.iload 8, 2) := by decide +kernel
theorem dX12_done_177 : decode cX12_done 177 = .ok (.isub, 1) := by decide +kernel
theorem dX12_done_178 : decode cX12_done 178 = .ok (.istore 5, 2) := by decide +kernel
theorem dX12_done_180 : decode cX12_done 180 = .ok (.goto (-86), 3) := by decide +kernel
theorem dX12_done_183 : decode cX12_done 183 = .ok (.iload 7, 2) := by decide +kernel
theorem dX12_done_185 : decode cX12_done 185 = .ok (.iconst 1, 1) := by decide +kernel
theorem dX12_done_186 : decode cX12_done 186 = .ok (.isub, 1) := by decide +kernel
theorem dX12_done_187 : decode cX12_done 187 = .ok (.istore 5, 2) := by decide +kernel
theorem dX12_done_189 : decode cX12_done 189 = .ok (.iinc 6 (-1), 3) := by decide +kernel
theorem dX12_done_192 : decode cX12_done 192 = .ok (.goto (-124), 3) := by decide +kernel
theorem dX12_done_195 : decode cX12_done 195 = .ok (.iload 4, 2) := by decide +kernel
theorem dX12_done_197 : decode cX12_done 197 = .ok (.ireturn, 1) := by decide +kernel
theorem dX12_draw_0 : decode cX12_draw 0 = .ok (.aload_n 0, 1) := by decide +kernel
theorem dX12_draw_1 : decode cX12_draw 1 = .ok (.iload_n 1, 1) := by decide +kernel
theorem dX12_draw_2 : decode cX12_draw 2 = .ok (.invokevirtual 172, 3) := by decide +kernel
theorem dX12_draw_5 : decode cX12_draw 5 = .ok (.ifCond .eq 13, 3) := by decide +kernel
theorem dX12_draw_8 : decode cX12_draw 8 = .ok (.iload_n 2, 1) := by decide +kernel
theorem dX12_draw_9 : decode cX12_draw 9 = .ok (.iconst 1, 1) := by decide +kernel
theorem dX12_draw_10 : decode cX12_draw 10 = .ok (.bipush 40, 2) := by decide +kernel
theorem dX12_draw_12 : decode cX12_draw 12 = .ok (.invokestatic 161, 3) := by decide +kernel
theorem dX12_draw_15 : decode cX12_draw 15 = .ok (.ifCond .ne 5, 3) := by decide +kernel
theorem dX12_draw_18 : decode cX12_draw 18 = .ok (.iconst (-1), 1) := by decide +kernel
theorem dX12_draw_19 : decode cX12_draw 19 = .ok (.ireturn, 1) := by decide +kernel
theorem dX12_draw_20 : decode cX12_draw 20 = .ok (.iconst 0, 1) := by decide +kernel
theorem dX12_draw_21 : decode cX12_draw 21 = .ok (.istore_n 3, 1) := by decide +kernel
theorem dX12_draw_22 : decode cX12_draw 22 = .ok (.iconst 0, 1) := by decide +kernel
theorem dX12_draw_23 : decode cX12_draw 23 = .ok (.istore 4, 2) := by decide +kernel
theorem dX12_draw_25 : decode cX12_draw 25 = .ok (.iload 4, 2) := by decide +kernel
theorem dX12_draw_27 : decode cX12_draw 27 = .ok (.iload_n 2, 1) := by decide +kernel
theorem dX12_draw_28 : decode cX12_draw 28 = .ok (.if_icmp .ge 106, 3) := by decide +kernel
theorem dX12_draw_31 : decode cX12_draw 31 = .ok (.aload_n 0, 1) := by decide +kernel
theorem dX12_draw_32 : decode cX12_draw 32 = .ok (.iload_n 1, 1) := by decide +kernel
theorem dX12_draw_33 : decode cX12_draw 33 = .ok (.invokevirtual 175, 3) := by decide +kernel
theorem dX12_draw_36 : decode cX12_draw 36 = .ok (.iconst 1, 1) := by decide +kernel
theorem dX12_draw_37 : decode cX12_draw 37 = .ok (.if_icmp .le 97, 3) := by decide +kernel
theorem dX12_draw_40 : decode cX12_draw 40 = .ok (.aload_n 0, 1) := by decide +kernel
theorem dX12_draw_41 : decode cX12_draw 41 = .ok (.sipush 25173, 3) := by decide +kernel
theorem dX12_draw_44 : decode cX12_draw 44 = .ok (.aload_n 0, 1) := by decide +kernel
theorem dX12_draw_45 : decode cX12_draw 45 = .ok (.getfield 148, 3) := by decide +kernel
theorem dX12_draw_48 : decode cX12_draw 48 = .ok (.imul, 1) := by decide +kernel
theorem dX12_draw_49 : decode cX12_draw 49 = .ok (.sipush 13849, 3) := by decide +kernel
theorem dX12_draw_52 : decode cX12_draw 52 = .ok (.iadd, 1) := by decide +kernel
theorem dX12_draw_53 : decode cX12_draw 53 = .ok (.ldc_w 464, 3) := by decide +kernel
theorem dX12_draw_56 : decode cX12_draw 56 = .ok (.irem, 1) := by decide +kernel
theorem dX12_draw_57 : decode cX12_draw 57 = .ok (.putfield 148, 3) := by decide +kernel
theorem dX12_draw_60 : decode cX12_draw 60 = .ok (.aload_n 0, 1) := by decide +kernel
theorem dX12_draw_61 : decode cX12_draw 61 = .ok (.getfield 148, 3) := by decide +kernel
theorem dX12_draw_64 : decode cX12_draw 64 = .ok (.aload_n 0, 1) := by decide +kernel
theorem dX12_draw_65 : decode cX12_draw 65 = .ok (.iload_n 1, 1) := by decide +kernel
theorem dX12_draw_66 : decode cX12_draw 66 = .ok (.invokevirtual 175, 3) := by decide +kernel
theorem dX12_draw_69 : decode cX12_draw 69 = .ok (.irem, 1) := by decide +kernel
theorem dX12_draw_70 : decode cX12_draw 70 = .ok (.istore 5, 2) := by decide +kernel
theorem dX12_draw_72 : decode cX12_draw 72 = .ok (.aload_n 0, 1) := by decide +kernel
theorem dX12_draw_73 : decode cX12_draw 73 = .ok (.getfield 148, 3) := by decide +kernel
theorem dX12_draw_76 : decode cX12_draw 76 = .ok (.bipush 8, 2) := by decide +kernel
theorem dX12_draw_78 : decode cX12_draw 78 = .ok (.irem, 1) := by decide +kernel
theorem dX12_draw_79 : decode cX12_draw 79 = .ok (.istore 6, 2) := by decide +kernel
theorem dX12_draw_81 : decode cX12_draw 81 = .ok (.aload_n 0, 1) := by decide +kernel
theorem dX12_draw_82 : decode cX12_draw 82 = .ok (.getfield 306, 3) := by decide +kernel
theorem dX12_draw_85 : decode cX12_draw 85 = .ok (.bipush 60, 2) := by decide +kernel
theorem dX12_draw_87 : decode cX12_draw 87 = .ok (.if_icmp .eq 41, 3) := by decide +kernel
theorem dX12_draw_90 : decode cX12_draw 90 = .ok (.aload_n 0, 1) := by decide +kernel
theorem dX12_draw_91 : decode cX12_draw 91 = .ok (.iload_n 1, 1) := by decide +kernel
theorem dX12_draw_92 : decode cX12_draw 92 = .ok (.iload 5, 2) := by decide +kernel
theorem dX12_draw_94 : decode cX12_draw 94 = .ok (.iload 6, 2) := by decide +kernel
theorem dX12_draw_96 : decode cX12_draw 96 = .ok (.invokevirtual 303, 3) := by decide +kernel
theorem dX12_draw_99 : decode cX12_draw 99 = .ok (.ifCond .ne 6, 3) := by decide +kernel
theorem dX12_draw_102 : decode cX12_draw 102 = .ok (.goto 26, 3) := by decide +kernel
theorem dX12_draw_105 : decode cX12_draw 105 = .ok (.aload_n 0, 1) := by decide +kernel
theorem dX12_draw_106 : decode cX12_draw 106 = .ok (.iload_n 1, 1) := by decide +kernel
theorem dX12_draw_107 : decode cX12_draw 107 = .ok (.iload 5, 2) := by decide +kernel
theorem dX12_draw_109 : decode cX12_draw 109 = .ok (.iconst 1, 1) := by decide +kernel
theorem dX12_draw_110 : decode cX12_draw 110 = .ok (.iload 6, 2) := by decide +kernel
theorem dX12_draw_112 : decode cX12_draw 112 = .ok (.aload_n 0, 1) := by decide +kernel
theorem dX12_draw_113 : decode cX12_draw 113 = .ok (.iload_n 1, 1) := by decide +kernel
theorem dX12_draw_114 : decode cX12_draw 114 = .ok (.iload 5, 2) := by decide +kernel
theorem dX12_draw_116 : decode cX12_draw 116 = .ok (.iload 6, 2) := by decide +kernel
theorem dX12_draw_118 : decode cX12_draw 118 = .ok (.invokevirtual 300, 3) := by decide +kernel
theorem dX12_draw_121 : decode cX12_draw 121 = .ok (.invokevirtual 313, 3) := by decide +kernel
theorem dX12_draw_124 : decode cX12_draw 124 = .ok (.iload_n 3, 1) := by decide +kernel
theorem dX12_draw_125 : decode cX12_draw 125 = .ok (.iconst 1, 1) := by decide +kernel
theorem dX12_draw_126 : decode cX12_draw 126 = .ok (.iadd, 1) := by decide +kernel
theorem dX12_draw_127 : decode cX12_draw 127 = .ok (.istore_n 3, 1) := by decide +kernel
theorem dX12_draw_128 : decode cX12_draw 128 = .ok (.iinc 4 1, 3) := by decide +kernel
theorem dX12_draw_131 : decode cX12_draw 131 = .ok (.goto (-106), 3) := by decide +kernel
theorem dX12_draw_134 : decode cX12_draw 134 = .ok (.iload_n 3, 1) := by decide +kernel
theorem dX12_draw_135 : decode cX12_draw 135 = .ok (.ireturn, 1) := by decide +kernel
theorem dX12_endsPiece_0 : decode cX12_endsPiece 0 = .ok (.aload_n 0, 1) := by decide +kernel
theorem dX12_endsPiece_1 : decode cX12_endsPiece 1 = .ok (.invokevirtual 221, 3) := by decide +kernel
theorem dX12_endsPiece_4 : decode cX12_endsPiece 4 = .ok (.bipush 10, 2) := by decide +kernel
theorem dX12_endsPiece_6 : decode cX12_endsPiece 6 = .ok (.if_icmp .ne 33, 3) := by decide +kernel
theorem dX12_endsPiece_9 : decode cX12_endsPiece 9 = .ok (.aload_n 0, 1) := by decide +kernel
theorem dX12_endsPiece_10 : decode cX12_endsPiece 10 = .ok (.bipush 10, 2) := by decide +kernel
theorem dX12_endsPiece_12 : decode cX12_endsPiece 12 = .ok (.iconst 0, 1) := by decide +kernel
theorem dX12_endsPiece_13 : decode cX12_endsPiece 13 = .ok (.invokevirtual 224, 3) := by decide +kernel
theorem dX12_endsPiece_16 : decode cX12_endsPiece 16 = .ok (.aload_n 0, 1) := by decide +kernel
theorem dX12_endsPiece_17 : decode cX12_endsPiece 17 = .ok (.aload_n 0, 1) := by decide +kernel
theorem dX12_endsPiece_18 : decode cX12_endsPiece 18 = .ok (.getfield 218, 3) := by decide +kernel
theorem dX12_endsPiece_21 : decode cX12_endsPiece 21 = .ok (.iconst 1, 1) := by decide +kernel
theorem dX12_endsPiece_22 : decode cX12_endsPiece 22 = .ok (.isub, 1) := by decide +kernel
theorem dX12_endsPiece_23 : decode cX12_endsPiece 23 = .ok (.putfield 218, 3) := by decide +kernel
theorem dX12_endsPiece_26 : decode cX12_endsPiece 26 = .ok (.aload_n 0, 1) := by decide +kernel
theorem dX12_endsPiece_27 : decode cX12_endsPiece 27 = .ok (.aload_n 0, 1) := by decide +kernel
theorem dX12_endsPiece_28 : decode cX12_endsPiece 28 = .ok (.getfield 215, 3) := by decide +kernel
theorem dX12_endsPiece_31 : decode cX12_endsPiece 31 = .ok (.iconst 1, 1) := by decide +kernel
theorem dX12_endsPiece_32 : decode cX12_endsPiece 32 = .ok (.isub, 1) := by decide +kernel
theorem dX12_endsPiece_33 : decode cX12_endsPiece 33 = .ok (.putfield 215, 3) := by decide +kernel
theorem dX12_endsPiece_36 : decode cX12_endsPiece 36 = .ok (.goto (-36), 3) := by decide +kernel
theorem dX12_endsPiece_39 : decode cX12_endsPiece 39 = .ok (.return_, 1) := by decide +kernel
theorem dX12_even_0 : decode cX12_even 0 = .ok (.aload_n 0, 1) := by decide +kernel
theorem dX12_even_1 : decode cX12_even 1 = .ok (.iload_n 1, 1) := by decide +kernel
theorem dX12_even_2 : decode cX12_even 2 = .ok (.iload_n 2, 1) := by decide +kernel
theorem dX12_even_3 : decode cX12_even 3 = .ok (.invokevirtual 329, 3) := by decide +kernel
theorem dX12_even_6 : decode cX12_even 6 = .ok (.ifCond .eq 13, 3) := by decide +kernel
theorem dX12_even_9 : decode cX12_even 9 = .ok (.iload_n 3, 1) := by decide +kernel
theorem dX12_even_10 : decode cX12_even 10 = .ok (.iconst 1, 1) := by decide +kernel
theorem dX12_even_11 : decode cX12_even 11 = .ok (.bipush 9, 2) := by decide +kernel
theorem dX12_even_13 : decode cX12_even 13 = .ok (.invokestatic 161, 3) := by decide +kernel
theorem dX12_even_16 : decode cX12_even 16 = .ok (.ifCond .ne 7, 3) := by decide +kernel
theorem dX12_even_19 : decode cX12_even 19 = .ok (.ldc2_w 332, 3) := by decide +kernel
theorem dX12_even_22 : decode cX12_even 22 = .ok (.lreturn, 1) := by decide +kernel
theorem dX12_even_23 : decode cX12_even 23 = .ok (.aload_n 0, 1) := by decide +kernel
theorem dX12_even_24 : decode cX12_even 24 = .ok (.iload_n 1, 1) := by decide +kernel
theorem dX12_even_25 : decode cX12_even 25 = .ok (.iconst 0, 1) := by decide +kernel
theorem dX12_even_26 : decode cX12_even 26 = .ok (.invokevirtual 334, 3) := by decide +kernel
theorem dX12_even_29 : decode cX12_even 29 = .ok (.aload_n 0, 1) := by decide +kernel
theorem dX12_even_30 : decode cX12_even 30 = .ok (.iload_n 2, 1) := by decide +kernel
theorem dX12_even_31 : decode cX12_even 31 = .ok (.invokevirtual 338, 3) := by decide +kernel
theorem dX12_even_34 : decode cX12_even 34 = .ok (.iconst 0, 1) := by decide +kernel
theorem dX12_even_35 : decode cX12_even 35 = .ok (.istore 4, 2) := by decide +kernel
theorem dX12_even_37 : decode cX12_even 37 = .ok (.iload 4, 2) := by decide +kernel
theorem dX12_even_39 : decode cX12_even 39 = .ok (.aload_n 0, 1) := by decide +kernel
theorem dX12_even_40 : decode cX12_even 40 = .ok (.getfield 323, 3) := by decide +kernel
theorem dX12_even_43 : decode cX12_even 43 = .ok (.if_icmp .gt 142, 3) := by decide +kernel
theorem dX12_even_46 : decode cX12_even 46 = .ok (.iconst 0, 1) := by decide +kernel
theorem dX12_even_47 : decode cX12_even 47 = .ok (.istore 5, 2) := by decide +kernel
theorem dX12_even_49 : decode cX12_even 49 = .ok (.iload 5, 2) := by decide +kernel
theorem dX12_even_51 : decode cX12_even 51 = .ok (.aload_n 0, 1) := by decide +kernel
theorem dX12_even_52 : decode cX12_even 52 = .ok (.getfield 320, 3) := by decide +kernel
theorem dX12_even_55 : decode cX12_even 55 = .ok (.if_icmp .gt 124, 3) := by decide +kernel
theorem dX12_even_58 : decode cX12_even 58 = .ok (.iload 4, 2) := by decide +kernel
theorem dX12_even_60 : decode cX12_even 60 = .ok (.ifCond .ne 12, 3) := by decide +kernel
theorem dX12_even_63 : decode cX12_even 63 = .ok (.iload 5, 2) := by decide +kernel
theorem dX12_even_65 : decode cX12_even 65 = .ok (.ifCond .ne 7, 3) := by decide +kernel
theorem dX12_even_68 : decode cX12_even 68 = .ok (.lconst 1, 1) := by decide +kernel
theorem dX12_even_69 : decode cX12_even 69 = .ok (.goto 4, 3) := by decide +kernel
theorem dX12_even_72 : decode cX12_even 72 = .ok (.lconst 0, 1) := by decide +kernel
theorem dX12_even_73 : decode cX12_even 73 = .ok (.lstore 6, 2) := by decide +kernel
theorem dX12_even_75 : decode cX12_even 75 = .ok (.iload 4, 2) := by decide +kernel
theorem dX12_even_77 : decode cX12_even 77 = .ok (.ifCond .le 81, 3) := by decide +kernel
theorem dX12_even_80 : decode cX12_even 80 = .ok (.iload 5, 2) := by decide +kernel
theorem dX12_even_82 : decode cX12_even 82 = .ok (.ifCond .le 76, 3) := by decide +kernel
theorem dX12_even_85 : decode cX12_even 85 = .ok (.aload_n 0, 1) := by decide +kernel
theorem dX12_even_86 : decode cX12_even 86 = .ok (.getfield 87, 3) := by decide +kernel
theorem dX12_even_89 : decode cX12_even 89 = .ok (.iload 5, 2) := by decide +kernel
theorem dX12_even_91 : decode cX12_even 91 = .ok (.iconst 1, 1) := by decide +kernel
theorem dX12_even_92 : decode cX12_even 92 = .ok (.isub, 1) := by decide +kernel
theorem dX12_even_93 : decode cX12_even 93 = .ok (.iaload, 1) := by decide +kernel
theorem dX12_even_94 : decode cX12_even 94 = .ok (.aload_n 0, 1) := by decide +kernel
theorem dX12_even_95 : decode cX12_even 95 = .ok (.getfield 90, 3) := by decide +kernel
theorem dX12_even_98 : decode cX12_even 98 = .ok (.iload 4, 2) := by decide +kernel
theorem dX12_even_100 : decode cX12_even 100 = .ok (.iconst 1, 1) := by decide +kernel
theorem dX12_even_101 : decode cX12_even 101 = .ok (.isub, 1) := by decide +kernel
theorem dX12_even_102 : decode cX12_even 102 = .ok (.iaload, 1) := by decide +kernel
theorem dX12_even_103 : decode cX12_even 103 = .ok (.if_icmp .ne 55, 3) := by decide +kernel
theorem dX12_even_106 : decode cX12_even 106 = .ok (.iconst 0, 1) := by decide +kernel
theorem dX12_even_107 : decode cX12_even 107 = .ok (.istore 8, 2) := by decide +kernel
theorem dX12_even_109 : decode cX12_even 109 = .ok (.iload 8, 2) := by decide +kernel
theorem dX12_even_111 : decode cX12_even 111 = .ok (.iload 5, 2) := by decide +kernel
theorem dX12_even_113 : decode cX12_even 113 = .ok (.if_icmp .ge 45, 3) := by decide +kernel
theorem dX12_even_116 : decode cX12_even 116 = .ok (.lload 6, 2) := by decide +kernel
theorem dX12_even_118 : decode cX12_even 118 = .ok (.iload 5, 2) := by decide +kernel
theorem dX12_even_120 : decode cX12_even 120 = .ok (.iconst 1, 1) := by decide +kernel
theorem dX12_even_121 : decode cX12_even 121 = .ok (.isub, 1) := by decide +kernel
theorem dX12_even_122 : decode cX12_even 122 = .ok (.iload 8, 2) := by decide +kernel
theorem dX12_even_124 : decode cX12_even 124 = .ok (.isub, 1) := by decide +kernel
theorem dX12_even_125 : decode cX12_even 125 = .ok (.iload_n 3, 1) := by decide +kernel
theorem dX12_even_126 : decode cX12_even 126 = .ok (.irem, 1) := by decide +kernel
theorem dX12_even_127 : decode cX12_even 127 = .ok (.ifCond .ne 21, 3) := by decide +kernel
theorem dX12_even_130 : decode cX12_even 130 = .ok (.aload_n 0, 1) := by decide +kernel
theorem dX12_even_131 : decode cX12_even 131 = .ok (.getfield 109, 3) := by decide +kernel
theorem dX12_even_134 : decode cX12_even 134 = .ok (.bipush 17, 2) := by decide +kernel
theorem dX12_even_136 : decode cX12_even 136 = .ok (.iload 8, 2) := by decide +kernel
theorem dX12_even_138 : decode cX12_even 138 = .ok (.imul, 1) := by decide +kernel
theorem dX12_even_139 : decode cX12_even 139 = .ok (.iload 4, 2) := by decide +kernel
theorem dX12_even_141 : decode cX12_even 141 = .ok (.iadd, 1) := by decide +kernel
theorem dX12_even_142 : decode cX12_even 142 = .ok (.iconst 1, 1) := by decide +kernel
theorem dX12_even_143 : decode cX12_even 143 = .ok (.isub, 1) := by decide +kernel
theorem dX12_even_144 : decode cX12_even 144 = .ok (.laload, 1) := by decide +kernel
theorem dX12_even_145 : decode cX12_even 145 = .ok (.goto 4, 3) := by decide +kernel
theorem dX12_even_148 : decode cX12_even 148 = .ok (.lconst 0, 1) := by decide +kernel
theorem dX12_even_149 : decode cX12_even 149 = .ok (.ladd, 1) := by decide +kernel
theorem dX12_even_150 : decode cX12_even 150 = .ok (.lstore 6, 2) := by decide +kernel
theorem dX12_even_152 : decode cX12_even 152 = .ok (.iinc 8 1, 3) := by decide +kernel
theorem dX12_even_155 : decode cX12_even 155 = .ok (.goto (-46), 3) := by decide +kernel
theorem dX12_even_158 : decode cX12_even 158 = .ok (.aload_n 0, 1) := by decide +kernel
theorem dX12_even_159 : decode cX12_even 159 = .ok (.getfield 109, 3) := by decide +kernel
theorem dX12_even_162 : decode cX12_even 162 = .ok (.bipush 17, 2) := by decide +kernel
theorem dX12_even_164 : decode cX12_even 164 = .ok (.iload 5, 2) := by decide +kernel
theorem dX12_even_166 : decode cX12_even 166 = .ok (.imul, 1) := by decide +kernel
theorem dX12_even_167 : decode cX12_even 167 = .ok (.iload 4, 2) := by decide +kernel
theorem dX12_even_169 : decode cX12_even 169 = .ok (.iadd, 1) := by decide +kernel
theorem dX12_even_170 : decode cX12_even 170 = .ok (.lload 6, 2) := by decide +kernel
theorem dX12_even_172 : decode cX12_even 172 = .ok (.lastore, 1) := by decide +kernel
theorem dX12_even_173 : decode cX12_even 173 = .ok (.iinc 5 1, 3) := by decide +kernel
theorem dX12_even_176 : decode cX12_even 176 = .ok (.goto (-127), 3) := by decide +kernel
theorem dX12_even_179 : decode cX12_even 179 = .ok (.iinc 4 1, 3) := by decide +kernel
theorem dX12_even_182 : decode cX12_even 182 = .ok (.goto (-145), 3) := by decide +kernel
theorem dX12_even_185 : decode cX12_even 185 = .ok (.lconst 0, 1) := by decide +kernel
theorem dX12_even_186 : decode cX12_even 186 = .ok (.lstore 4, 2) := by decide +kernel
theorem dX12_even_188 : decode cX12_even 188 = .ok (.iconst 0, 1) := by decide +kernel
theorem dX12_even_189 : decode cX12_even 189 = .ok (.istore 6, 2) := by decide +kernel
theorem dX12_even_191 : decode cX12_even 191 = .ok (.iload 6, 2) := by decide +kernel
theorem dX12_even_193 : decode cX12_even 193 = .ok (.aload_n 0, 1) := by decide +kernel
theorem dX12_even_194 : decode cX12_even 194 = .ok (.getfield 320, 3) := by decide +kernel
theorem dX12_even_197 : decode cX12_even 197 = .ok (.if_icmp .gt 45, 3) := by decide +kernel
theorem dX12_even_200 : decode cX12_even 200 = .ok (.lload 4, 2) := by decide +kernel
theorem dX12_even_202 : decode cX12_even 202 = .ok (.aload_n 0, 1) := by decide +kernel
theorem dX12_even_203 : decode cX12_even 203 = .ok (.getfield 320, 3) := by decide +kernel
theorem dX12_even_206 : decode cX12_even 206 = .ok (.iload 6, 2) := by decide +kernel
theorem dX12_even_208 : decode cX12_even 208 = .ok (.isub, 1) := by decide +kernel
theorem dX12_even_209 : decode cX12_even 209 = .ok (.iload_n 3, 1) := by decide +kernel
theorem dX12_even_210 : decode cX12_even 210 = .ok (.irem, 1) := by decide +kernel
theorem dX12_even_211 : decode cX12_even 211 = .ok (.ifCond .ne 21, 3) := by decide +kernel
theorem dX12_even_214 : decode cX12_even 214 = .ok (.aload_n 0, 1) := by decide +kernel
theorem dX12_even_215 : decode cX12_even 215 = .ok (.getfield 109, 3) := by decide +kernel
theorem dX12_even_218 : decode cX12_even 218 = .ok (.bipush 17, 2) := by decide +kernel
theorem dX12_even_220 : decode cX12_even 220 = .ok (.iload 6, 2) := by decide +kernel
theorem dX12_even_222 : decode cX12_even 222 = .ok (.imul, 1) := by decide +kernel
theorem dX12_even_223 : decode cX12_even 223 = .ok (.aload_n 0, 1) := by decide +kernel
theorem dX12_even_224 : decode cX12_even 224 = .ok (.getfield 323, 3) := by decide +kernel
theorem dX12_even_227 : decode cX12_even 227 = .ok (.iadd, 1) := by decide +kernel
theorem dX12_even_228 : decode cX12_even 228 = .ok (.laload, 1) := by decide +kernel
theorem dX12_even_229 : decode cX12_even 229 = .ok (.goto 4, 3) := by decide +kernel
theorem dX12_even_232 : decode cX12_even 232 = .ok (.lconst 0, 1) := by decide +kernel
theorem dX12_even_233 : decode cX12_even 233 = .ok (.ladd, 1) := by decide +kernel
theorem dX12_even_234 : decode cX12_even 234 = .ok (.lstore 4, 2) := by decide +kernel
theorem dX12_even_236 : decode cX12_even 236 = .ok (.iinc 6 1, 3) := by decide +kernel
theorem dX12_even_239 : decode cX12_even 239 = .ok (.goto (-48), 3) := by decide +kernel
theorem dX12_even_242 : decode cX12_even 242 = .ok (.lload 4, 2) := by decide +kernel
theorem dX12_even_244 : decode cX12_even 244 = .ok (.lreturn, 1) := by decide +kernel
theorem dX12_factOf_0 : decode cX12_factOf 0 = .ok (.iload_n 0, 1) := by decide +kernel
theorem dX12_factOf_1 : decode cX12_factOf 1 = .ok (.tableswitch 127 98 119 #[118, 127, 115, 127, 121, 124, 127, 105, 127, 113, 103, 109, 127, 111, 127, 127, 127, 127, 127, 127, 127, 107], 103) := by decide +kernel
theorem dX12_factOf_104 : decode cX12_factOf 104 = .ok (.iconst 0, 1) := by decide +kernel
theorem dX12_factOf_105 : decode cX12_factOf 105 = .ok (.ireturn, 1) := by decide +kernel
theorem dX12_factOf_106 : decode cX12_factOf 106 = .ok (.iconst 1, 1) := by decide +kernel
theorem dX12_factOf_107 : decode cX12_factOf 107 = .ok (.ireturn, 1) := by decide +kernel
theorem dX12_factOf_108 : decode cX12_factOf 108 = .ok (.iconst 2, 1) := by decide +kernel
theorem dX12_factOf_109 : decode cX12_factOf 109 = .ok (.ireturn, 1) := by decide +kernel
theorem dX12_factOf_110 : decode cX12_factOf 110 = .ok (.iconst 3, 1) := by decide +kernel
theorem dX12_factOf_111 : decode cX12_factOf 111 = .ok (.ireturn, 1) := by decide +kernel
theorem dX12_factOf_112 : decode cX12_factOf 112 = .ok (.iconst 4, 1) := by decide +kernel
theorem dX12_factOf_113 : decode cX12_factOf 113 = .ok (.ireturn, 1) := by decide +kernel
theorem dX12_factOf_114 : decode cX12_factOf 114 = .ok (.iconst 5, 1) := by decide +kernel
theorem dX12_factOf_115 : decode cX12_factOf 115 = .ok (.ireturn, 1) := by decide +kernel
theorem dX12_factOf_116 : decode cX12_factOf 116 = .ok (.bipush 6, 2) := by decide +kernel
theorem dX12_factOf_118 : decode cX12_factOf 118 = .ok (.ireturn, 1) := by decide +kernel
theorem dX12_factOf_119 : decode cX12_factOf 119 = .ok (.bipush 7, 2) := by decide +kernel
theorem dX12_factOf_121 : decode cX12_factOf 121 = .ok (.ireturn, 1) := by decide +kernel
theorem dX12_factOf_122 : decode cX12_factOf 122 = .ok (.bipush 8, 2) := by decide +kernel
theorem dX12_factOf_124 : decode cX12_factOf 124 = .ok (.ireturn, 1) := by decide +kernel
theorem dX12_factOf_125 : decode cX12_factOf 125 = .ok (.bipush 9, 2) := by decide +kernel
theorem dX12_factOf_127 : decode cX12_factOf 127 = .ok (.ireturn, 1) := by decide +kernel
theorem dX12_factOf_128 : decode cX12_factOf 128 = .ok (.iconst (-1), 1) := by decide +kernel
theorem dX12_factOf_129 : decode cX12_factOf 129 = .ok (.ireturn, 1) := by decide +kernel
theorem dX12_family_0 : decode cX12_family 0 = .ok (.aload_n 0, 1) := by decide +kernel
theorem dX12_family_1 : decode cX12_family 1 = .ok (.iload_n 1, 1) := by decide +kernel
theorem dX12_family_2 : decode cX12_family 2 = .ok (.invokevirtual 172, 3) := by decide +kernel
theorem dX12_family_5 : decode cX12_family 5 = .ok (.ifCond .eq 36, 3) := by decide +kernel
theorem dX12_family_8 : decode cX12_family 8 = .ok (.aload_n 0, 1) := by decide +kernel
theorem dX12_family_9 : decode cX12_family 9 = .ok (.iload_n 2, 1) := by decide +kernel
theorem dX12_family_10 : decode cX12_family 10 = .ok (.invokevirtual 420, 3) := by decide +kernel
theorem dX12_family_13 : decode cX12_family 13 = .ok (.ifCond .eq 28, 3) := by decide +kernel
theorem dX12_family_16 : decode cX12_family 16 = .ok (.iload_n 2, 1) := by decide +kernel
theorem dX12_family_17 : decode cX12_family 17 = .ok (.ifCond .eq 24, 3) := by decide +kernel
theorem dX12_family_20 : decode cX12_family 20 = .ok (.iload_n 3, 1) := by decide +kernel
theorem dX12_family_21 : decode cX12_family 21 = .ok (.iconst 1, 1) := by decide +kernel
theorem dX12_family_22 : decode cX12_family 22 = .ok (.bipush 9, 2) := by decide +kernel
theorem dX12_family_24 : decode cX12_family 24 = .ok (.invokestatic 161, 3) := by decide +kernel
theorem dX12_family_27 : decode cX12_family 27 = .ok (.ifCond .eq 14, 3) := by decide +kernel
theorem dX12_family_30 : decode cX12_family 30 = .ok (.iload 4, 2) := by decide +kernel
theorem dX12_family_32 : decode cX12_family 32 = .ok (.iconst (-1), 1) := by decide +kernel
theorem dX12_family_33 : decode cX12_family 33 = .ok (.bipush 7, 2) := by decide +kernel
theorem dX12_family_35 : decode cX12_family 35 = .ok (.invokestatic 161, 3) := by decide +kernel
theorem dX12_family_38 : decode cX12_family 38 = .ok (.ifCond .ne 5, 3) := by decide +kernel
theorem dX12_family_41 : decode cX12_family 41 = .ok (.iconst (-1), 1) := by decide +kernel
theorem dX12_family_42 : decode cX12_family 42 = .ok (.ireturn, 1) := by decide +kernel
theorem dX12_family_43 : decode cX12_family 43 = .ok (.aload_n 0, 1) := by decide +kernel
theorem dX12_family_44 : decode cX12_family 44 = .ok (.iload_n 1, 1) := by decide +kernel
theorem dX12_family_45 : decode cX12_family 45 = .ok (.iconst 1, 1) := by decide +kernel
theorem dX12_family_46 : decode cX12_family 46 = .ok (.invokevirtual 334, 3) := by decide +kernel
theorem dX12_family_49 : decode cX12_family 49 = .ok (.aload_n 0, 1) := by decide +kernel
theorem dX12_family_50 : decode cX12_family 50 = .ok (.iload_n 2, 1) := by decide +kernel
theorem dX12_family_51 : decode cX12_family 51 = .ok (.iconst (-1), 1) := by decide +kernel
theorem dX12_family_52 : decode cX12_family 52 = .ok (.invokevirtual 423, 3) := by decide +kernel
theorem dX12_family_55 : decode cX12_family 55 = .ok (.ifCond .eq 18, 3) := by decide +kernel
theorem dX12_family_58 : decode cX12_family 58 = .ok (.iload 4, 2) := by decide +kernel
theorem dX12_family_60 : decode cX12_family 60 = .ok (.iconst (-1), 1) := by decide +kernel
theorem dX12_family_61 : decode cX12_family 61 = .ok (.if_icmp .eq 15, 3) := by decide +kernel
theorem dX12_family_64 : decode cX12_family 64 = .ok (.iload_n 2, 1) := by decide +kernel
theorem dX12_family_65 : decode cX12_family 65 = .ok (.iload 4, 2) := by decide +kernel
theorem dX12_family_67 : decode cX12_family 67 = .ok (.ishr, 1) := by decide +kernel
theorem dX12_family_68 : decode cX12_family 68 = .ok (.iconst 1, 1) := by decide +kernel
theorem dX12_family_69 : decode cX12_family 69 = .ok (.iand, 1) := by decide +kernel
theorem dX12_family_70 : decode cX12_family 70 = .ok (.ifCond .ne 6, 3) := by decide +kernel
theorem dX12_family_73 : decode cX12_family 73 = .ok (.bipush (-2), 2) := by decide +kernel
theorem dX12_family_75 : decode cX12_family 75 = .ok (.ireturn, 1) := by decide +kernel
