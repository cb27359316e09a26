theorem dX3_init_0 : decode cX3_init 0 = .ok (.aload_n 0, 1) := by decide +kernel
theorem dX3_init_1 : decode cX3_init 1 = .ok (.invokespecial 1, 3) := by decide +kernel
theorem dX3_init_4 : decode cX3_init 4 = .ok (.aload_n 0, 1) := by decide +kernel
theorem dX3_init_5 : decode cX3_init 5 = .ok (.iconst (-1), 1) := by decide +kernel
theorem dX3_init_6 : decode cX3_init 6 = .ok (.putfield 9, 3) := by decide +kernel
theorem dX3_init_9 : decode cX3_init 9 = .ok (.aload_n 0, 1) := by decide +kernel
theorem dX3_init_10 : decode cX3_init 10 = .ok (.aload_n 1, 1) := by decide +kernel
theorem dX3_init_11 : decode cX3_init 11 = .ok (.putfield 13, 3) := by decide +kernel
theorem dX3_init_14 : decode cX3_init 14 = .ok (.aload_n 0, 1) := by decide +kernel
theorem dX3_init_15 : decode cX3_init 15 = .ok (.iload_n 2, 1) := by decide +kernel
theorem dX3_init_16 : decode cX3_init 16 = .ok (.putfield 17, 3) := by decide +kernel
theorem dX3_init_19 : decode cX3_init 19 = .ok (.aload_n 0, 1) := by decide +kernel
theorem dX3_init_20 : decode cX3_init 20 = .ok (.iload_n 3, 1) := by decide +kernel
theorem dX3_init_21 : decode cX3_init 21 = .ok (.putfield 20, 3) := by decide +kernel
theorem dX3_init_24 : decode cX3_init 24 = .ok (.aload_n 0, 1) := by decide +kernel
theorem dX3_init_25 : decode cX3_init 25 = .ok (.iload 4, 2) := by decide +kernel
theorem dX3_init_27 : decode cX3_init 27 = .ok (.putfield 23, 3) := by decide +kernel
theorem dX3_init_30 : decode cX3_init 30 = .ok (.aload_n 0, 1) := by decide +kernel
theorem dX3_init_31 : decode cX3_init 31 = .ok (.iload 5, 2) := by decide +kernel
theorem dX3_init_33 : decode cX3_init 33 = .ok (.putfield 26, 3) := by decide +kernel
theorem dX3_init_36 : decode cX3_init 36 = .ok (.aload_n 0, 1) := by decide +kernel
theorem dX3_init_37 : decode cX3_init 37 = .ok (.iload 6, 2) := by decide +kernel
theorem dX3_init_39 : decode cX3_init 39 = .ok (.putfield 29, 3) := by decide +kernel
theorem dX3_init_42 : decode cX3_init 42 = .ok (.aload_n 0, 1) := by decide +kernel
theorem dX3_init_43 : decode cX3_init 43 = .ok (.bipush 20, 2) := by decide +kernel
theorem dX3_init_45 : decode cX3_init 45 = .ok (.iconst 4, 1) := by decide +kernel
theorem dX3_init_46 : decode cX3_init 46 = .ok (.iload 5, 2) := by decide +kernel
theorem dX3_init_48 : decode cX3_init 48 = .ok (.iload_n 3, 1) := by decide +kernel
theorem dX3_init_49 : decode cX3_init 49 = .ok (.isub, 1) := by decide +kernel
theorem dX3_init_50 : decode cX3_init 50 = .ok (.bipush 8, 2) := by decide +kernel
theorem dX3_init_52 : decode cX3_init 52 = .ok (.idiv, 1) := by decide +kernel
theorem dX3_init_53 : decode cX3_init 53 = .ok (.iadd, 1) := by decide +kernel
theorem dX3_init_54 : decode cX3_init 54 = .ok (.invokestatic 32, 3) := by decide +kernel
theorem dX3_init_57 : decode cX3_init 57 = .ok (.putfield 38, 3) := by decide +kernel
theorem dX3_init_60 : decode cX3_init 60 = .ok (.aload_n 0, 1) := by decide +kernel
theorem dX3_init_61 : decode cX3_init 61 = .ok (.iload_n 2, 1) := by decide +kernel
theorem dX3_init_62 : decode cX3_init 62 = .ok (.invokestatic 41, 3) := by decide +kernel
theorem dX3_init_65 : decode cX3_init 65 = .ok (.putfield 47, 3) := by decide +kernel
theorem dX3_init_68 : decode cX3_init 68 = .ok (.return_, 1) := by decide +kernel
theorem dX3_candidateCount_0 : decode cX3_candidateCount 0 = .ok (.aload_n 0, 1) := by decide +kernel
theorem dX3_candidateCount_1 : decode cX3_candidateCount 1 = .ok (.getfield 13, 3) := by decide +kernel
theorem dX3_candidateCount_4 : decode cX3_candidateCount 4 = .ok (.getfield 51, 3) := by decide +kernel
theorem dX3_candidateCount_7 : decode cX3_candidateCount 7 = .ok (.ifCond .eq 8, 3) := by decide +kernel
theorem dX3_candidateCount_10 : decode cX3_candidateCount 10 = .ok (.bipush 8, 2) := by decide +kernel
theorem dX3_candidateCount_12 : decode cX3_candidateCount 12 = .ok (.goto 5, 3) := by decide +kernel
theorem dX3_candidateCount_15 : decode cX3_candidateCount 15 = .ok (.bipush 24, 2) := by decide +kernel
theorem dX3_candidateCount_17 : decode cX3_candidateCount 17 = .ok (.ireturn, 1) := by decide +kernel
theorem dX3_badness_0 : decode cX3_badness 0 = .ok (.iconst 4, 1) := by decide +kernel
theorem dX3_badness_1 : decode cX3_badness 1 = .ok (.iload_n 1, 1) := by decide +kernel
theorem dX3_badness_2 : decode cX3_badness 2 = .ok (.bipush 8, 2) := by decide +kernel
theorem dX3_badness_4 : decode cX3_badness 4 = .ok (.irem, 1) := by decide +kernel
theorem dX3_badness_5 : decode cX3_badness 5 = .ok (.imul, 1) := by decide +kernel
theorem dX3_badness_6 : decode cX3_badness 6 = .ok (.istore_n 2, 1) := by decide +kernel
theorem dX3_badness_7 : decode cX3_badness 7 = .ok (.iload_n 1, 1) := by decide +kernel
theorem dX3_badness_8 : decode cX3_badness 8 = .ok (.bipush 8, 2) := by decide +kernel
theorem dX3_badness_10 : decode cX3_badness 10 = .ok (.idiv, 1) := by decide +kernel
theorem dX3_badness_11 : decode cX3_badness 11 = .ok (.istore_n 3, 1) := by decide +kernel
theorem dX3_badness_12 : decode cX3_badness 12 = .ok (.iload_n 2, 1) := by decide +kernel
theorem dX3_badness_13 : decode cX3_badness 13 = .ok (.iload_n 2, 1) := by decide +kernel
theorem dX3_badness_14 : decode cX3_badness 14 = .ok (.imul, 1) := by decide +kernel
theorem dX3_badness_15 : decode cX3_badness 15 = .ok (.bipush 48, 2) := by decide +kernel
theorem dX3_badness_17 : decode cX3_badness 17 = .ok (.iload_n 3, 1) := by decide +kernel
theorem dX3_badness_18 : decode cX3_badness 18 = .ok (.imul, 1) := by decide +kernel
theorem dX3_badness_19 : decode cX3_badness 19 = .ok (.iload_n 3, 1) := by decide +kernel
theorem dX3_badness_20 : decode cX3_badness 20 = .ok (.imul, 1) := by decide +kernel
theorem dX3_badness_21 : decode cX3_badness 21 = .ok (.iadd, 1) := by decide +kernel
theorem dX3_badness_22 : decode cX3_badness 22 = .ok (.ireturn, 1) := by decide +kernel
theorem dX3_liesWithin_0 : decode cX3_liesWithin 0 = .ok (.aload_n 0, 1) := by decide +kernel
theorem dX3_liesWithin_1 : decode cX3_liesWithin 1 = .ok (.getfield 17, 3) := by decide +kernel
theorem dX3_liesWithin_4 : decode cX3_liesWithin 4 = .ok (.aload_n 1, 1) := by decide +kernel
theorem dX3_liesWithin_5 : decode cX3_liesWithin 5 = .ok (.getfield 17, 3) := by decide +kernel
theorem dX3_liesWithin_8 : decode cX3_liesWithin 8 = .ok (.if_icmp .ne 63, 3) := by decide +kernel
theorem dX3_liesWithin_11 : decode cX3_liesWithin 11 = .ok (.aload_n 0, 1) := by decide +kernel
theorem dX3_liesWithin_12 : decode cX3_liesWithin 12 = .ok (.getfield 13, 3) := by decide +kernel
theorem dX3_liesWithin_15 : decode cX3_liesWithin 15 = .ok (.getfield 57, 3) := by decide +kernel
theorem dX3_liesWithin_18 : decode cX3_liesWithin 18 = .ok (.aload_n 1, 1) := by decide +kernel
theorem dX3_liesWithin_19 : decode cX3_liesWithin 19 = .ok (.getfield 13, 3) := by decide +kernel
theorem dX3_liesWithin_22 : decode cX3_liesWithin 22 = .ok (.getfield 57, 3) := by decide +kernel
theorem dX3_liesWithin_25 : decode cX3_liesWithin 25 = .ok (.if_icmp .ge 46, 3) := by decide +kernel
theorem dX3_liesWithin_28 : decode cX3_liesWithin 28 = .ok (.aload_n 0, 1) := by decide +kernel
theorem dX3_liesWithin_29 : decode cX3_liesWithin 29 = .ok (.getfield 13, 3) := by decide +kernel
theorem dX3_liesWithin_32 : decode cX3_liesWithin 32 = .ok (.getfield 60, 3) := by decide +kernel
theorem dX3_liesWithin_35 : decode cX3_liesWithin 35 = .ok (.aload_n 1, 1) := by decide +kernel
theorem dX3_liesWithin_36 : decode cX3_liesWithin 36 = .ok (.getfield 13, 3) := by decide +kernel
theorem dX3_liesWithin_39 : decode cX3_liesWithin 39 = .ok (.getfield 60, 3) := by decide +kernel
theorem dX3_liesWithin_42 : decode cX3_liesWithin 42 = .ok (.if_icmp .ne 29, 3) := by decide +kernel
theorem dX3_liesWithin_45 : decode cX3_liesWithin 45 = .ok (.aload_n 0, 1) := by decide +kernel
theorem dX3_liesWithin_46 : decode cX3_liesWithin 46 = .ok (.getfield 20, 3) := by decide +kernel
theorem dX3_liesWithin_49 : decode cX3_liesWithin 49 = .ok (.aload_n 1, 1) := by decide +kernel
theorem dX3_liesWithin_50 : decode cX3_liesWithin 50 = .ok (.getfield 20, 3) := by decide +kernel
theorem dX3_liesWithin_53 : decode cX3_liesWithin 53 = .ok (.if_icmp .lt 18, 3) := by decide +kernel
theorem dX3_liesWithin_56 : decode cX3_liesWithin 56 = .ok (.aload_n 0, 1) := by decide +kernel
theorem dX3_liesWithin_57 : decode cX3_liesWithin 57 = .ok (.getfield 26, 3) := by decide +kernel
theorem dX3_liesWithin_60 : decode cX3_liesWithin 60 = .ok (.aload_n 1, 1) := by decide +kernel
theorem dX3_liesWithin_61 : decode cX3_liesWithin 61 = .ok (.getfield 26, 3) := by decide +kernel
theorem dX3_liesWithin_64 : decode cX3_liesWithin 64 = .ok (.if_icmp .gt 7, 3) := by decide +kernel
theorem dX3_liesWithin_67 : decode cX3_liesWithin 67 = .ok (.iconst 1, 1) := by decide +kernel
theorem dX3_liesWithin_68 : decode cX3_liesWithin 68 = .ok (.goto 4, 3) := by decide +kernel
theorem dX3_liesWithin_71 : decode cX3_liesWithin 71 = .ok (.iconst 0, 1) := by decide +kernel
theorem dX3_liesWithin_72 : decode cX3_liesWithin 72 = .ok (.ireturn, 1) := by decide +kernel
theorem dX3_draw_0 : decode cX3_draw 0 = .ok (.aload_n 0, 1) := by decide +kernel
theorem dX3_draw_1 : decode cX3_draw 1 = .ok (.getfield 38, 3) := by decide +kernel
theorem dX3_draw_4 : decode cX3_draw 4 = .ok (.iconst 4, 1) := by decide +kernel
theorem dX3_draw_5 : decode cX3_draw 5 = .ok (.iload_n 1, 1) := by decide +kernel
theorem dX3_draw_6 : decode cX3_draw 6 = .ok (.bipush 8, 2) := by decide +kernel
theorem dX3_draw_8 : decode cX3_draw 8 = .ok (.irem, 1) := by decide +kernel
theorem dX3_draw_9 : decode cX3_draw 9 = .ok (.imul, 1) := by decide +kernel
theorem dX3_draw_10 : decode cX3_draw 10 = .ok (.iadd, 1) := by decide +kernel
theorem dX3_draw_11 : decode cX3_draw 11 = .ok (.aload_n 0, 1) := by decide +kernel
theorem dX3_draw_12 : decode cX3_draw 12 = .ok (.getfield 13, 3) := by decide +kernel
theorem dX3_draw_15 : decode cX3_draw 15 = .ok (.getfield 60, 3) := by decide +kernel
theorem dX3_draw_18 : decode cX3_draw 18 = .ok (.imul, 1) := by decide +kernel
theorem dX3_draw_19 : decode cX3_draw 19 = .ok (.istore_n 3, 1) := by decide +kernel
theorem dX3_draw_20 : decode cX3_draw 20 = .ok (.iconst 4, 1) := by decide +kernel
theorem dX3_draw_21 : decode cX3_draw 21 = .ok (.iload_n 1, 1) := by decide +kernel
theorem dX3_draw_22 : decode cX3_draw 22 = .ok (.bipush 8, 2) := by decide +kernel
theorem dX3_draw_24 : decode cX3_draw 24 = .ok (.idiv, 1) := by decide +kernel
theorem dX3_draw_25 : decode cX3_draw 25 = .ok (.imul, 1) := by decide +kernel
theorem dX3_draw_26 : decode cX3_draw 26 = .ok (.aload_n 0, 1) := by decide +kernel
theorem dX3_draw_27 : decode cX3_draw 27 = .ok (.getfield 13, 3) := by decide +kernel
theorem dX3_draw_30 : decode cX3_draw 30 = .ok (.getfield 60, 3) := by decide +kernel
theorem dX3_draw_33 : decode cX3_draw 33 = .ok (.imul, 1) := by decide +kernel
theorem dX3_draw_34 : decode cX3_draw 34 = .ok (.istore 4, 2) := by decide +kernel
theorem dX3_draw_36 : decode cX3_draw 36 = .ok (.aload_n 0, 1) := by decide +kernel
theorem dX3_draw_37 : decode cX3_draw 37 = .ok (.getfield 23, 3) := by decide +kernel
theorem dX3_draw_40 : decode cX3_draw 40 = .ok (.iload 4, 2) := by decide +kernel
theorem dX3_draw_42 : decode cX3_draw 42 = .ok (.iadd, 1) := by decide +kernel
theorem dX3_draw_43 : decode cX3_draw 43 = .ok (.istore 5, 2) := by decide +kernel
theorem dX3_draw_45 : decode cX3_draw 45 = .ok (.aload_n 0, 1) := by decide +kernel
theorem dX3_draw_46 : decode cX3_draw 46 = .ok (.getfield 29, 3) := by decide +kernel
theorem dX3_draw_49 : decode cX3_draw 49 = .ok (.iload 4, 2) := by decide +kernel
theorem dX3_draw_51 : decode cX3_draw 51 = .ok (.iadd, 1) := by decide +kernel
theorem dX3_draw_52 : decode cX3_draw 52 = .ok (.istore 6, 2) := by decide +kernel
theorem dX3_draw_54 : decode cX3_draw 54 = .ok (.aload_n 0, 1) := by decide +kernel
theorem dX3_draw_55 : decode cX3_draw 55 = .ok (.getfield 26, 3) := by decide +kernel
theorem dX3_draw_58 : decode cX3_draw 58 = .ok (.aload_n 0, 1) := by decide +kernel
theorem dX3_draw_59 : decode cX3_draw 59 = .ok (.getfield 20, 3) := by decide +kernel
theorem dX3_draw_62 : decode cX3_draw 62 = .ok (.isub, 1) := by decide +kernel
theorem dX3_draw_63 : decode cX3_draw 63 = .ok (.iconst 4, 1) := by decide +kernel
theorem dX3_draw_64 : decode cX3_draw 64 = .ok (.idiv, 1) := by decide +kernel
theorem dX3_draw_65 : decode cX3_draw 65 = .ok (.istore 7, 2) := by decide +kernel
theorem dX3_draw_67 : decode cX3_draw 67 = .ok (.aload_n 2, 1) := by decide +kernel
theorem dX3_draw_68 : decode cX3_draw 68 = .ok (.aload_n 0, 1) := by decide +kernel
theorem dX3_draw_69 : decode cX3_draw 69 = .ok (.getfield 17, 3) := by decide +kernel
theorem dX3_draw_72 : decode cX3_draw 72 = .ok (.putfield 63, 3) := by decide +kernel
theorem dX3_draw_75 : decode cX3_draw 75 = .ok (.aload_n 2, 1) := by decide +kernel
theorem dX3_draw_76 : decode cX3_draw 76 = .ok (.iconst 0, 1) := by decide +kernel
theorem dX3_draw_77 : decode cX3_draw 77 = .ok (.aload_n 0, 1) := by decide +kernel
theorem dX3_draw_78 : decode cX3_draw 78 = .ok (.getfield 20, 3) := by decide +kernel
theorem dX3_draw_81 : decode cX3_draw 81 = .ok (.iload 5, 2) := by decide +kernel
theorem dX3_draw_83 : decode cX3_draw 83 = .ok (.invokevirtual 64, 3) := by decide +kernel
theorem dX3_draw_86 : decode cX3_draw 86 = .ok (.aload_n 2, 1) := by decide +kernel
theorem dX3_draw_87 : decode cX3_draw 87 = .ok (.iconst 1, 1) := by decide +kernel
theorem dX3_draw_88 : decode cX3_draw 88 = .ok (.aload_n 0, 1) := by decide +kernel
theorem dX3_draw_89 : decode cX3_draw 89 = .ok (.getfield 20, 3) := by decide +kernel
theorem dX3_draw_92 : decode cX3_draw 92 = .ok (.iload 7, 2) := by decide +kernel
theorem dX3_draw_94 : decode cX3_draw 94 = .ok (.iadd, 1) := by decide +kernel
theorem dX3_draw_95 : decode cX3_draw 95 = .ok (.iload 5, 2) := by decide +kernel
theorem dX3_draw_97 : decode cX3_draw 97 = .ok (.iload 6, 2) := by decide +kernel
theorem dX3_draw_99 : decode cX3_draw 99 = .ok (.iload 5, 2) := by decide +kernel
theorem dX3_draw_101 : decode cX3_draw 101 = .ok (.isub, 1) := by decide +kernel
theorem dX3_draw_102 : decode cX3_draw 102 = .ok (.iconst 4, 1) := by decide +kernel
theorem dX3_draw_103 : decode cX3_draw 103 = .ok (.idiv, 1) := by decide +kernel
theorem dX3_draw_104 : decode cX3_draw 104 = .ok (.iadd, 1) := by decide +kernel
theorem dX3_draw_105 : decode cX3_draw 105 = .ok (.iload_n 3, 1) := by decide +kernel
theorem dX3_draw_106 : decode cX3_draw 106 = .ok (.iadd, 1) := by decide +kernel
theorem dX3_draw_107 : decode cX3_draw 107 = .ok (.invokevirtual 64, 3) := by decide +kernel
theorem dX3_draw_110 : decode cX3_draw 110 = .ok (.aload_n 2, 1) := by decide +kernel
theorem dX3_draw_111 : decode cX3_draw 111 = .ok (.iconst 2, 1) := by decide +kernel
theorem dX3_draw_112 : decode cX3_draw 112 = .ok (.aload_n 0, 1) := by decide +kernel
theorem dX3_draw_113 : decode cX3_draw 113 = .ok (.getfield 26, 3) := by decide +kernel
theorem dX3_draw_116 : decode cX3_draw 116 = .ok (.iload 7, 2) := by decide +kernel
theorem dX3_draw_118 : decode cX3_draw 118 = .ok (.isub, 1) := by decide +kernel
theorem dX3_draw_119 : decode cX3_draw 119 = .ok (.iload 6, 2) := by decide +kernel
theorem dX3_draw_121 : decode cX3_draw 121 = .ok (.iload 5, 2) := by decide +kernel
theorem dX3_draw_123 : decode cX3_draw 123 = .ok (.iload 6, 2) := by decide +kernel
theorem dX3_draw_125 : decode cX3_draw 125 = .ok (.isub, 1) := by decide +kernel
theorem dX3_draw_126 : decode cX3_draw 126 = .ok (.iconst 4, 1) := by decide +kernel
theorem dX3_draw_127 : decode cX3_draw 127 = .ok (.idiv, 1) := by decide +kernel
theorem dX3_draw_128 : decode cX3_draw 128 = .ok (.iadd, 1) := by decide +kernel
theorem dX3_draw_129 : decode cX3_draw 129 = .ok (.iload_n 3, 1) := by decide +kernel
theorem dX3_draw_130 : decode cX3_draw 130 = .ok (.iadd, 1) := by decide +kernel
theorem dX3_draw_131 : decode cX3_draw 131 = .ok (.invokevirtual 64, 3) := by decide +kernel
theorem dX3_draw_134 : decode cX3_draw 134 = .ok (.aload_n 2, 1) := by decide +kernel
theorem dX3_draw_135 : decode cX3_draw 135 = .ok (.iconst 3, 1) := by decide +kernel
theorem dX3_draw_136 : decode cX3_draw 136 = .ok (.aload_n 0, 1) := by decide +kernel
theorem dX3_draw_137 : decode cX3_draw 137 = .ok (.getfield 26, 3) := by decide +kernel
theorem dX3_draw_140 : decode cX3_draw 140 = .ok (.iload 6, 2) := by decide +kernel
theorem dX3_draw_142 : decode cX3_draw 142 = .ok (.invokevirtual 64, 3) := by decide +kernel
theorem dX3_draw_145 : decode cX3_draw 145 = .ok (.aload_n 2, 1) := by decide +kernel
theorem dX3_draw_146 : decode cX3_draw 146 = .ok (.invokevirtual 68, 3) := by decide +kernel
theorem dX3_draw_149 : decode cX3_draw 149 = .ok (.return_, 1) := by decide +kernel
