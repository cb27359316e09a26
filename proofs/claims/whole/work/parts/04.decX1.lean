theorem dX1_init_0 : decode cX1_init 0 = .ok (.aload_n 0, 1) := by decide +kernel
theorem dX1_init_1 : decode cX1_init 1 = .ok (.invokespecial 1, 3) := by decide +kernel
theorem dX1_init_4 : decode cX1_init 4 = .ok (.aload_n 0, 1) := by decide +kernel
theorem dX1_init_5 : decode cX1_init 5 = .ok (.iload_n 1, 1) := by decide +kernel
theorem dX1_init_6 : decode cX1_init 6 = .ok (.putfield 7, 3) := by decide +kernel
theorem dX1_init_9 : decode cX1_init 9 = .ok (.aload_n 0, 1) := by decide +kernel
theorem dX1_init_10 : decode cX1_init 10 = .ok (.iload_n 2, 1) := by decide +kernel
theorem dX1_init_11 : decode cX1_init 11 = .ok (.newarray .int, 2) := by decide +kernel
theorem dX1_init_13 : decode cX1_init 13 = .ok (.putfield 13, 3) := by decide +kernel
theorem dX1_init_16 : decode cX1_init 16 = .ok (.aload_n 0, 1) := by decide +kernel
theorem dX1_init_17 : decode cX1_init 17 = .ok (.iload_n 2, 1) := by decide +kernel
theorem dX1_init_18 : decode cX1_init 18 = .ok (.newarray .int, 2) := by decide +kernel
theorem dX1_init_20 : decode cX1_init 20 = .ok (.putfield 17, 3) := by decide +kernel
theorem dX1_init_23 : decode cX1_init 23 = .ok (.return_, 1) := by decide +kernel
theorem dX1_hullOn_0 : decode cX1_hullOn 0 = .ok (.new 8, 3) := by decide +kernel
theorem dX1_hullOn_3 : decode cX1_hullOn 3 = .ok (.dup, 1) := by decide +kernel
theorem dX1_hullOn_4 : decode cX1_hullOn 4 = .ok (.iload_n 0, 1) := by decide +kernel
theorem dX1_hullOn_5 : decode cX1_hullOn 5 = .ok (.iconst 4, 1) := by decide +kernel
theorem dX1_hullOn_6 : decode cX1_hullOn 6 = .ok (.invokespecial 20, 3) := by decide +kernel
theorem dX1_hullOn_9 : decode cX1_hullOn 9 = .ok (.areturn, 1) := by decide +kernel
theorem dX1_rectangle_0 : decode cX1_rectangle 0 = .ok (.new 8, 3) := by decide +kernel
theorem dX1_rectangle_3 : decode cX1_rectangle 3 = .ok (.dup, 1) := by decide +kernel
theorem dX1_rectangle_4 : decode cX1_rectangle 4 = .ok (.iload_n 0, 1) := by decide +kernel
theorem dX1_rectangle_5 : decode cX1_rectangle 5 = .ok (.iconst 4, 1) := by decide +kernel
theorem dX1_rectangle_6 : decode cX1_rectangle 6 = .ok (.invokespecial 20, 3) := by decide +kernel
theorem dX1_rectangle_9 : decode cX1_rectangle 9 = .ok (.astore 5, 2) := by decide +kernel
theorem dX1_rectangle_11 : decode cX1_rectangle 11 = .ok (.aload 5, 2) := by decide +kernel
theorem dX1_rectangle_13 : decode cX1_rectangle 13 = .ok (.iconst 0, 1) := by decide +kernel
theorem dX1_rectangle_14 : decode cX1_rectangle 14 = .ok (.iload_n 1, 1) := by decide +kernel
theorem dX1_rectangle_15 : decode cX1_rectangle 15 = .ok (.iload_n 2, 1) := by decide +kernel
theorem dX1_rectangle_16 : decode cX1_rectangle 16 = .ok (.invokevirtual 23, 3) := by decide +kernel
theorem dX1_rectangle_19 : decode cX1_rectangle 19 = .ok (.aload 5, 2) := by decide +kernel
theorem dX1_rectangle_21 : decode cX1_rectangle 21 = .ok (.iconst 1, 1) := by decide +kernel
theorem dX1_rectangle_22 : decode cX1_rectangle 22 = .ok (.iload_n 1, 1) := by decide +kernel
theorem dX1_rectangle_23 : decode cX1_rectangle 23 = .ok (.iload_n 3, 1) := by decide +kernel
theorem dX1_rectangle_24 : decode cX1_rectangle 24 = .ok (.iadd, 1) := by decide +kernel
theorem dX1_rectangle_25 : decode cX1_rectangle 25 = .ok (.iload_n 2, 1) := by decide +kernel
theorem dX1_rectangle_26 : decode cX1_rectangle 26 = .ok (.invokevirtual 23, 3) := by decide +kernel
theorem dX1_rectangle_29 : decode cX1_rectangle 29 = .ok (.aload 5, 2) := by decide +kernel
theorem dX1_rectangle_31 : decode cX1_rectangle 31 = .ok (.iconst 2, 1) := by decide +kernel
theorem dX1_rectangle_32 : decode cX1_rectangle 32 = .ok (.iload_n 1, 1) := by decide +kernel
theorem dX1_rectangle_33 : decode cX1_rectangle 33 = .ok (.iload_n 3, 1) := by decide +kernel
theorem dX1_rectangle_34 : decode cX1_rectangle 34 = .ok (.iadd, 1) := by decide +kernel
theorem dX1_rectangle_35 : decode cX1_rectangle 35 = .ok (.iload_n 2, 1) := by decide +kernel
theorem dX1_rectangle_36 : decode cX1_rectangle 36 = .ok (.iload 4, 2) := by decide +kernel
theorem dX1_rectangle_38 : decode cX1_rectangle 38 = .ok (.iadd, 1) := by decide +kernel
theorem dX1_rectangle_39 : decode cX1_rectangle 39 = .ok (.invokevirtual 23, 3) := by decide +kernel
theorem dX1_rectangle_42 : decode cX1_rectangle 42 = .ok (.aload 5, 2) := by decide +kernel
theorem dX1_rectangle_44 : decode cX1_rectangle 44 = .ok (.iconst 3, 1) := by decide +kernel
theorem dX1_rectangle_45 : decode cX1_rectangle 45 = .ok (.iload_n 1, 1) := by decide +kernel
theorem dX1_rectangle_46 : decode cX1_rectangle 46 = .ok (.iload_n 2, 1) := by decide +kernel
theorem dX1_rectangle_47 : decode cX1_rectangle 47 = .ok (.iload 4, 2) := by decide +kernel
theorem dX1_rectangle_49 : decode cX1_rectangle 49 = .ok (.iadd, 1) := by decide +kernel
theorem dX1_rectangle_50 : decode cX1_rectangle 50 = .ok (.invokevirtual 23, 3) := by decide +kernel
theorem dX1_rectangle_53 : decode cX1_rectangle 53 = .ok (.aload 5, 2) := by decide +kernel
theorem dX1_rectangle_55 : decode cX1_rectangle 55 = .ok (.invokevirtual 27, 3) := by decide +kernel
theorem dX1_rectangle_58 : decode cX1_rectangle 58 = .ok (.aload 5, 2) := by decide +kernel
theorem dX1_rectangle_60 : decode cX1_rectangle 60 = .ok (.areturn, 1) := by decide +kernel
theorem dX1_triangle_0 : decode cX1_triangle 0 = .ok (.new 8, 3) := by decide +kernel
theorem dX1_triangle_3 : decode cX1_triangle 3 = .ok (.dup, 1) := by decide +kernel
theorem dX1_triangle_4 : decode cX1_triangle 4 = .ok (.iload_n 0, 1) := by decide +kernel
theorem dX1_triangle_5 : decode cX1_triangle 5 = .ok (.iconst 3, 1) := by decide +kernel
theorem dX1_triangle_6 : decode cX1_triangle 6 = .ok (.invokespecial 20, 3) := by decide +kernel
theorem dX1_triangle_9 : decode cX1_triangle 9 = .ok (.astore 5, 2) := by decide +kernel
theorem dX1_triangle_11 : decode cX1_triangle 11 = .ok (.aload 5, 2) := by decide +kernel
theorem dX1_triangle_13 : decode cX1_triangle 13 = .ok (.iconst 0, 1) := by decide +kernel
theorem dX1_triangle_14 : decode cX1_triangle 14 = .ok (.iload_n 1, 1) := by decide +kernel
theorem dX1_triangle_15 : decode cX1_triangle 15 = .ok (.iload_n 3, 1) := by decide +kernel
theorem dX1_triangle_16 : decode cX1_triangle 16 = .ok (.invokevirtual 23, 3) := by decide +kernel
theorem dX1_triangle_19 : decode cX1_triangle 19 = .ok (.aload 5, 2) := by decide +kernel
theorem dX1_triangle_21 : decode cX1_triangle 21 = .ok (.iconst 1, 1) := by decide +kernel
theorem dX1_triangle_22 : decode cX1_triangle 22 = .ok (.iload_n 2, 1) := by decide +kernel
theorem dX1_triangle_23 : decode cX1_triangle 23 = .ok (.iload_n 3, 1) := by decide +kernel
theorem dX1_triangle_24 : decode cX1_triangle 24 = .ok (.iload 4, 2) := by decide +kernel
theorem dX1_triangle_26 : decode cX1_triangle 26 = .ok (.isub, 1) := by decide +kernel
theorem dX1_triangle_27 : decode cX1_triangle 27 = .ok (.invokevirtual 23, 3) := by decide +kernel
theorem dX1_triangle_30 : decode cX1_triangle 30 = .ok (.aload 5, 2) := by decide +kernel
theorem dX1_triangle_32 : decode cX1_triangle 32 = .ok (.iconst 2, 1) := by decide +kernel
theorem dX1_triangle_33 : decode cX1_triangle 33 = .ok (.iload_n 2, 1) := by decide +kernel
theorem dX1_triangle_34 : decode cX1_triangle 34 = .ok (.iload_n 3, 1) := by decide +kernel
theorem dX1_triangle_35 : decode cX1_triangle 35 = .ok (.iload 4, 2) := by decide +kernel
theorem dX1_triangle_37 : decode cX1_triangle 37 = .ok (.iadd, 1) := by decide +kernel
theorem dX1_triangle_38 : decode cX1_triangle 38 = .ok (.invokevirtual 23, 3) := by decide +kernel
theorem dX1_triangle_41 : decode cX1_triangle 41 = .ok (.aload 5, 2) := by decide +kernel
theorem dX1_triangle_43 : decode cX1_triangle 43 = .ok (.invokevirtual 27, 3) := by decide +kernel
theorem dX1_triangle_46 : decode cX1_triangle 46 = .ok (.aload 5, 2) := by decide +kernel
theorem dX1_triangle_48 : decode cX1_triangle 48 = .ok (.areturn, 1) := by decide +kernel
theorem dX1_setCorner_0 : decode cX1_setCorner 0 = .ok (.iload_n 1, 1) := by decide +kernel
theorem dX1_setCorner_1 : decode cX1_setCorner 1 = .ok (.ifCond .lt 26, 3) := by decide +kernel
theorem dX1_setCorner_4 : decode cX1_setCorner 4 = .ok (.iload_n 1, 1) := by decide +kernel
theorem dX1_setCorner_5 : decode cX1_setCorner 5 = .ok (.aload_n 0, 1) := by decide +kernel
theorem dX1_setCorner_6 : decode cX1_setCorner 6 = .ok (.getfield 13, 3) := by decide +kernel
theorem dX1_setCorner_9 : decode cX1_setCorner 9 = .ok (.arraylength, 1) := by decide +kernel
theorem dX1_setCorner_10 : decode cX1_setCorner 10 = .ok (.if_icmp .ge 17, 3) := by decide +kernel
theorem dX1_setCorner_13 : decode cX1_setCorner 13 = .ok (.aload_n 0, 1) := by decide +kernel
theorem dX1_setCorner_14 : decode cX1_setCorner 14 = .ok (.getfield 13, 3) := by decide +kernel
theorem dX1_setCorner_17 : decode cX1_setCorner 17 = .ok (.iload_n 1, 1) := by decide +kernel
theorem dX1_setCorner_18 : decode cX1_setCorner 18 = .ok (.iload_n 2, 1) := by decide +kernel
theorem dX1_setCorner_19 : decode cX1_setCorner 19 = .ok (.iastore, 1) := by decide +kernel
theorem dX1_setCorner_20 : decode cX1_setCorner 20 = .ok (.aload_n 0, 1) := by decide +kernel
theorem dX1_setCorner_21 : decode cX1_setCorner 21 = .ok (.getfield 17, 3) := by decide +kernel
theorem dX1_setCorner_24 : decode cX1_setCorner 24 = .ok (.iload_n 1, 1) := by decide +kernel
theorem dX1_setCorner_25 : decode cX1_setCorner 25 = .ok (.iload_n 3, 1) := by decide +kernel
theorem dX1_setCorner_26 : decode cX1_setCorner 26 = .ok (.iastore, 1) := by decide +kernel
theorem dX1_setCorner_27 : decode cX1_setCorner 27 = .ok (.return_, 1) := by decide +kernel
theorem dX1_setFrame_0 : decode cX1_setFrame 0 = .ok (.aload_n 0, 1) := by decide +kernel
theorem dX1_setFrame_1 : decode cX1_setFrame 1 = .ok (.aload_n 0, 1) := by decide +kernel
theorem dX1_setFrame_2 : decode cX1_setFrame 2 = .ok (.getfield 13, 3) := by decide +kernel
theorem dX1_setFrame_5 : decode cX1_setFrame 5 = .ok (.iconst 0, 1) := by decide +kernel
theorem dX1_setFrame_6 : decode cX1_setFrame 6 = .ok (.iaload, 1) := by decide +kernel
theorem dX1_setFrame_7 : decode cX1_setFrame 7 = .ok (.putfield 30, 3) := by decide +kernel
theorem dX1_setFrame_10 : decode cX1_setFrame 10 = .ok (.aload_n 0, 1) := by decide +kernel
theorem dX1_setFrame_11 : decode cX1_setFrame 11 = .ok (.aload_n 0, 1) := by decide +kernel
theorem dX1_setFrame_12 : decode cX1_setFrame 12 = .ok (.getfield 13, 3) := by decide +kernel
theorem dX1_setFrame_15 : decode cX1_setFrame 15 = .ok (.iconst 0, 1) := by decide +kernel
theorem dX1_setFrame_16 : decode cX1_setFrame 16 = .ok (.iaload, 1) := by decide +kernel
theorem dX1_setFrame_17 : decode cX1_setFrame 17 = .ok (.putfield 33, 3) := by decide +kernel
theorem dX1_setFrame_20 : decode cX1_setFrame 20 = .ok (.aload_n 0, 1) := by decide +kernel
theorem dX1_setFrame_21 : decode cX1_setFrame 21 = .ok (.aload_n 0, 1) := by decide +kernel
theorem dX1_setFrame_22 : decode cX1_setFrame 22 = .ok (.getfield 17, 3) := by decide +kernel
theorem dX1_setFrame_25 : decode cX1_setFrame 25 = .ok (.iconst 0, 1) := by decide +kernel
theorem dX1_setFrame_26 : decode cX1_setFrame 26 = .ok (.iaload, 1) := by decide +kernel
theorem dX1_setFrame_27 : decode cX1_setFrame 27 = .ok (.putfield 36, 3) := by decide +kernel
theorem dX1_setFrame_30 : decode cX1_setFrame 30 = .ok (.aload_n 0, 1) := by decide +kernel
theorem dX1_setFrame_31 : decode cX1_setFrame 31 = .ok (.aload_n 0, 1) := by decide +kernel
theorem dX1_setFrame_32 : decode cX1_setFrame 32 = .ok (.getfield 17, 3) := by decide +kernel
theorem dX1_setFrame_35 : decode cX1_setFrame 35 = .ok (.iconst 0, 1) := by decide +kernel
theorem dX1_setFrame_36 : decode cX1_setFrame 36 = .ok (.iaload, 1) := by decide +kernel
theorem dX1_setFrame_37 : decode cX1_setFrame 37 = .ok (.putfield 39, 3) := by decide +kernel
theorem dX1_setFrame_40 : decode cX1_setFrame 40 = .ok (.iconst 1, 1) := by decide +kernel
theorem dX1_setFrame_41 : decode cX1_setFrame 41 = .ok (.istore_n 1, 1) := by decide +kernel
theorem dX1_setFrame_42 : decode cX1_setFrame 42 = .ok (.iload_n 1, 1) := by decide +kernel
theorem dX1_setFrame_43 : decode cX1_setFrame 43 = .ok (.aload_n 0, 1) := by decide +kernel
theorem dX1_setFrame_44 : decode cX1_setFrame 44 = .ok (.getfield 13, 3) := by decide +kernel
theorem dX1_setFrame_47 : decode cX1_setFrame 47 = .ok (.arraylength, 1) := by decide +kernel
theorem dX1_setFrame_48 : decode cX1_setFrame 48 = .ok (.if_icmp .ge 77, 3) := by decide +kernel
theorem dX1_setFrame_51 : decode cX1_setFrame 51 = .ok (.aload_n 0, 1) := by decide +kernel
theorem dX1_setFrame_52 : decode cX1_setFrame 52 = .ok (.aload_n 0, 1) := by decide +kernel
theorem dX1_setFrame_53 : decode cX1_setFrame 53 = .ok (.getfield 30, 3) := by decide +kernel
theorem dX1_setFrame_56 : decode cX1_setFrame 56 = .ok (.aload_n 0, 1) := by decide +kernel
theorem dX1_setFrame_57 : decode cX1_setFrame 57 = .ok (.getfield 13, 3) := by decide +kernel
theorem dX1_setFrame_60 : decode cX1_setFrame 60 = .ok (.iload_n 1, 1) := by decide +kernel
theorem dX1_setFrame_61 : decode cX1_setFrame 61 = .ok (.iaload, 1) := by decide +kernel
theorem dX1_setFrame_62 : decode cX1_setFrame 62 = .ok (.invokestatic 42, 3) := by decide +kernel
theorem dX1_setFrame_65 : decode cX1_setFrame 65 = .ok (.putfield 30, 3) := by decide +kernel
theorem dX1_setFrame_68 : decode cX1_setFrame 68 = .ok (.aload_n 0, 1) := by decide +kernel
theorem dX1_setFrame_69 : decode cX1_setFrame 69 = .ok (.aload_n 0, 1) := by decide +kernel
theorem dX1_setFrame_70 : decode cX1_setFrame 70 = .ok (.getfield 33, 3) := by decide +kernel
theorem dX1_setFrame_73 : decode cX1_setFrame 73 = .ok (.aload_n 0, 1) := by decide +kernel
theorem dX1_setFrame_74 : decode cX1_setFrame 74 = .ok (.getfield 13, 3) := by decide +kernel
theorem dX1_setFrame_77 : decode cX1_setFrame 77 = .ok (.iload_n 1, 1) := by decide +kernel
theorem dX1_setFrame_78 : decode cX1_setFrame 78 = .ok (.iaload, 1) := by decide +kernel
theorem dX1_setFrame_79 : decode cX1_setFrame 79 = .ok (.invokestatic 48, 3) := by decide +kernel
theorem dX1_setFrame_82 : decode cX1_setFrame 82 = .ok (.putfield 33, 3) := by decide +kernel
theorem dX1_setFrame_85 : decode cX1_setFrame 85 = .ok (.aload_n 0, 1) := by decide +kernel
theorem dX1_setFrame_86 : decode cX1_setFrame 86 = .ok (.aload_n 0, 1) := by decide +kernel
theorem dX1_setFrame_87 : decode cX1_setFrame 87 = .ok (.getfield 36, 3) := by decide +kernel
theorem dX1_setFrame_90 : decode cX1_setFrame 90 = .ok (.aload_n 0, 1) := by decide +kernel
theorem dX1_setFrame_91 : decode cX1_setFrame 91 = .ok (.getfield 17, 3) := by decide +kernel
theorem dX1_setFrame_94 : decode cX1_setFrame 94 = .ok (.iload_n 1, 1) := by decide +kernel
theorem dX1_setFrame_95 : decode cX1_setFrame 95 = .ok (.iaload, 1) := by decide +kernel
theorem dX1_setFrame_96 : decode cX1_setFrame 96 = .ok (.invokestatic 42, 3) := by decide +kernel
theorem dX1_setFrame_99 : decode cX1_setFrame 99 = .ok (.putfield 36, 3) := by decide +kernel
theorem dX1_setFrame_102 : decode cX1_setFrame 102 = .ok (.aload_n 0, 1) := by decide +kernel
theorem dX1_setFrame_103 : decode cX1_setFrame 103 = .ok (.aload_n 0, 1) := by decide +kernel
theorem dX1_setFrame_104 : decode cX1_setFrame 104 = .ok (.getfield 39, 3) := by decide +kernel
theorem dX1_setFrame_107 : decode cX1_setFrame 107 = .ok (.aload_n 0, 1) := by decide +kernel
theorem dX1_setFrame_108 : decode cX1_setFrame 108 = .ok (.getfield 17, 3) := by decide +kernel
theorem dX1_setFrame_111 : decode cX1_setFrame 111 = .ok (.iload_n 1, 1) := by decide +kernel
theorem dX1_setFrame_112 : decode cX1_setFrame 112 = .ok (.iaload, 1) := by decide +kernel
theorem dX1_setFrame_113 : decode cX1_setFrame 113 = .ok (.invokestatic 48, 3) := by decide +kernel
theorem dX1_setFrame_116 : decode cX1_setFrame 116 = .ok (.putfield 39, 3) := by decide +kernel
theorem dX1_setFrame_119 : decode cX1_setFrame 119 = .ok (.iinc 1 1, 3) := by decide +kernel
theorem dX1_setFrame_122 : decode cX1_setFrame 122 = .ok (.goto (-80), 3) := by decide +kernel
theorem dX1_setFrame_125 : decode cX1_setFrame 125 = .ok (.return_, 1) := by decide +kernel
theorem dX1_row_0 : decode cX1_row 0 = .ok (.iload_n 1, 1) := by decide +kernel
theorem dX1_row_1 : decode cX1_row 1 = .ok (.ifCond .ne 10, 3) := by decide +kernel
theorem dX1_row_4 : decode cX1_row 4 = .ok (.aload_n 0, 1) := by decide +kernel
theorem dX1_row_5 : decode cX1_row 5 = .ok (.getfield 13, 3) := by decide +kernel
theorem dX1_row_8 : decode cX1_row 8 = .ok (.goto 7, 3) := by decide +kernel
theorem dX1_row_11 : decode cX1_row 11 = .ok (.aload_n 0, 1) := by decide +kernel
theorem dX1_row_12 : decode cX1_row 12 = .ok (.getfield 17, 3) := by decide +kernel
theorem dX1_row_15 : decode cX1_row 15 = .ok (.areturn, 1) := by decide +kernel
theorem dX1_meets_0 : decode cX1_meets 0 = .ok (.aload_n 0, 1) := by decide +kernel
theorem dX1_meets_1 : decode cX1_meets 1 = .ok (.getfield 7, 3) := by decide +kernel
theorem dX1_meets_4 : decode cX1_meets 4 = .ok (.aload_n 1, 1) := by decide +kernel
theorem dX1_meets_5 : decode cX1_meets 5 = .ok (.getfield 7, 3) := by decide +kernel
theorem dX1_meets_8 : decode cX1_meets 8 = .ok (.if_icmp .ne 67, 3) := by decide +kernel
theorem dX1_meets_11 : decode cX1_meets 11 = .ok (.aload_n 0, 1) := by decide +kernel
theorem dX1_meets_12 : decode cX1_meets 12 = .ok (.getfield 30, 3) := by decide +kernel
theorem dX1_meets_15 : decode cX1_meets 15 = .ok (.aload_n 1, 1) := by decide +kernel
theorem dX1_meets_16 : decode cX1_meets 16 = .ok (.getfield 33, 3) := by decide +kernel
theorem dX1_meets_19 : decode cX1_meets 19 = .ok (.if_icmp .gt 56, 3) := by decide +kernel
theorem dX1_meets_22 : decode cX1_meets 22 = .ok (.aload_n 1, 1) := by decide +kernel
theorem dX1_meets_23 : decode cX1_meets 23 = .ok (.getfield 30, 3) := by decide +kernel
theorem dX1_meets_26 : decode cX1_meets 26 = .ok (.aload_n 0, 1) := by decide +kernel
theorem dX1_meets_27 : decode cX1_meets 27 = .ok (.getfield 33, 3) := by decide +kernel
theorem dX1_meets_30 : decode cX1_meets 30 = .ok (.if_icmp .gt 45, 3) := by decide +kernel
theorem dX1_meets_33 : decode cX1_meets 33 = .ok (.aload_n 0, 1) := by decide +kernel
theorem dX1_meets_34 : decode cX1_meets 34 = .ok (.getfield 36, 3) := by decide +kernel
theorem dX1_meets_37 : decode cX1_meets 37 = .ok (.aload_n 1, 1) := by decide +kernel
theorem dX1_meets_38 : decode cX1_meets 38 = .ok (.getfield 39, 3) := by decide +kernel
theorem dX1_meets_41 : decode cX1_meets 41 = .ok (.if_icmp .gt 34, 3) := by decide +kernel
theorem dX1_meets_44 : decode cX1_meets 44 = .ok (.aload_n 1, 1) := by decide +kernel
theorem dX1_meets_45 : decode cX1_meets 45 = .ok (.getfield 36, 3) := by decide +kernel
theorem dX1_meets_48 : decode cX1_meets 48 = .ok (.aload_n 0, 1) := by decide +kernel
theorem dX1_meets_49 : decode cX1_meets 49 = .ok (.getfield 39, 3) := by decide +kernel
theorem dX1_meets_52 : decode cX1_meets 52 = .ok (.if_icmp .gt 23, 3) := by decide +kernel
theorem dX1_meets_55 : decode cX1_meets 55 = .ok (.aload_n 0, 1) := by decide +kernel
theorem dX1_meets_56 : decode cX1_meets 56 = .ok (.aload_n 1, 1) := by decide +kernel
theorem dX1_meets_57 : decode cX1_meets 57 = .ok (.invokevirtual 51, 3) := by decide +kernel
theorem dX1_meets_60 : decode cX1_meets 60 = .ok (.ifCond .ne 15, 3) := by decide +kernel
theorem dX1_meets_63 : decode cX1_meets 63 = .ok (.aload_n 1, 1) := by decide +kernel
theorem dX1_meets_64 : decode cX1_meets 64 = .ok (.aload_n 0, 1) := by decide +kernel
theorem dX1_meets_65 : decode cX1_meets 65 = .ok (.invokevirtual 51, 3) := by decide +kernel
theorem dX1_meets_68 : decode cX1_meets 68 = .ok (.ifCond .ne 7, 3) := by decide +kernel
theorem dX1_meets_71 : decode cX1_meets 71 = .ok (.iconst 1, 1) := by decide +kernel
theorem dX1_meets_72 : decode cX1_meets 72 = .ok (.goto 4, 3) := by decide +kernel
theorem dX1_meets_75 : decode cX1_meets 75 = .ok (.iconst 0, 1) := by decide +kernel
theorem dX1_meets_76 : decode cX1_meets 76 = .ok (.ireturn, 1) := by decide +kernel
theorem dX1_hasEdgeBefore_0 : decode cX1_hasEdgeBefore 0 = .ok (.iconst 0, 1) := by decide +kernel
theorem dX1_hasEdgeBefore_1 : decode cX1_hasEdgeBefore 1 = .ok (.istore_n 2, 1) := by decide +kernel
theorem dX1_hasEdgeBefore_2 : decode cX1_hasEdgeBefore 2 = .ok (.iload_n 2, 1) := by decide +kernel
theorem dX1_hasEdgeBefore_3 : decode cX1_hasEdgeBefore 3 = .ok (.aload_n 0, 1) := by decide +kernel
theorem dX1_hasEdgeBefore_4 : decode cX1_hasEdgeBefore 4 = .ok (.getfield 13, 3) := by decide +kernel
theorem dX1_hasEdgeBefore_7 : decode cX1_hasEdgeBefore 7 = .ok (.arraylength, 1) := by decide +kernel
theorem dX1_hasEdgeBefore_8 : decode cX1_hasEdgeBefore 8 = .ok (.if_icmp .ge 40, 3) := by decide +kernel
theorem dX1_hasEdgeBefore_11 : decode cX1_hasEdgeBefore 11 = .ok (.iload_n 2, 1) := by decide +kernel
theorem dX1_hasEdgeBefore_12 : decode cX1_hasEdgeBefore 12 = .ok (.iconst 1, 1) := by decide +kernel
theorem dX1_hasEdgeBefore_13 : decode cX1_hasEdgeBefore 13 = .ok (.iadd, 1) := by decide +kernel
theorem dX1_hasEdgeBefore_14 : decode cX1_hasEdgeBefore 14 = .ok (.istore_n 3, 1) := by decide +kernel
theorem dX1_hasEdgeBefore_15 : decode cX1_hasEdgeBefore 15 = .ok (.iload_n 3, 1) := by decide +kernel
theorem dX1_hasEdgeBefore_16 : decode cX1_hasEdgeBefore 16 = .ok (.aload_n 0, 1) := by decide +kernel
theorem dX1_hasEdgeBefore_17 : decode cX1_hasEdgeBefore 17 = .ok (.getfield 13, 3) := by decide +kernel
theorem dX1_hasEdgeBefore_20 : decode cX1_hasEdgeBefore 20 = .ok (.arraylength, 1) := by decide +kernel
theorem dX1_hasEdgeBefore_21 : decode cX1_hasEdgeBefore 21 = .ok (.if_icmp .ge 21, 3) := by decide +kernel
theorem dX1_hasEdgeBefore_24 : decode cX1_hasEdgeBefore 24 = .ok (.aload_n 0, 1) := by decide +kernel
theorem dX1_hasEdgeBefore_25 : decode cX1_hasEdgeBefore 25 = .ok (.iload_n 2, 1) := by decide +kernel
theorem dX1_hasEdgeBefore_26 : decode cX1_hasEdgeBefore 26 = .ok (.iload_n 3, 1) := by decide +kernel
theorem dX1_hasEdgeBefore_27 : decode cX1_hasEdgeBefore 27 = .ok (.aload_n 1, 1) := by decide +kernel
theorem dX1_hasEdgeBefore_28 : decode cX1_hasEdgeBefore 28 = .ok (.invokevirtual 55, 3) := by decide +kernel
theorem dX1_hasEdgeBefore_31 : decode cX1_hasEdgeBefore 31 = .ok (.ifCond .eq 5, 3) := by decide +kernel
theorem dX1_hasEdgeBefore_34 : decode cX1_hasEdgeBefore 34 = .ok (.iconst 1, 1) := by decide +kernel
theorem dX1_hasEdgeBefore_35 : decode cX1_hasEdgeBefore 35 = .ok (.ireturn, 1) := by decide +kernel
theorem dX1_hasEdgeBefore_36 : decode cX1_hasEdgeBefore 36 = .ok (.iinc 3 1, 3) := by decide +kernel
theorem dX1_hasEdgeBefore_39 : decode cX1_hasEdgeBefore 39 = .ok (.goto (-24), 3) := by decide +kernel
theorem dX1_hasEdgeBefore_42 : decode cX1_hasEdgeBefore 42 = .ok (.iinc 2 1, 3) := by decide +kernel
theorem dX1_hasEdgeBefore_45 : decode cX1_hasEdgeBefore 45 = .ok (.goto (-43), 3) := by decide +kernel
theorem dX1_hasEdgeBefore_48 : decode cX1_hasEdgeBefore 48 = .ok (.iconst 0, 1) := by decide +kernel
theorem dX1_hasEdgeBefore_49 : decode cX1_hasEdgeBefore 49 = .ok (.ireturn, 1) := by decide +kernel
theorem dX1_separates_0 : decode cX1_separates 0 = .ok (.aload_n 0, 1) := by decide +kernel
theorem dX1_separates_1 : decode cX1_separates 1 = .ok (.getfield 13, 3) := by decide +kernel
theorem dX1_separates_4 : decode cX1_separates 4 = .ok (.iload_n 2, 1) := by decide +kernel
theorem dX1_separates_5 : decode cX1_separates 5 = .ok (.iaload, 1) := by decide +kernel
theorem dX1_separates_6 : decode cX1_separates 6 = .ok (.aload_n 0, 1) := by decide +kernel
theorem dX1_separates_7 : decode cX1_separates 7 = .ok (.getfield 13, 3) := by decide +kernel
theorem dX1_separates_10 : decode cX1_separates 10 = .ok (.iload_n 1, 1) := by decide +kernel
theorem dX1_separates_11 : decode cX1_separates 11 = .ok (.iaload, 1) := by decide +kernel
theorem dX1_separates_12 : decode cX1_separates 12 = .ok (.isub, 1) := by decide +kernel
theorem dX1_separates_13 : decode cX1_separates 13 = .ok (.istore 4, 2) := by decide +kernel
theorem dX1_separates_15 : decode cX1_separates 15 = .ok (.aload_n 0, 1) := by decide +kernel
theorem dX1_separates_16 : decode cX1_separates 16 = .ok (.getfield 17, 3) := by decide +kernel
theorem dX1_separates_19 : decode cX1_separates 19 = .ok (.iload_n 2, 1) := by decide +kernel
theorem dX1_separates_20 : decode cX1_separates 20 = .ok (.iaload, 1) := by decide +kernel
theorem dX1_separates_21 : decode cX1_separates 21 = .ok (.aload_n 0, 1) := by decide +kernel
theorem dX1_separates_22 : decode cX1_separates 22 = .ok (.getfield 17, 3) := by decide +kernel
theorem dX1_separates_25 : decode cX1_separates 25 = .ok (.iload_n 1, 1) := by decide +kernel
theorem dX1_separates_26 : decode cX1_separates 26 = .ok (.iaload, 1) := by decide +kernel
theorem dX1_separates_27 : decode cX1_separates 27 = .ok (.isub, 1) := by decide +kernel
theorem dX1_separates_28 : decode cX1_separates 28 = .ok (.istore 5, 2) := by decide +kernel
theorem dX1_separates_30 : decode cX1_separates 30 = .ok (.iload 4, 2) := by decide +kernel
theorem dX1_separates_32 : decode cX1_separates 32 = .ok (.aload_n 0, 1) := by decide +kernel
theorem dX1_separates_33 : decode cX1_separates 33 = .ok (.getfield 17, 3) := by decide +kernel
theorem dX1_separates_36 : decode cX1_separates 36 = .ok (.iload_n 1, 1) := by decide +kernel
theorem dX1_separates_37 : decode cX1_separates 37 = .ok (.iaload, 1) := by decide +kernel
theorem dX1_separates_38 : decode cX1_separates 38 = .ok (.imul, 1) := by decide +kernel
theorem dX1_separates_39 : decode cX1_separates 39 = .ok (.iload 5, 2) := by decide +kernel
theorem dX1_separates_41 : decode cX1_separates 41 = .ok (.aload_n 0, 1) := by decide +kernel
theorem dX1_separates_42 : decode cX1_separates 42 = .ok (.getfield 13, 3) := by decide +kernel
theorem dX1_separates_45 : decode cX1_separates 45 = .ok (.iload_n 1, 1) := by decide +kernel
theorem dX1_separates_46 : decode cX1_separates 46 = .ok (.iaload, 1) := by decide +kernel
theorem dX1_separates_47 : decode cX1_separates 47 = .ok (.imul, 1) := by decide +kernel
theorem dX1_separates_48 : decode cX1_separates 48 = .ok (.isub, 1) := by decide +kernel
theorem dX1_separates_49 : decode cX1_separates 49 = .ok (.istore 6, 2) := by decide +kernel
theorem dX1_separates_51 : decode cX1_separates 51 = .ok (.iconst 0, 1) := by decide +kernel
theorem dX1_separates_52 : decode cX1_separates 52 = .ok (.istore 7, 2) := by decide +kernel
theorem dX1_separates_54 : decode cX1_separates 54 = .ok (.iconst 0, 1) := by decide +kernel
theorem dX1_separates_55 : decode cX1_separates 55 = .ok (.istore 8, 2) := by decide +kernel
theorem dX1_separates_57 : decode cX1_separates 57 = .ok (.iconst 0, 1) := by decide +kernel
theorem dX1_separates_58 : decode cX1_separates 58 = .ok (.istore 9, 2) := by decide +kernel
theorem dX1_separates_60 : decode cX1_separates 60 = .ok (.iload 9, 2) := by decide +kernel
theorem dX1_separates_62 : decode cX1_separates 62 = .ok (.aload_n 0, 1) := by decide +kernel
theorem dX1_separates_63 : decode cX1_separates 63 = .ok (.getfield 13, 3) := by decide +kernel
theorem dX1_separates_66 : decode cX1_separates 66 = .ok (.arraylength, 1) := by decide +kernel
theorem dX1_separates_67 : decode cX1_separates 67 = .ok (.if_icmp .ge 69, 3) := by decide +kernel
theorem dX1_separates_70 : decode cX1_separates 70 = .ok (.iload 4, 2) := by decide +kernel
theorem dX1_separates_72 : decode cX1_separates 72 = .ok (.aload_n 0, 1) := by decide +kernel
theorem dX1_separates_73 : decode cX1_separates 73 = .ok (.getfield 17, 3) := by decide +kernel
theorem dX1_separates_76 : decode cX1_separates 76 = .ok (.iload 9, 2) := by decide +kernel
theorem dX1_separates_78 : decode cX1_separates 78 = .ok (.iaload, 1) := by decide +kernel
theorem dX1_separates_79 : decode cX1_separates 79 = .ok (.imul, 1) := by decide +kernel
theorem dX1_separates_80 : decode cX1_separates 80 = .ok (.iload 5, 2) := by decide +kernel
theorem dX1_separates_82 : decode cX1_separates 82 = .ok (.aload_n 0, 1) := by decide +kernel
theorem dX1_separates_83 : decode cX1_separates 83 = .ok (.getfield 13, 3) := by decide +kernel
theorem dX1_separates_86 : decode cX1_separates 86 = .ok (.iload 9, 2) := by decide +kernel
theorem dX1_separates_88 : decode cX1_separates 88 = .ok (.iaload, 1) := by decide +kernel
theorem dX1_separates_89 : decode cX1_separates 89 = .ok (.imul, 1) := by decide +kernel
theorem dX1_separates_90 : decode cX1_separates 90 = .ok (.isub, 1) := by decide +kernel
theorem dX1_separates_91 : decode cX1_separates 91 = .ok (.iload 6, 2) := by decide +kernel
theorem dX1_separates_93 : decode cX1_separates 93 = .ok (.isub, 1) := by decide +kernel
theorem dX1_separates_94 : decode cX1_separates 94 = .ok (.istore 10, 2) := by decide +kernel
theorem dX1_separates_96 : decode cX1_separates 96 = .ok (.iload 7, 2) := by decide +kernel
theorem dX1_separates_98 : decode cX1_separates 98 = .ok (.ifCond .ne 8, 3) := by decide +kernel
theorem dX1_separates_101 : decode cX1_separates 101 = .ok (.iload 10, 2) := by decide +kernel
theorem dX1_separates_103 : decode cX1_separates 103 = .ok (.ifCond .le 7, 3) := by decide +kernel
theorem dX1_separates_106 : decode cX1_separates 106 = .ok (.iconst 1, 1) := by decide +kernel
theorem dX1_separates_107 : decode cX1_separates 107 = .ok (.goto 4, 3) := by decide +kernel
theorem dX1_separates_110 : decode cX1_separates 110 = .ok (.iconst 0, 1) := by decide +kernel
theorem dX1_separates_111 : decode cX1_separates 111 = .ok (.istore 7, 2) := by decide +kernel
theorem dX1_separates_113 : decode cX1_separates 113 = .ok (.iload 8, 2) := by decide +kernel
theorem dX1_separates_115 : decode cX1_separates 115 = .ok (.ifCond .ne 8, 3) := by decide +kernel
theorem dX1_separates_118 : decode cX1_separates 118 = .ok (.iload 10, 2) := by decide +kernel
theorem dX1_separates_120 : decode cX1_separates 120 = .ok (.ifCond .ge 7, 3) := by decide +kernel
theorem dX1_separates_123 : decode cX1_separates 123 = .ok (.iconst 1, 1) := by decide +kernel
theorem dX1_separates_124 : decode cX1_separates 124 = .ok (.goto 4, 3) := by decide +kernel
theorem dX1_separates_127 : decode cX1_separates 127 = .ok (.iconst 0, 1) := by decide +kernel
theorem dX1_separates_128 : decode cX1_separates 128 = .ok (.istore 8, 2) := by decide +kernel
theorem dX1_separates_130 : decode cX1_separates 130 = .ok (.iinc 9 1, 3) := by decide +kernel
theorem dX1_separates_133 : decode cX1_separates 133 = .ok (.goto (-73), 3) := by decide +kernel
theorem dX1_separates_136 : decode cX1_separates 136 = .ok (.iload 7, 2) := by decide +kernel
theorem dX1_separates_138 : decode cX1_separates 138 = .ok (.ifCond .eq 10, 3) := by decide +kernel
theorem dX1_separates_141 : decode cX1_separates 141 = .ok (.iload 8, 2) := by decide +kernel
theorem dX1_separates_143 : decode cX1_separates 143 = .ok (.ifCond .eq 5, 3) := by decide +kernel
theorem dX1_separates_146 : decode cX1_separates 146 = .ok (.iconst 0, 1) := by decide +kernel
theorem dX1_separates_147 : decode cX1_separates 147 = .ok (.ireturn, 1) := by decide +kernel
theorem dX1_separates_148 : decode cX1_separates 148 = .ok (.iconst 0, 1) := by decide +kernel
theorem dX1_separates_149 : decode cX1_separates 149 = .ok (.istore 9, 2) := by decide +kernel
theorem dX1_separates_151 : decode cX1_separates 151 = .ok (.iload 9, 2) := by decide +kernel
theorem dX1_separates_153 : decode cX1_separates 153 = .ok (.aload_n 3, 1) := by decide +kernel
theorem dX1_separates_154 : decode cX1_separates 154 = .ok (.getfield 13, 3) := by decide +kernel
theorem dX1_separates_157 : decode cX1_separates 157 = .ok (.arraylength, 1) := by decide +kernel
theorem dX1_separates_158 : decode cX1_separates 158 = .ok (.if_icmp .ge 55, 3) := by decide +kernel
theorem dX1_separates_161 : decode cX1_separates 161 = .ok (.iload 4, 2) := by decide +kernel
theorem dX1_separates_163 : decode cX1_separates 163 = .ok (.aload_n 3, 1) := by decide +kernel
theorem dX1_separates_164 : decode cX1_separates 164 = .ok (.getfield 17, 3) := by decide +kernel
theorem dX1_separates_167 : decode cX1_separates 167 = .ok (.iload 9, 2) := by decide +kernel
theorem dX1_separates_169 : decode cX1_separates 169 = .ok (.iaload, 1) := by decide +kernel
theorem dX1_separates_170 : decode cX1_separates 170 = .ok (.imul, 1) := by decide +kernel
theorem dX1_separates_171 : decode cX1_separates 171 = .ok (.iload 5, 2) := by decide +kernel
theorem dX1_separates_173 : decode cX1_separates 173 = .ok (.aload_n 3, 1) := by decide +kernel
theorem dX1_separates_174 : decode cX1_separates 174 = .ok (.getfield 13, 3) := by decide +kernel
theorem dX1_separates_177 : decode cX1_separates 177 = .ok (.iload 9, 2) := by decide +kernel
theorem dX1_separates_179 : decode cX1_separates 179 = .ok (.iaload, 1) := by decide +kernel
theorem dX1_separates_180 : decode cX1_separates 180 = .ok (.imul, 1) := by decide +kernel
theorem dX1_separates_181 : decode cX1_separates 181 = .ok (.isub, 1) := by decide +kernel
theorem dX1_separates_182 : decode cX1_separates 182 = .ok (.iload 6, 2) := by decide +kernel
theorem dX1_separates_184 : decode cX1_separates 184 = .ok (.isub, 1) := by decide +kernel
theorem dX1_separates_185 : decode cX1_separates 185 = .ok (.istore 10, 2) := by decide +kernel
theorem dX1_separates_187 : decode cX1_separates 187 = .ok (.iload 7, 2) := by decide +kernel
theorem dX1_separates_189 : decode cX1_separates 189 = .ok (.ifCond .eq 11, 3) := by decide +kernel
theorem dX1_separates_192 : decode cX1_separates 192 = .ok (.iload 10, 2) := by decide +kernel
theorem dX1_separates_194 : decode cX1_separates 194 = .ok (.ifCond .lt 13, 3) := by decide +kernel
theorem dX1_separates_197 : decode cX1_separates 197 = .ok (.goto 8, 3) := by decide +kernel
theorem dX1_separates_200 : decode cX1_separates 200 = .ok (.iload 10, 2) := by decide +kernel
theorem dX1_separates_202 : decode cX1_separates 202 = .ok (.ifCond .gt 5, 3) := by decide +kernel
theorem dX1_separates_205 : decode cX1_separates 205 = .ok (.iconst 0, 1) := by decide +kernel
theorem dX1_separates_206 : decode cX1_separates 206 = .ok (.ireturn, 1) := by decide +kernel
theorem dX1_separates_207 : decode cX1_separates 207 = .ok (.iinc 9 1, 3) := by decide +kernel
theorem dX1_separates_210 : decode cX1_separates 210 = .ok (.goto (-59), 3) := by decide +kernel
theorem dX1_separates_213 : decode cX1_separates 213 = .ok (.iconst 1, 1) := by decide +kernel
theorem dX1_separates_214 : decode cX1_separates 214 = .ok (.ireturn, 1) := by decide +kernel
