theorem dX4_init_0 : decode cX4_init 0 = .ok (.aload_n 0, 1) := by decide +kernel
theorem dX4_init_1 : decode cX4_init 1 = .ok (.invokespecial 3, 3) := by decide +kernel
theorem dX4_init_4 : decode cX4_init 4 = .ok (.aload_n 0, 1) := by decide +kernel
theorem dX4_init_5 : decode cX4_init 5 = .ok (.iconst 4, 1) := by decide +kernel
theorem dX4_init_6 : decode cX4_init 6 = .ok (.newarray .int, 2) := by decide +kernel
theorem dX4_init_8 : decode cX4_init 8 = .ok (.putfield 9, 3) := by decide +kernel
theorem dX4_init_11 : decode cX4_init 11 = .ok (.aload_n 0, 1) := by decide +kernel
theorem dX4_init_12 : decode cX4_init 12 = .ok (.bipush 60, 2) := by decide +kernel
theorem dX4_init_14 : decode cX4_init 14 = .ok (.anewarray 13, 3) := by decide +kernel
theorem dX4_init_17 : decode cX4_init 17 = .ok (.putfield 15, 3) := by decide +kernel
theorem dX4_init_20 : decode cX4_init 20 = .ok (.aload_n 0, 1) := by decide +kernel
theorem dX4_init_21 : decode cX4_init 21 = .ok (.bipush 52, 2) := by decide +kernel
theorem dX4_init_23 : decode cX4_init 23 = .ok (.anewarray 19, 3) := by decide +kernel
theorem dX4_init_26 : decode cX4_init 26 = .ok (.putfield 21, 3) := by decide +kernel
theorem dX4_init_29 : decode cX4_init 29 = .ok (.aload_n 0, 1) := by decide +kernel
theorem dX4_init_30 : decode cX4_init 30 = .ok (.bipush 40, 2) := by decide +kernel
theorem dX4_init_32 : decode cX4_init 32 = .ok (.anewarray 25, 3) := by decide +kernel
theorem dX4_init_35 : decode cX4_init 35 = .ok (.putfield 27, 3) := by decide +kernel
theorem dX4_init_38 : decode cX4_init 38 = .ok (.aload_n 0, 1) := by decide +kernel
theorem dX4_init_39 : decode cX4_init 39 = .ok (.bipush 80, 2) := by decide +kernel
theorem dX4_init_41 : decode cX4_init 41 = .ok (.anewarray 31, 3) := by decide +kernel
theorem dX4_init_44 : decode cX4_init 44 = .ok (.putfield 33, 3) := by decide +kernel
theorem dX4_init_47 : decode cX4_init 47 = .ok (.aload_n 0, 1) := by decide +kernel
theorem dX4_init_48 : decode cX4_init 48 = .ok (.iconst 0, 1) := by decide +kernel
theorem dX4_init_49 : decode cX4_init 49 = .ok (.invokestatic 37, 3) := by decide +kernel
theorem dX4_init_52 : decode cX4_init 52 = .ok (.putfield 41, 3) := by decide +kernel
theorem dX4_init_55 : decode cX4_init 55 = .ok (.aload_n 0, 1) := by decide +kernel
theorem dX4_init_56 : decode cX4_init 56 = .ok (.invokevirtual 45, 3) := by decide +kernel
theorem dX4_init_59 : decode cX4_init 59 = .ok (.return_, 1) := by decide +kernel
theorem dX4_line_0 : decode cX4_line 0 = .ok (.bipush 100, 2) := by decide +kernel
theorem dX4_line_2 : decode cX4_line 2 = .ok (.iload_n 1, 1) := by decide +kernel
theorem dX4_line_3 : decode cX4_line 3 = .ok (.sipush 1000, 3) := by decide +kernel
theorem dX4_line_6 : decode cX4_line 6 = .ok (.invokestatic 48, 3) := by decide +kernel
theorem dX4_line_9 : decode cX4_line 9 = .ok (.ifCond .ne 7, 3) := by decide +kernel
theorem dX4_line_12 : decode cX4_line 12 = .ok (.sipush (-9002), 3) := by decide +kernel
theorem dX4_line_15 : decode cX4_line 15 = .ok (.ireturn, 1) := by decide +kernel
theorem dX4_line_16 : decode cX4_line 16 = .ok (.aload_n 0, 1) := by decide +kernel
theorem dX4_line_17 : decode cX4_line 17 = .ok (.getfield 52, 3) := by decide +kernel
theorem dX4_line_20 : decode cX4_line 20 = .ok (.iconst 4, 1) := by decide +kernel
theorem dX4_line_21 : decode cX4_line 21 = .ok (.if_icmp .lt 7, 3) := by decide +kernel
theorem dX4_line_24 : decode cX4_line 24 = .ok (.sipush (-9004), 3) := by decide +kernel
theorem dX4_line_27 : decode cX4_line 27 = .ok (.ireturn, 1) := by decide +kernel
theorem dX4_line_28 : decode cX4_line 28 = .ok (.aload_n 0, 1) := by decide +kernel
theorem dX4_line_29 : decode cX4_line 29 = .ok (.getfield 9, 3) := by decide +kernel
theorem dX4_line_32 : decode cX4_line 32 = .ok (.aload_n 0, 1) := by decide +kernel
theorem dX4_line_33 : decode cX4_line 33 = .ok (.getfield 52, 3) := by decide +kernel
theorem dX4_line_36 : decode cX4_line 36 = .ok (.iload_n 1, 1) := by decide +kernel
theorem dX4_line_37 : decode cX4_line 37 = .ok (.iastore, 1) := by decide +kernel
theorem dX4_line_38 : decode cX4_line 38 = .ok (.aload_n 0, 1) := by decide +kernel
theorem dX4_line_39 : decode cX4_line 39 = .ok (.dup, 1) := by decide +kernel
theorem dX4_line_40 : decode cX4_line 40 = .ok (.getfield 52, 3) := by decide +kernel
theorem dX4_line_43 : decode cX4_line 43 = .ok (.dup_x1, 1) := by decide +kernel
theorem dX4_line_44 : decode cX4_line 44 = .ok (.iconst 1, 1) := by decide +kernel
theorem dX4_line_45 : decode cX4_line 45 = .ok (.iadd, 1) := by decide +kernel
theorem dX4_line_46 : decode cX4_line 46 = .ok (.putfield 52, 3) := by decide +kernel
theorem dX4_line_49 : decode cX4_line 49 = .ok (.ireturn, 1) := by decide +kernel
theorem dX4_note_0 : decode cX4_note 0 = .ok (.aload_n 0, 1) := by decide +kernel
theorem dX4_note_1 : decode cX4_note 1 = .ok (.iload_n 1, 1) := by decide +kernel
theorem dX4_note_2 : decode cX4_note 2 = .ok (.invokevirtual 56, 3) := by decide +kernel
theorem dX4_note_5 : decode cX4_note 5 = .ok (.ifCond .ne 7, 3) := by decide +kernel
theorem dX4_note_8 : decode cX4_note 8 = .ok (.sipush (-9001), 3) := by decide +kernel
theorem dX4_note_11 : decode cX4_note 11 = .ok (.ireturn, 1) := by decide +kernel
theorem dX4_note_12 : decode cX4_note 12 = .ok (.iconst 0, 1) := by decide +kernel
theorem dX4_note_13 : decode cX4_note 13 = .ok (.iload_n 2, 1) := by decide +kernel
theorem dX4_note_14 : decode cX4_note 14 = .ok (.aload_n 0, 1) := by decide +kernel
theorem dX4_note_15 : decode cX4_note 15 = .ok (.getfield 9, 3) := by decide +kernel
theorem dX4_note_18 : decode cX4_note 18 = .ok (.iload_n 1, 1) := by decide +kernel
theorem dX4_note_19 : decode cX4_note 19 = .ok (.iaload, 1) := by decide +kernel
theorem dX4_note_20 : decode cX4_note 20 = .ok (.invokestatic 48, 3) := by decide +kernel
theorem dX4_note_23 : decode cX4_note 23 = .ok (.ifCond .eq 14, 3) := by decide +kernel
theorem dX4_note_26 : decode cX4_note 26 = .ok (.bipush (-100), 2) := by decide +kernel
theorem dX4_note_28 : decode cX4_note 28 = .ok (.iload_n 3, 1) := by decide +kernel
theorem dX4_note_29 : decode cX4_note 29 = .ok (.bipush 100, 2) := by decide +kernel
theorem dX4_note_31 : decode cX4_note 31 = .ok (.invokestatic 48, 3) := by decide +kernel
theorem dX4_note_34 : decode cX4_note 34 = .ok (.ifCond .ne 7, 3) := by decide +kernel
theorem dX4_note_37 : decode cX4_note 37 = .ok (.sipush (-9002), 3) := by decide +kernel
theorem dX4_note_40 : decode cX4_note 40 = .ok (.ireturn, 1) := by decide +kernel
theorem dX4_note_41 : decode cX4_note 41 = .ok (.aload_n 0, 1) := by decide +kernel
theorem dX4_note_42 : decode cX4_note 42 = .ok (.getfield 60, 3) := by decide +kernel
theorem dX4_note_45 : decode cX4_note 45 = .ok (.bipush 60, 2) := by decide +kernel
theorem dX4_note_47 : decode cX4_note 47 = .ok (.if_icmp .lt 7, 3) := by decide +kernel
theorem dX4_note_50 : decode cX4_note 50 = .ok (.sipush (-9004), 3) := by decide +kernel
theorem dX4_note_53 : decode cX4_note 53 = .ok (.ireturn, 1) := by decide +kernel
theorem dX4_note_54 : decode cX4_note 54 = .ok (.aload_n 0, 1) := by decide +kernel
theorem dX4_note_55 : decode cX4_note 55 = .ok (.getfield 15, 3) := by decide +kernel
theorem dX4_note_58 : decode cX4_note 58 = .ok (.aload_n 0, 1) := by decide +kernel
theorem dX4_note_59 : decode cX4_note 59 = .ok (.getfield 60, 3) := by decide +kernel
theorem dX4_note_62 : decode cX4_note 62 = .ok (.new 13, 3) := by decide +kernel
theorem dX4_note_65 : decode cX4_note 65 = .ok (.dup, 1) := by decide +kernel
theorem dX4_note_66 : decode cX4_note 66 = .ok (.aload_n 0, 1) := by decide +kernel
theorem dX4_note_67 : decode cX4_note 67 = .ok (.getfield 60, 3) := by decide +kernel
theorem dX4_note_70 : decode cX4_note 70 = .ok (.iload_n 1, 1) := by decide +kernel
theorem dX4_note_71 : decode cX4_note 71 = .ok (.iload_n 2, 1) := by decide +kernel
theorem dX4_note_72 : decode cX4_note 72 = .ok (.iload_n 3, 1) := by decide +kernel
theorem dX4_note_73 : decode cX4_note 73 = .ok (.iload 4, 2) := by decide +kernel
theorem dX4_note_75 : decode cX4_note 75 = .ok (.invokespecial 63, 3) := by decide +kernel
theorem dX4_note_78 : decode cX4_note 78 = .ok (.aastore, 1) := by decide +kernel
theorem dX4_note_79 : decode cX4_note 79 = .ok (.aload_n 0, 1) := by decide +kernel
theorem dX4_note_80 : decode cX4_note 80 = .ok (.dup, 1) := by decide +kernel
theorem dX4_note_81 : decode cX4_note 81 = .ok (.getfield 60, 3) := by decide +kernel
theorem dX4_note_84 : decode cX4_note 84 = .ok (.dup_x1, 1) := by decide +kernel
theorem dX4_note_85 : decode cX4_note 85 = .ok (.iconst 1, 1) := by decide +kernel
theorem dX4_note_86 : decode cX4_note 86 = .ok (.iadd, 1) := by decide +kernel
theorem dX4_note_87 : decode cX4_note 87 = .ok (.putfield 60, 3) := by decide +kernel
theorem dX4_note_90 : decode cX4_note 90 = .ok (.ireturn, 1) := by decide +kernel
theorem dX4_mark_0 : decode cX4_mark 0 = .ok (.aload_n 0, 1) := by decide +kernel
theorem dX4_mark_1 : decode cX4_mark 1 = .ok (.iload_n 1, 1) := by decide +kernel
theorem dX4_mark_2 : decode cX4_mark 2 = .ok (.invokevirtual 56, 3) := by decide +kernel
theorem dX4_mark_5 : decode cX4_mark 5 = .ok (.ifCond .ne 7, 3) := by decide +kernel
theorem dX4_mark_8 : decode cX4_mark 8 = .ok (.sipush (-9001), 3) := by decide +kernel
theorem dX4_mark_11 : decode cX4_mark 11 = .ok (.ireturn, 1) := by decide +kernel
theorem dX4_mark_12 : decode cX4_mark 12 = .ok (.aload_n 0, 1) := by decide +kernel
theorem dX4_mark_13 : decode cX4_mark 13 = .ok (.iload_n 1, 1) := by decide +kernel
theorem dX4_mark_14 : decode cX4_mark 14 = .ok (.iload_n 2, 1) := by decide +kernel
theorem dX4_mark_15 : decode cX4_mark 15 = .ok (.iload_n 3, 1) := by decide +kernel
theorem dX4_mark_16 : decode cX4_mark 16 = .ok (.invokevirtual 66, 3) := by decide +kernel
theorem dX4_mark_19 : decode cX4_mark 19 = .ok (.ifCond .eq 27, 3) := by decide +kernel
theorem dX4_mark_22 : decode cX4_mark 22 = .ok (.iconst 1, 1) := by decide +kernel
theorem dX4_mark_23 : decode cX4_mark 23 = .ok (.iload 4, 2) := by decide +kernel
theorem dX4_mark_25 : decode cX4_mark 25 = .ok (.sipush 200, 3) := by decide +kernel
theorem dX4_mark_28 : decode cX4_mark 28 = .ok (.invokestatic 48, 3) := by decide +kernel
theorem dX4_mark_31 : decode cX4_mark 31 = .ok (.ifCond .eq 15, 3) := by decide +kernel
theorem dX4_mark_34 : decode cX4_mark 34 = .ok (.iconst 1, 1) := by decide +kernel
theorem dX4_mark_35 : decode cX4_mark 35 = .ok (.iload 5, 2) := by decide +kernel
theorem dX4_mark_37 : decode cX4_mark 37 = .ok (.sipush 200, 3) := by decide +kernel
theorem dX4_mark_40 : decode cX4_mark 40 = .ok (.invokestatic 48, 3) := by decide +kernel
theorem dX4_mark_43 : decode cX4_mark 43 = .ok (.ifCond .ne 7, 3) := by decide +kernel
theorem dX4_mark_46 : decode cX4_mark 46 = .ok (.sipush (-9002), 3) := by decide +kernel
theorem dX4_mark_49 : decode cX4_mark 49 = .ok (.ireturn, 1) := by decide +kernel
theorem dX4_mark_50 : decode cX4_mark 50 = .ok (.aload_n 0, 1) := by decide +kernel
theorem dX4_mark_51 : decode cX4_mark 51 = .ok (.getfield 69, 3) := by decide +kernel
theorem dX4_mark_54 : decode cX4_mark 54 = .ok (.bipush 40, 2) := by decide +kernel
theorem dX4_mark_56 : decode cX4_mark 56 = .ok (.if_icmp .lt 7, 3) := by decide +kernel
theorem dX4_mark_59 : decode cX4_mark 59 = .ok (.sipush (-9004), 3) := by decide +kernel
theorem dX4_mark_62 : decode cX4_mark 62 = .ok (.ireturn, 1) := by decide +kernel
theorem dX4_mark_63 : decode cX4_mark 63 = .ok (.aload_n 0, 1) := by decide +kernel
theorem dX4_mark_64 : decode cX4_mark 64 = .ok (.getfield 21, 3) := by decide +kernel
theorem dX4_mark_67 : decode cX4_mark 67 = .ok (.aload_n 0, 1) := by decide +kernel
theorem dX4_mark_68 : decode cX4_mark 68 = .ok (.getfield 69, 3) := by decide +kernel
theorem dX4_mark_71 : decode cX4_mark 71 = .ok (.aload_n 0, 1) := by decide +kernel
theorem dX4_mark_72 : decode cX4_mark 72 = .ok (.getfield 72, 3) := by decide +kernel
theorem dX4_mark_75 : decode cX4_mark 75 = .ok (.iadd, 1) := by decide +kernel
theorem dX4_mark_76 : decode cX4_mark 76 = .ok (.iload_n 1, 1) := by decide +kernel
theorem dX4_mark_77 : decode cX4_mark 77 = .ok (.iload_n 2, 1) := by decide +kernel
theorem dX4_mark_78 : decode cX4_mark 78 = .ok (.iload_n 3, 1) := by decide +kernel
theorem dX4_mark_79 : decode cX4_mark 79 = .ok (.iload 4, 2) := by decide +kernel
theorem dX4_mark_81 : decode cX4_mark 81 = .ok (.iload 5, 2) := by decide +kernel
theorem dX4_mark_83 : decode cX4_mark 83 = .ok (.invokestatic 75, 3) := by decide +kernel
theorem dX4_mark_86 : decode cX4_mark 86 = .ok (.aastore, 1) := by decide +kernel
theorem dX4_mark_87 : decode cX4_mark 87 = .ok (.aload_n 0, 1) := by decide +kernel
theorem dX4_mark_88 : decode cX4_mark 88 = .ok (.dup, 1) := by decide +kernel
theorem dX4_mark_89 : decode cX4_mark 89 = .ok (.getfield 69, 3) := by decide +kernel
theorem dX4_mark_92 : decode cX4_mark 92 = .ok (.iconst 1, 1) := by decide +kernel
theorem dX4_mark_93 : decode cX4_mark 93 = .ok (.iadd, 1) := by decide +kernel
theorem dX4_mark_94 : decode cX4_mark 94 = .ok (.dup_x1, 1) := by decide +kernel
theorem dX4_mark_95 : decode cX4_mark 95 = .ok (.putfield 69, 3) := by decide +kernel
theorem dX4_mark_98 : decode cX4_mark 98 = .ok (.ireturn, 1) := by decide +kernel
theorem dX4_wedge_0 : decode cX4_wedge 0 = .ok (.aload_n 0, 1) := by decide +kernel
theorem dX4_wedge_1 : decode cX4_wedge 1 = .ok (.iload_n 1, 1) := by decide +kernel
theorem dX4_wedge_2 : decode cX4_wedge 2 = .ok (.invokevirtual 56, 3) := by decide +kernel
theorem dX4_wedge_5 : decode cX4_wedge 5 = .ok (.ifCond .ne 7, 3) := by decide +kernel
theorem dX4_wedge_8 : decode cX4_wedge 8 = .ok (.sipush (-9001), 3) := by decide +kernel
theorem dX4_wedge_11 : decode cX4_wedge 11 = .ok (.ireturn, 1) := by decide +kernel
theorem dX4_wedge_12 : decode cX4_wedge 12 = .ok (.aload_n 0, 1) := by decide +kernel
theorem dX4_wedge_13 : decode cX4_wedge 13 = .ok (.iload_n 1, 1) := by decide +kernel
theorem dX4_wedge_14 : decode cX4_wedge 14 = .ok (.iload_n 2, 1) := by decide +kernel
theorem dX4_wedge_15 : decode cX4_wedge 15 = .ok (.iload 4, 2) := by decide +kernel
theorem dX4_wedge_17 : decode cX4_wedge 17 = .ok (.invokevirtual 66, 3) := by decide +kernel
theorem dX4_wedge_20 : decode cX4_wedge 20 = .ok (.ifCond .eq 30, 3) := by decide +kernel
theorem dX4_wedge_23 : decode cX4_wedge 23 = .ok (.aload_n 0, 1) := by decide +kernel
theorem dX4_wedge_24 : decode cX4_wedge 24 = .ok (.iload_n 1, 1) := by decide +kernel
theorem dX4_wedge_25 : decode cX4_wedge 25 = .ok (.iload_n 3, 1) := by decide +kernel
theorem dX4_wedge_26 : decode cX4_wedge 26 = .ok (.iload 4, 2) := by decide +kernel
theorem dX4_wedge_28 : decode cX4_wedge 28 = .ok (.invokevirtual 66, 3) := by decide +kernel
theorem dX4_wedge_31 : decode cX4_wedge 31 = .ok (.ifCond .eq 19, 3) := by decide +kernel
theorem dX4_wedge_34 : decode cX4_wedge 34 = .ok (.iload_n 2, 1) := by decide +kernel
theorem dX4_wedge_35 : decode cX4_wedge 35 = .ok (.iload_n 3, 1) := by decide +kernel
theorem dX4_wedge_36 : decode cX4_wedge 36 = .ok (.if_icmp .eq 14, 3) := by decide +kernel
theorem dX4_wedge_39 : decode cX4_wedge 39 = .ok (.iconst 1, 1) := by decide +kernel
theorem dX4_wedge_40 : decode cX4_wedge 40 = .ok (.iload 5, 2) := by decide +kernel
theorem dX4_wedge_42 : decode cX4_wedge 42 = .ok (.bipush 40, 2) := by decide +kernel
theorem dX4_wedge_44 : decode cX4_wedge 44 = .ok (.invokestatic 48, 3) := by decide +kernel
theorem dX4_wedge_47 : decode cX4_wedge 47 = .ok (.ifCond .ne 7, 3) := by decide +kernel
theorem dX4_wedge_50 : decode cX4_wedge 50 = .ok (.sipush (-9002), 3) := by decide +kernel
theorem dX4_wedge_53 : decode cX4_wedge 53 = .ok (.ireturn, 1) := by decide +kernel
theorem dX4_wedge_54 : decode cX4_wedge 54 = .ok (.aload_n 0, 1) := by decide +kernel
theorem dX4_wedge_55 : decode cX4_wedge 55 = .ok (.getfield 72, 3) := by decide +kernel
theorem dX4_wedge_58 : decode cX4_wedge 58 = .ok (.bipush 12, 2) := by decide +kernel
theorem dX4_wedge_60 : decode cX4_wedge 60 = .ok (.if_icmp .lt 7, 3) := by decide +kernel
theorem dX4_wedge_63 : decode cX4_wedge 63 = .ok (.sipush (-9004), 3) := by decide +kernel
theorem dX4_wedge_66 : decode cX4_wedge 66 = .ok (.ireturn, 1) := by decide +kernel
theorem dX4_wedge_67 : decode cX4_wedge 67 = .ok (.aload_n 0, 1) := by decide +kernel
theorem dX4_wedge_68 : decode cX4_wedge 68 = .ok (.getfield 21, 3) := by decide +kernel
theorem dX4_wedge_71 : decode cX4_wedge 71 = .ok (.aload_n 0, 1) := by decide +kernel
theorem dX4_wedge_72 : decode cX4_wedge 72 = .ok (.getfield 69, 3) := by decide +kernel
theorem dX4_wedge_75 : decode cX4_wedge 75 = .ok (.aload_n 0, 1) := by decide +kernel
theorem dX4_wedge_76 : decode cX4_wedge 76 = .ok (.getfield 72, 3) := by decide +kernel
theorem dX4_wedge_79 : decode cX4_wedge 79 = .ok (.iadd, 1) := by decide +kernel
theorem dX4_wedge_80 : decode cX4_wedge 80 = .ok (.iload_n 1, 1) := by decide +kernel
theorem dX4_wedge_81 : decode cX4_wedge 81 = .ok (.iload_n 2, 1) := by decide +kernel
theorem dX4_wedge_82 : decode cX4_wedge 82 = .ok (.iload_n 3, 1) := by decide +kernel
theorem dX4_wedge_83 : decode cX4_wedge 83 = .ok (.iload 4, 2) := by decide +kernel
theorem dX4_wedge_85 : decode cX4_wedge 85 = .ok (.iload 5, 2) := by decide +kernel
theorem dX4_wedge_87 : decode cX4_wedge 87 = .ok (.invokestatic 79, 3) := by decide +kernel
theorem dX4_wedge_90 : decode cX4_wedge 90 = .ok (.aastore, 1) := by decide +kernel
theorem dX4_wedge_91 : decode cX4_wedge 91 = .ok (.aload_n 0, 1) := by decide +kernel
theorem dX4_wedge_92 : decode cX4_wedge 92 = .ok (.dup, 1) := by decide +kernel
theorem dX4_wedge_93 : decode cX4_wedge 93 = .ok (.getfield 72, 3) := by decide +kernel
theorem dX4_wedge_96 : decode cX4_wedge 96 = .ok (.iconst 1, 1) := by decide +kernel
theorem dX4_wedge_97 : decode cX4_wedge 97 = .ok (.iadd, 1) := by decide +kernel
theorem dX4_wedge_98 : decode cX4_wedge 98 = .ok (.dup_x1, 1) := by decide +kernel
theorem dX4_wedge_99 : decode cX4_wedge 99 = .ok (.putfield 72, 3) := by decide +kernel
theorem dX4_wedge_102 : decode cX4_wedge 102 = .ok (.ireturn, 1) := by decide +kernel
theorem dX4_tie_0 : decode cX4_tie 0 = .ok (.aload_n 0, 1) := by decide +kernel
theorem dX4_tie_1 : decode cX4_tie 1 = .ok (.iload_n 1, 1) := by decide +kernel
theorem dX4_tie_2 : decode cX4_tie 2 = .ok (.iload_n 2, 1) := by decide +kernel
theorem dX4_tie_3 : decode cX4_tie 3 = .ok (.iconst 1, 1) := by decide +kernel
theorem dX4_tie_4 : decode cX4_tie 4 = .ok (.invokevirtual 82, 3) := by decide +kernel
theorem dX4_tie_7 : decode cX4_tie 7 = .ok (.ireturn, 1) := by decide +kernel
theorem dX4_slur_0 : decode cX4_slur 0 = .ok (.aload_n 0, 1) := by decide +kernel
theorem dX4_slur_1 : decode cX4_slur 1 = .ok (.iload_n 1, 1) := by decide +kernel
theorem dX4_slur_2 : decode cX4_slur 2 = .ok (.iload_n 2, 1) := by decide +kernel
theorem dX4_slur_3 : decode cX4_slur 3 = .ok (.iconst 0, 1) := by decide +kernel
theorem dX4_slur_4 : decode cX4_slur 4 = .ok (.invokevirtual 82, 3) := by decide +kernel
theorem dX4_slur_7 : decode cX4_slur 7 = .ok (.ireturn, 1) := by decide +kernel
theorem dX4_again_0 : decode cX4_again 0 = .ok (.iconst 0, 1) := by decide +kernel
theorem dX4_again_1 : decode cX4_again 1 = .ok (.istore_n 1, 1) := by decide +kernel
theorem dX4_again_2 : decode cX4_again 2 = .ok (.iconst 0, 1) := by decide +kernel
theorem dX4_again_3 : decode cX4_again 3 = .ok (.istore_n 2, 1) := by decide +kernel
theorem dX4_again_4 : decode cX4_again 4 = .ok (.iload_n 2, 1) := by decide +kernel
theorem dX4_again_5 : decode cX4_again 5 = .ok (.aload_n 0, 1) := by decide +kernel
theorem dX4_again_6 : decode cX4_again 6 = .ok (.getfield 86, 3) := by decide +kernel
theorem dX4_again_9 : decode cX4_again 9 = .ok (.if_icmp .ge 45, 3) := by decide +kernel
theorem dX4_again_12 : decode cX4_again 12 = .ok (.aload_n 0, 1) := by decide +kernel
theorem dX4_again_13 : decode cX4_again 13 = .ok (.getfield 33, 3) := by decide +kernel
theorem dX4_again_16 : decode cX4_again 16 = .ok (.iload_n 2, 1) := by decide +kernel
theorem dX4_again_17 : decode cX4_again 17 = .ok (.aaload, 1) := by decide +kernel
theorem dX4_again_18 : decode cX4_again 18 = .ok (.getfield 89, 3) := by decide +kernel
theorem dX4_again_21 : decode cX4_again 21 = .ok (.istore_n 3, 1) := by decide +kernel
theorem dX4_again_22 : decode cX4_again 22 = .ok (.aload_n 0, 1) := by decide +kernel
theorem dX4_again_23 : decode cX4_again 23 = .ok (.aload_n 0, 1) := by decide +kernel
theorem dX4_again_24 : decode cX4_again 24 = .ok (.getfield 33, 3) := by decide +kernel
theorem dX4_again_27 : decode cX4_again 27 = .ok (.iload_n 2, 1) := by decide +kernel
theorem dX4_again_28 : decode cX4_again 28 = .ok (.aaload, 1) := by decide +kernel
theorem dX4_again_29 : decode cX4_again 29 = .ok (.invokevirtual 92, 3) := by decide +kernel
theorem dX4_again_32 : decode cX4_again 32 = .ok (.aload_n 0, 1) := by decide +kernel
theorem dX4_again_33 : decode cX4_again 33 = .ok (.getfield 33, 3) := by decide +kernel
theorem dX4_again_36 : decode cX4_again 36 = .ok (.iload_n 2, 1) := by decide +kernel
theorem dX4_again_37 : decode cX4_again 37 = .ok (.aaload, 1) := by decide +kernel
theorem dX4_again_38 : decode cX4_again 38 = .ok (.getfield 89, 3) := by decide +kernel
theorem dX4_again_41 : decode cX4_again 41 = .ok (.iload_n 3, 1) := by decide +kernel
theorem dX4_again_42 : decode cX4_again 42 = .ok (.if_icmp .eq 6, 3) := by decide +kernel
theorem dX4_again_45 : decode cX4_again 45 = .ok (.iinc 1 1, 3) := by decide +kernel
theorem dX4_again_48 : decode cX4_again 48 = .ok (.iinc 2 1, 3) := by decide +kernel
theorem dX4_again_51 : decode cX4_again 51 = .ok (.goto (-47), 3) := by decide +kernel
theorem dX4_again_54 : decode cX4_again 54 = .ok (.iload_n 1, 1) := by decide +kernel
theorem dX4_again_55 : decode cX4_again 55 = .ok (.ireturn, 1) := by decide +kernel
theorem dX4_curve_0 : decode cX4_curve 0 = .ok (.aload_n 0, 1) := by decide +kernel
theorem dX4_curve_1 : decode cX4_curve 1 = .ok (.iload_n 1, 1) := by decide +kernel
theorem dX4_curve_2 : decode cX4_curve 2 = .ok (.invokevirtual 96, 3) := by decide +kernel
theorem dX4_curve_5 : decode cX4_curve 5 = .ok (.ifCond .ne 7, 3) := by decide +kernel
theorem dX4_curve_8 : decode cX4_curve 8 = .ok (.sipush (-9001), 3) := by decide +kernel
theorem dX4_curve_11 : decode cX4_curve 11 = .ok (.ireturn, 1) := by decide +kernel
theorem dX4_curve_12 : decode cX4_curve 12 = .ok (.aload_n 0, 1) := by decide +kernel
theorem dX4_curve_13 : decode cX4_curve 13 = .ok (.getfield 27, 3) := by decide +kernel
theorem dX4_curve_16 : decode cX4_curve 16 = .ok (.iload_n 1, 1) := by decide +kernel
theorem dX4_curve_17 : decode cX4_curve 17 = .ok (.aaload, 1) := by decide +kernel
theorem dX4_curve_18 : decode cX4_curve 18 = .ok (.astore_n 3, 1) := by decide +kernel
theorem dX4_curve_19 : decode cX4_curve 19 = .ok (.iload_n 2, 1) := by decide +kernel
theorem dX4_curve_20 : decode cX4_curve 20 = .ok (.tableswitch 75 0 4 #[36, 44, 52, 57, 62], 36) := by decide +kernel
theorem dX4_curve_56 : decode cX4_curve 56 = .ok (.aload_n 3, 1) := by decide +kernel
theorem dX4_curve_57 : decode cX4_curve 57 = .ok (.getfield 99, 3) := by decide +kernel
theorem dX4_curve_60 : decode cX4_curve 60 = .ok (.getfield 103, 3) := by decide +kernel
theorem dX4_curve_63 : decode cX4_curve 63 = .ok (.ireturn, 1) := by decide +kernel
theorem dX4_curve_64 : decode cX4_curve 64 = .ok (.aload_n 3, 1) := by decide +kernel
theorem dX4_curve_65 : decode cX4_curve 65 = .ok (.getfield 106, 3) := by decide +kernel
theorem dX4_curve_68 : decode cX4_curve 68 = .ok (.getfield 103, 3) := by decide +kernel
theorem dX4_curve_71 : decode cX4_curve 71 = .ok (.ireturn, 1) := by decide +kernel
theorem dX4_curve_72 : decode cX4_curve 72 = .ok (.aload_n 3, 1) := by decide +kernel
theorem dX4_curve_73 : decode cX4_curve 73 = .ok (.getfield 109, 3) := by decide +kernel
theorem dX4_curve_76 : decode cX4_curve 76 = .ok (.ireturn, 1) := by decide +kernel
theorem dX4_curve_77 : decode cX4_curve 77 = .ok (.aload_n 3, 1) := by decide +kernel
theorem dX4_curve_78 : decode cX4_curve 78 = .ok (.invokevirtual 112, 3) := by decide +kernel
theorem dX4_curve_81 : decode cX4_curve 81 = .ok (.ireturn, 1) := by decide +kernel
theorem dX4_curve_82 : decode cX4_curve 82 = .ok (.aload_n 3, 1) := by decide +kernel
theorem dX4_curve_83 : decode cX4_curve 83 = .ok (.getfield 115, 3) := by decide +kernel
theorem dX4_curve_86 : decode cX4_curve 86 = .ok (.ifCond .eq 7, 3) := by decide +kernel
theorem dX4_curve_89 : decode cX4_curve 89 = .ok (.iconst 1, 1) := by decide +kernel
theorem dX4_curve_90 : decode cX4_curve 90 = .ok (.goto 4, 3) := by decide +kernel
theorem dX4_curve_93 : decode cX4_curve 93 = .ok (.iconst 0, 1) := by decide +kernel
theorem dX4_curve_94 : decode cX4_curve 94 = .ok (.ireturn, 1) := by decide +kernel
theorem dX4_curve_95 : decode cX4_curve 95 = .ok (.sipush (-9002), 3) := by decide +kernel
theorem dX4_curve_98 : decode cX4_curve 98 = .ok (.ireturn, 1) := by decide +kernel
theorem dX4_part_0 : decode cX4_part 0 = .ok (.aload_n 0, 1) := by decide +kernel
theorem dX4_part_1 : decode cX4_part 1 = .ok (.iload_n 1, 1) := by decide +kernel
theorem dX4_part_2 : decode cX4_part 2 = .ok (.iload_n 2, 1) := by decide +kernel
theorem dX4_part_3 : decode cX4_part 3 = .ok (.invokevirtual 119, 3) := by decide +kernel
theorem dX4_part_6 : decode cX4_part 6 = .ok (.astore 4, 2) := by decide +kernel
theorem dX4_part_8 : decode cX4_part 8 = .ok (.aload 4, 2) := by decide +kernel
theorem dX4_part_10 : decode cX4_part 10 = .ok (.ifnonnull 7, 3) := by decide +kernel
theorem dX4_part_13 : decode cX4_part 13 = .ok (.sipush (-9001), 3) := by decide +kernel
theorem dX4_part_16 : decode cX4_part 16 = .ok (.ireturn, 1) := by decide +kernel
theorem dX4_part_17 : decode cX4_part 17 = .ok (.iload_n 3, 1) := by decide +kernel
theorem dX4_part_18 : decode cX4_part 18 = .ok (.tableswitch 87 0 5 #[38, 44, 50, 61, 75, 81], 38) := by decide +kernel
theorem dX4_part_56 : decode cX4_part 56 = .ok (.aload 4, 2) := by decide +kernel
theorem dX4_part_58 : decode cX4_part 58 = .ok (.getfield 123, 3) := by decide +kernel
theorem dX4_part_61 : decode cX4_part 61 = .ok (.ireturn, 1) := by decide +kernel
theorem dX4_part_62 : decode cX4_part 62 = .ok (.aload 4, 2) := by decide +kernel
theorem dX4_part_64 : decode cX4_part 64 = .ok (.getfield 89, 3) := by decide +kernel
theorem dX4_part_67 : decode cX4_part 67 = .ok (.ireturn, 1) := by decide +kernel
theorem dX4_part_68 : decode cX4_part 68 = .ok (.aload 4, 2) := by decide +kernel
theorem dX4_part_70 : decode cX4_part 70 = .ok (.aload 4, 2) := by decide +kernel
theorem dX4_part_72 : decode cX4_part 72 = .ok (.getfield 89, 3) := by decide +kernel
theorem dX4_part_75 : decode cX4_part 75 = .ok (.invokevirtual 126, 3) := by decide +kernel
theorem dX4_part_78 : decode cX4_part 78 = .ok (.ireturn, 1) := by decide +kernel
theorem dX4_part_79 : decode cX4_part 79 = .ok (.aload 4, 2) := by decide +kernel
theorem dX4_part_81 : decode cX4_part 81 = .ok (.getfield 130, 3) := by decide +kernel
theorem dX4_part_84 : decode cX4_part 84 = .ok (.ifCond .eq 7, 3) := by decide +kernel
theorem dX4_part_87 : decode cX4_part 87 = .ok (.iconst 1, 1) := by decide +kernel
theorem dX4_part_88 : decode cX4_part 88 = .ok (.goto 4, 3) := by decide +kernel
theorem dX4_part_91 : decode cX4_part 91 = .ok (.iconst 0, 1) := by decide +kernel
theorem dX4_part_92 : decode cX4_part 92 = .ok (.ireturn, 1) := by decide +kernel
theorem dX4_part_93 : decode cX4_part 93 = .ok (.aload 4, 2) := by decide +kernel
theorem dX4_part_95 : decode cX4_part 95 = .ok (.getfield 133, 3) := by decide +kernel
theorem dX4_part_98 : decode cX4_part 98 = .ok (.ireturn, 1) := by decide +kernel
theorem dX4_part_99 : decode cX4_part 99 = .ok (.aload 4, 2) := by decide +kernel
theorem dX4_part_101 : decode cX4_part 101 = .ok (.invokevirtual 136, 3) := by decide +kernel
theorem dX4_part_104 : decode cX4_part 104 = .ok (.ireturn, 1) := by decide +kernel
theorem dX4_part_105 : decode cX4_part 105 = .ok (.sipush (-9002), 3) := by decide +kernel
theorem dX4_part_108 : decode cX4_part 108 = .ok (.ireturn, 1) := by decide +kernel
theorem dX4_point_0 : decode cX4_point 0 = .ok (.aload_n 0, 1) := by decide +kernel
theorem dX4_point_1 : decode cX4_point 1 = .ok (.iload_n 1, 1) := by decide +kernel
theorem dX4_point_2 : decode cX4_point 2 = .ok (.iload_n 2, 1) := by decide +kernel
theorem dX4_point_3 : decode cX4_point 3 = .ok (.invokevirtual 119, 3) := by decide +kernel
theorem dX4_point_6 : decode cX4_point 6 = .ok (.astore 5, 2) := by decide +kernel
theorem dX4_point_8 : decode cX4_point 8 = .ok (.aload 5, 2) := by decide +kernel
theorem dX4_point_10 : decode cX4_point 10 = .ok (.ifnonnull 7, 3) := by decide +kernel
theorem dX4_point_13 : decode cX4_point 13 = .ok (.sipush (-9001), 3) := by decide +kernel
theorem dX4_point_16 : decode cX4_point 16 = .ok (.ireturn, 1) := by decide +kernel
theorem dX4_point_17 : decode cX4_point 17 = .ok (.iconst 0, 1) := by decide +kernel
theorem dX4_point_18 : decode cX4_point 18 = .ok (.iload_n 3, 1) := by decide +kernel
theorem dX4_point_19 : decode cX4_point 19 = .ok (.iconst 3, 1) := by decide +kernel
theorem dX4_point_20 : decode cX4_point 20 = .ok (.invokestatic 48, 3) := by decide +kernel
theorem dX4_point_23 : decode cX4_point 23 = .ok (.ifCond .eq 13, 3) := by decide +kernel
theorem dX4_point_26 : decode cX4_point 26 = .ok (.iconst 0, 1) := by decide +kernel
theorem dX4_point_27 : decode cX4_point 27 = .ok (.iload 4, 2) := by decide +kernel
theorem dX4_point_29 : decode cX4_point 29 = .ok (.iconst 1, 1) := by decide +kernel
theorem dX4_point_30 : decode cX4_point 30 = .ok (.invokestatic 48, 3) := by decide +kernel
theorem dX4_point_33 : decode cX4_point 33 = .ok (.ifCond .ne 7, 3) := by decide +kernel
theorem dX4_point_36 : decode cX4_point 36 = .ok (.sipush (-9002), 3) := by decide +kernel
theorem dX4_point_39 : decode cX4_point 39 = .ok (.ireturn, 1) := by decide +kernel
theorem dX4_point_40 : decode cX4_point 40 = .ok (.aload 5, 2) := by decide +kernel
theorem dX4_point_42 : decode cX4_point 42 = .ok (.getfield 139, 3) := by decide +kernel
theorem dX4_point_45 : decode cX4_point 45 = .ok (.iload 4, 2) := by decide +kernel
theorem dX4_point_47 : decode cX4_point 47 = .ok (.invokevirtual 142, 3) := by decide +kernel
theorem dX4_point_50 : decode cX4_point 50 = .ok (.iload_n 3, 1) := by decide +kernel
theorem dX4_point_51 : decode cX4_point 51 = .ok (.iaload, 1) := by decide +kernel
theorem dX4_point_52 : decode cX4_point 52 = .ok (.ireturn, 1) := by decide +kernel
theorem dX4_candidate_0 : decode cX4_candidate 0 = .ok (.aload_n 0, 1) := by decide +kernel
theorem dX4_candidate_1 : decode cX4_candidate 1 = .ok (.iload_n 1, 1) := by decide +kernel
theorem dX4_candidate_2 : decode cX4_candidate 2 = .ok (.iload_n 2, 1) := by decide +kernel
theorem dX4_candidate_3 : decode cX4_candidate 3 = .ok (.invokevirtual 119, 3) := by decide +kernel
theorem dX4_candidate_6 : decode cX4_candidate 6 = .ok (.astore 5, 2) := by decide +kernel
theorem dX4_candidate_8 : decode cX4_candidate 8 = .ok (.aload 5, 2) := by decide +kernel
theorem dX4_candidate_10 : decode cX4_candidate 10 = .ok (.ifnonnull 7, 3) := by decide +kernel
theorem dX4_candidate_13 : decode cX4_candidate 13 = .ok (.sipush (-9001), 3) := by decide +kernel
theorem dX4_candidate_16 : decode cX4_candidate 16 = .ok (.ireturn, 1) := by decide +kernel
theorem dX4_candidate_17 : decode cX4_candidate 17 = .ok (.iconst 0, 1) := by decide +kernel
theorem dX4_candidate_18 : decode cX4_candidate 18 = .ok (.iload_n 3, 1) := by decide +kernel
theorem dX4_candidate_19 : decode cX4_candidate 19 = .ok (.aload 5, 2) := by decide +kernel
theorem dX4_candidate_21 : decode cX4_candidate 21 = .ok (.invokevirtual 136, 3) := by decide +kernel
theorem dX4_candidate_24 : decode cX4_candidate 24 = .ok (.iconst 1, 1) := by decide +kernel
theorem dX4_candidate_25 : decode cX4_candidate 25 = .ok (.isub, 1) := by decide +kernel
theorem dX4_candidate_26 : decode cX4_candidate 26 = .ok (.invokestatic 48, 3) := by decide +kernel
theorem dX4_candidate_29 : decode cX4_candidate 29 = .ok (.ifCond .ne 7, 3) := by decide +kernel
theorem dX4_candidate_32 : decode cX4_candidate 32 = .ok (.sipush (-9002), 3) := by decide +kernel
theorem dX4_candidate_35 : decode cX4_candidate 35 = .ok (.ireturn, 1) := by decide +kernel
theorem dX4_candidate_36 : decode cX4_candidate 36 = .ok (.aload 5, 2) := by decide +kernel
theorem dX4_candidate_38 : decode cX4_candidate 38 = .ok (.iload_n 3, 1) := by decide +kernel
theorem dX4_candidate_39 : decode cX4_candidate 39 = .ok (.aload_n 0, 1) := by decide +kernel
theorem dX4_candidate_40 : decode cX4_candidate 40 = .ok (.getfield 41, 3) := by decide +kernel
theorem dX4_candidate_43 : decode cX4_candidate 43 = .ok (.invokevirtual 146, 3) := by decide +kernel
theorem dX4_candidate_46 : decode cX4_candidate 46 = .ok (.iload 4, 2) := by decide +kernel
theorem dX4_candidate_48 : decode cX4_candidate 48 = .ok (.tableswitch 51 0 2 #[28, 35, 44], 28) := by decide +kernel
theorem dX4_candidate_76 : decode cX4_candidate 76 = .ok (.aload_n 0, 1) := by decide +kernel
theorem dX4_candidate_77 : decode cX4_candidate 77 = .ok (.bipush 52, 2) := by decide +kernel
theorem dX4_candidate_79 : decode cX4_candidate 79 = .ok (.invokevirtual 150, 3) := by decide +kernel
theorem dX4_candidate_82 : decode cX4_candidate 82 = .ok (.ireturn, 1) := by decide +kernel
theorem dX4_candidate_83 : decode cX4_candidate 83 = .ok (.aload_n 0, 1) := by decide +kernel
theorem dX4_candidate_84 : decode cX4_candidate 84 = .ok (.aload 5, 2) := by decide +kernel
theorem dX4_candidate_86 : decode cX4_candidate 86 = .ok (.bipush 80, 2) := by decide +kernel
theorem dX4_candidate_88 : decode cX4_candidate 88 = .ok (.invokevirtual 153, 3) := by decide +kernel
theorem dX4_candidate_91 : decode cX4_candidate 91 = .ok (.ireturn, 1) := by decide +kernel
theorem dX4_candidate_92 : decode cX4_candidate 92 = .ok (.aload 5, 2) := by decide +kernel
theorem dX4_candidate_94 : decode cX4_candidate 94 = .ok (.iload_n 3, 1) := by decide +kernel
theorem dX4_candidate_95 : decode cX4_candidate 95 = .ok (.invokevirtual 126, 3) := by decide +kernel
theorem dX4_candidate_98 : decode cX4_candidate 98 = .ok (.ireturn, 1) := by decide +kernel
theorem dX4_candidate_99 : decode cX4_candidate 99 = .ok (.sipush (-9002), 3) := by decide +kernel
theorem dX4_candidate_102 : decode cX4_candidate 102 = .ok (.ireturn, 1) := by decide +kernel
theorem dX4_along_0 : decode cX4_along 0 = .ok (.aload_n 0, 1) := by decide +kernel
theorem dX4_along_1 : decode cX4_along 1 = .ok (.iload_n 1, 1) := by decide +kernel
theorem dX4_along_2 : decode cX4_along 2 = .ok (.iload_n 2, 1) := by decide +kernel
theorem dX4_along_3 : decode cX4_along 3 = .ok (.invokevirtual 119, 3) := by decide +kernel
theorem dX4_along_6 : decode cX4_along 6 = .ok (.astore 5, 2) := by decide +kernel
theorem dX4_along_8 : decode cX4_along 8 = .ok (.aload 5, 2) := by decide +kernel
theorem dX4_along_10 : decode cX4_along 10 = .ok (.ifnonnull 7, 3) := by decide +kernel
theorem dX4_along_13 : decode cX4_along 13 = .ok (.ldc2_w 157, 3) := by decide +kernel
theorem dX4_along_16 : decode cX4_along 16 = .ok (.lreturn, 1) := by decide +kernel
theorem dX4_along_17 : decode cX4_along 17 = .ok (.iconst 0, 1) := by decide +kernel
theorem dX4_along_18 : decode cX4_along 18 = .ok (.iload_n 3, 1) := by decide +kernel
theorem dX4_along_19 : decode cX4_along 19 = .ok (.bipush 64, 2) := by decide +kernel
theorem dX4_along_21 : decode cX4_along 21 = .ok (.invokestatic 48, 3) := by decide +kernel
theorem dX4_along_24 : decode cX4_along 24 = .ok (.ifCond .eq 13, 3) := by decide +kernel
theorem dX4_along_27 : decode cX4_along 27 = .ok (.iconst 0, 1) := by decide +kernel
theorem dX4_along_28 : decode cX4_along 28 = .ok (.iload 4, 2) := by decide +kernel
theorem dX4_along_30 : decode cX4_along 30 = .ok (.iconst 1, 1) := by decide +kernel
theorem dX4_along_31 : decode cX4_along 31 = .ok (.invokestatic 48, 3) := by decide +kernel
theorem dX4_along_34 : decode cX4_along 34 = .ok (.ifCond .ne 7, 3) := by decide +kernel
theorem dX4_along_37 : decode cX4_along 37 = .ok (.ldc2_w 159, 3) := by decide +kernel
theorem dX4_along_40 : decode cX4_along 40 = .ok (.lreturn, 1) := by decide +kernel
theorem dX4_along_41 : decode cX4_along 41 = .ok (.aload 5, 2) := by decide +kernel
theorem dX4_along_43 : decode cX4_along 43 = .ok (.getfield 139, 3) := by decide +kernel
theorem dX4_along_46 : decode cX4_along 46 = .ok (.iload 4, 2) := by decide +kernel
theorem dX4_along_48 : decode cX4_along 48 = .ok (.invokevirtual 142, 3) := by decide +kernel
theorem dX4_along_51 : decode cX4_along 51 = .ok (.astore 6, 2) := by decide +kernel
theorem dX4_along_53 : decode cX4_along 53 = .ok (.iload_n 3, 1) := by decide +kernel
theorem dX4_along_54 : decode cX4_along 54 = .ok (.i2l, 1) := by decide +kernel
theorem dX4_along_55 : decode cX4_along 55 = .ok (.lstore 7, 2) := by decide +kernel
theorem dX4_along_57 : decode cX4_along 57 = .ok (.ldc2_w 161, 3) := by decide +kernel
theorem dX4_along_60 : decode cX4_along 60 = .ok (.lload 7, 2) := by decide +kernel
theorem dX4_along_62 : decode cX4_along 62 = .ok (.lsub, 1) := by decide +kernel
theorem dX4_along_63 : decode cX4_along 63 = .ok (.lstore 9, 2) := by decide +kernel
theorem dX4_along_65 : decode cX4_along 65 = .ok (.lload 9, 2) := by decide +kernel
theorem dX4_along_67 : decode cX4_along 67 = .ok (.lload 9, 2) := by decide +kernel
theorem dX4_along_69 : decode cX4_along 69 = .ok (.lmul, 1) := by decide +kernel
theorem dX4_along_70 : decode cX4_along 70 = .ok (.lload 9, 2) := by decide +kernel
theorem dX4_along_72 : decode cX4_along 72 = .ok (.lmul, 1) := by decide +kernel
theorem dX4_along_73 : decode cX4_along 73 = .ok (.aload 6, 2) := by decide +kernel
theorem dX4_along_75 : decode cX4_along 75 = .ok (.iconst 0, 1) := by decide +kernel
theorem dX4_along_76 : decode cX4_along 76 = .ok (.iaload, 1) := by decide +kernel
theorem dX4_along_77 : decode cX4_along 77 = .ok (.i2l, 1) := by decide +kernel
theorem dX4_along_78 : decode cX4_along 78 = .ok (.lmul, 1) := by decide +kernel
theorem dX4_along_79 : decode cX4_along 79 = .ok (.ldc2_w 163, 3) := by decide +kernel
theorem dX4_along_82 : decode cX4_along 82 = .ok (.lload 9, 2) := by decide +kernel
theorem dX4_along_84 : decode cX4_along 84 = .ok (.lmul, 1) := by decide +kernel
theorem dX4_along_85 : decode cX4_along 85 = .ok (.lload 9, 2) := by decide +kernel
theorem dX4_along_87 : decode cX4_along 87 = .ok (.lmul, 1) := by decide +kernel
theorem dX4_along_88 : decode cX4_along 88 = .ok (.lload 7, 2) := by decide +kernel
theorem dX4_along_90 : decode cX4_along 90 = .ok (.lmul, 1) := by decide +kernel
theorem dX4_along_91 : decode cX4_along 91 = .ok (.aload 6, 2) := by decide +kernel
theorem dX4_along_93 : decode cX4_along 93 = .ok (.iconst 1, 1) := by decide +kernel
theorem dX4_along_94 : decode cX4_along 94 = .ok (.iaload, 1) := by decide +kernel
theorem dX4_along_95 : decode cX4_along 95 = .ok (.i2l, 1) := by decide +kernel
theorem dX4_along_96 : decode cX4_along 96 = .ok (.lmul, 1) := by decide +kernel
theorem dX4_along_97 : decode cX4_along 97 = .ok (.ladd, 1) := by decide +kernel
theorem dX4_along_98 : decode cX4_along 98 = .ok (.ldc2_w 163, 3) := by decide +kernel
theorem dX4_along_101 : decode cX4_along 101 = .ok (.lload 9, 2) := by decide +kernel
theorem dX4_along_103 : decode cX4_along 103 = .ok (.lmul, 1) := by decide +kernel
theorem dX4_along_104 : decode cX4_along 104 = .ok (.lload 7, 2) := by decide +kernel
theorem dX4_along_106 : decode cX4_along 106 = .ok (.lmul, 1) := by decide +kernel
theorem dX4_along_107 : decode cX4_along 107 = .ok (.lload 7, 2) := by decide +kernel
theorem dX4_along_109 : decode cX4_along 109 = .ok (.lmul, 1) := by decide +kernel
theorem dX4_along_110 : decode cX4_along 110 = .ok (.aload 6, 2) := by decide +kernel
theorem dX4_along_112 : decode cX4_along 112 = .ok (.iconst 2, 1) := by decide +kernel
theorem dX4_along_113 : decode cX4_along 113 = .ok (.iaload, 1) := by decide +kernel
theorem dX4_along_114 : decode cX4_along 114 = .ok (.i2l, 1) := by decide +kernel
theorem dX4_along_115 : decode cX4_along 115 = .ok (.lmul, 1) := by decide +kernel
theorem dX4_along_116 : decode cX4_along 116 = .ok (.ladd, 1) := by decide +kernel
theorem dX4_along_117 : decode cX4_along 117 = .ok (.lload 7, 2) := by decide +kernel
theorem dX4_along_119 : decode cX4_along 119 = .ok (.lload 7, 2) := by decide +kernel
theorem dX4_along_121 : decode cX4_along 121 = .ok (.lmul, 1) := by decide +kernel
theorem dX4_along_122 : decode cX4_along 122 = .ok (.lload 7, 2) := by decide +kernel
theorem dX4_along_124 : decode cX4_along 124 = .ok (.lmul, 1) := by decide +kernel
theorem dX4_along_125 : decode cX4_along 125 = .ok (.aload 6, 2) := by decide +kernel
theorem dX4_along_127 : decode cX4_along 127 = .ok (.iconst 3, 1) := by decide +kernel
theorem dX4_along_128 : decode cX4_along 128 = .ok (.iaload, 1) := by decide +kernel
theorem dX4_along_129 : decode cX4_along 129 = .ok (.i2l, 1) := by decide +kernel
theorem dX4_along_130 : decode cX4_along 130 = .ok (.lmul, 1) := by decide +kernel
theorem dX4_along_131 : decode cX4_along 131 = .ok (.ladd, 1) := by decide +kernel
theorem dX4_along_132 : decode cX4_along 132 = .ok (.lreturn, 1) := by decide +kernel
theorem dX4_within_0 : decode cX4_within 0 = .ok (.aload_n 0, 1) := by decide +kernel
theorem dX4_within_1 : decode cX4_within 1 = .ok (.iload_n 1, 1) := by decide +kernel
theorem dX4_within_2 : decode cX4_within 2 = .ok (.iload_n 2, 1) := by decide +kernel
theorem dX4_within_3 : decode cX4_within 3 = .ok (.invokevirtual 119, 3) := by decide +kernel
theorem dX4_within_6 : decode cX4_within 6 = .ok (.astore 5, 2) := by decide +kernel
theorem dX4_within_8 : decode cX4_within 8 = .ok (.aload_n 0, 1) := by decide +kernel
theorem dX4_within_9 : decode cX4_within 9 = .ok (.iload_n 3, 1) := by decide +kernel
theorem dX4_within_10 : decode cX4_within 10 = .ok (.iload 4, 2) := by decide +kernel
theorem dX4_within_12 : decode cX4_within 12 = .ok (.invokevirtual 119, 3) := by decide +kernel
theorem dX4_within_15 : decode cX4_within 15 = .ok (.astore 6, 2) := by decide +kernel
theorem dX4_within_17 : decode cX4_within 17 = .ok (.aload 5, 2) := by decide +kernel
theorem dX4_within_19 : decode cX4_within 19 = .ok (.ifnull 8, 3) := by decide +kernel
theorem dX4_within_22 : decode cX4_within 22 = .ok (.aload 6, 2) := by decide +kernel
theorem dX4_within_24 : decode cX4_within 24 = .ok (.ifnonnull 7, 3) := by decide +kernel
theorem dX4_within_27 : decode cX4_within 27 = .ok (.sipush (-9001), 3) := by decide +kernel
theorem dX4_within_30 : decode cX4_within 30 = .ok (.ireturn, 1) := by decide +kernel
theorem dX4_within_31 : decode cX4_within 31 = .ok (.aload 5, 2) := by decide +kernel
theorem dX4_within_33 : decode cX4_within 33 = .ok (.aload 6, 2) := by decide +kernel
theorem dX4_within_35 : decode cX4_within 35 = .ok (.invokevirtual 165, 3) := by decide +kernel
theorem dX4_within_38 : decode cX4_within 38 = .ok (.ifCond .eq 7, 3) := by decide +kernel
theorem dX4_within_41 : decode cX4_within 41 = .ok (.iconst 1, 1) := by decide +kernel
theorem dX4_within_42 : decode cX4_within 42 = .ok (.goto 4, 3) := by decide +kernel
theorem dX4_within_45 : decode cX4_within 45 = .ok (.iconst 0, 1) := by decide +kernel
theorem dX4_within_46 : decode cX4_within 46 = .ok (.ireturn, 1) := by decide +kernel
theorem dX4_count_0 : decode cX4_count 0 = .ok (.iload_n 1, 1) := by decide +kernel
theorem dX4_count_1 : decode cX4_count 1 = .ok (.tableswitch 69 0 5 #[39, 44, 49, 54, 59, 64], 39) := by decide +kernel
theorem dX4_count_40 : decode cX4_count 40 = .ok (.aload_n 0, 1) := by decide +kernel
theorem dX4_count_41 : decode cX4_count 41 = .ok (.getfield 52, 3) := by decide +kernel
theorem dX4_count_44 : decode cX4_count 44 = .ok (.ireturn, 1) := by decide +kernel
theorem dX4_count_45 : decode cX4_count 45 = .ok (.aload_n 0, 1) := by decide +kernel
theorem dX4_count_46 : decode cX4_count 46 = .ok (.getfield 60, 3) := by decide +kernel
theorem dX4_count_49 : decode cX4_count 49 = .ok (.ireturn, 1) := by decide +kernel
theorem dX4_count_50 : decode cX4_count 50 = .ok (.aload_n 0, 1) := by decide +kernel
theorem dX4_count_51 : decode cX4_count 51 = .ok (.getfield 69, 3) := by decide +kernel
theorem dX4_count_54 : decode cX4_count 54 = .ok (.ireturn, 1) := by decide +kernel
theorem dX4_count_55 : decode cX4_count 55 = .ok (.aload_n 0, 1) := by decide +kernel
theorem dX4_count_56 : decode cX4_count 56 = .ok (.getfield 72, 3) := by decide +kernel
theorem dX4_count_59 : decode cX4_count 59 = .ok (.ireturn, 1) := by decide +kernel
theorem dX4_count_60 : decode cX4_count 60 = .ok (.aload_n 0, 1) := by decide +kernel
theorem dX4_count_61 : decode cX4_count 61 = .ok (.getfield 169, 3) := by decide +kernel
theorem dX4_count_64 : decode cX4_count 64 = .ok (.ireturn, 1) := by decide +kernel
theorem dX4_count_65 : decode cX4_count 65 = .ok (.aload_n 0, 1) := by decide +kernel
theorem dX4_count_66 : decode cX4_count 66 = .ok (.invokevirtual 172, 3) := by decide +kernel
theorem dX4_count_69 : decode cX4_count 69 = .ok (.ireturn, 1) := by decide +kernel
theorem dX4_count_70 : decode cX4_count 70 = .ok (.sipush (-9002), 3) := by decide +kernel
theorem dX4_count_73 : decode cX4_count 73 = .ok (.ireturn, 1) := by decide +kernel
theorem dX4_clear_0 : decode cX4_clear 0 = .ok (.aload_n 0, 1) := by decide +kernel
theorem dX4_clear_1 : decode cX4_clear 1 = .ok (.getfield 169, 3) := by decide +kernel
theorem dX4_clear_4 : decode cX4_clear 4 = .ok (.istore_n 1, 1) := by decide +kernel
theorem dX4_clear_5 : decode cX4_clear 5 = .ok (.aload_n 0, 1) := by decide +kernel
theorem dX4_clear_6 : decode cX4_clear 6 = .ok (.invokevirtual 45, 3) := by decide +kernel
theorem dX4_clear_9 : decode cX4_clear 9 = .ok (.iload_n 1, 1) := by decide +kernel
theorem dX4_clear_10 : decode cX4_clear 10 = .ok (.ireturn, 1) := by decide +kernel
theorem dX4_forgetAll_0 : decode cX4_forgetAll 0 = .ok (.aload_n 0, 1) := by decide +kernel
theorem dX4_forgetAll_1 : decode cX4_forgetAll 1 = .ok (.iconst 0, 1) := by decide +kernel
theorem dX4_forgetAll_2 : decode cX4_forgetAll 2 = .ok (.putfield 52, 3) := by decide +kernel
theorem dX4_forgetAll_5 : decode cX4_forgetAll 5 = .ok (.aload_n 0, 1) := by decide +kernel
theorem dX4_forgetAll_6 : decode cX4_forgetAll 6 = .ok (.iconst 0, 1) := by decide +kernel
theorem dX4_forgetAll_7 : decode cX4_forgetAll 7 = .ok (.putfield 60, 3) := by decide +kernel
theorem dX4_forgetAll_10 : decode cX4_forgetAll 10 = .ok (.aload_n 0, 1) := by decide +kernel
theorem dX4_forgetAll_11 : decode cX4_forgetAll 11 = .ok (.iconst 0, 1) := by decide +kernel
theorem dX4_forgetAll_12 : decode cX4_forgetAll 12 = .ok (.putfield 69, 3) := by decide +kernel
theorem dX4_forgetAll_15 : decode cX4_forgetAll 15 = .ok (.aload_n 0, 1) := by decide +kernel
theorem dX4_forgetAll_16 : decode cX4_forgetAll 16 = .ok (.iconst 0, 1) := by decide +kernel
theorem dX4_forgetAll_17 : decode cX4_forgetAll 17 = .ok (.putfield 72, 3) := by decide +kernel
theorem dX4_forgetAll_20 : decode cX4_forgetAll 20 = .ok (.aload_n 0, 1) := by decide +kernel
theorem dX4_forgetAll_21 : decode cX4_forgetAll 21 = .ok (.iconst 0, 1) := by decide +kernel
theorem dX4_forgetAll_22 : decode cX4_forgetAll 22 = .ok (.putfield 169, 3) := by decide +kernel
theorem dX4_forgetAll_25 : decode cX4_forgetAll 25 = .ok (.aload_n 0, 1) := by decide +kernel
theorem dX4_forgetAll_26 : decode cX4_forgetAll 26 = .ok (.iconst 0, 1) := by decide +kernel
theorem dX4_forgetAll_27 : decode cX4_forgetAll 27 = .ok (.putfield 86, 3) := by decide +kernel
theorem dX4_forgetAll_30 : decode cX4_forgetAll 30 = .ok (.return_, 1) := by decide +kernel
theorem dX4_isFrom_0 : decode cX4_isFrom 0 = .ok (.iload_n 0, 1) := by decide +kernel
theorem dX4_isFrom_1 : decode cX4_isFrom 1 = .ok (.iload_n 1, 1) := by decide +kernel
theorem dX4_isFrom_2 : decode cX4_isFrom 2 = .ok (.if_icmp .gt 12, 3) := by decide +kernel
theorem dX4_isFrom_5 : decode cX4_isFrom 5 = .ok (.iload_n 1, 1) := by decide +kernel
theorem dX4_isFrom_6 : decode cX4_isFrom 6 = .ok (.iload_n 2, 1) := by decide +kernel
theorem dX4_isFrom_7 : decode cX4_isFrom 7 = .ok (.if_icmp .gt 7, 3) := by decide +kernel
theorem dX4_isFrom_10 : decode cX4_isFrom 10 = .ok (.iconst 1, 1) := by decide +kernel
theorem dX4_isFrom_11 : decode cX4_isFrom 11 = .ok (.goto 4, 3) := by decide +kernel
theorem dX4_isFrom_14 : decode cX4_isFrom 14 = .ok (.iconst 0, 1) := by decide +kernel
theorem dX4_isFrom_15 : decode cX4_isFrom 15 = .ok (.ireturn, 1) := by decide +kernel
theorem dX4_isLine_0 : decode cX4_isLine 0 = .ok (.iconst 0, 1) := by decide +kernel
theorem dX4_isLine_1 : decode cX4_isLine 1 = .ok (.iload_n 1, 1) := by decide +kernel
theorem dX4_isLine_2 : decode cX4_isLine 2 = .ok (.aload_n 0, 1) := by decide +kernel
theorem dX4_isLine_3 : decode cX4_isLine 3 = .ok (.getfield 52, 3) := by decide +kernel
theorem dX4_isLine_6 : decode cX4_isLine 6 = .ok (.iconst 1, 1) := by decide +kernel
theorem dX4_isLine_7 : decode cX4_isLine 7 = .ok (.isub, 1) := by decide +kernel
theorem dX4_isLine_8 : decode cX4_isLine 8 = .ok (.invokestatic 48, 3) := by decide +kernel
theorem dX4_isLine_11 : decode cX4_isLine 11 = .ok (.ireturn, 1) := by decide +kernel
theorem dX4_isNote_0 : decode cX4_isNote 0 = .ok (.iconst 0, 1) := by decide +kernel
theorem dX4_isNote_1 : decode cX4_isNote 1 = .ok (.iload_n 1, 1) := by decide +kernel
theorem dX4_isNote_2 : decode cX4_isNote 2 = .ok (.aload_n 0, 1) := by decide +kernel
theorem dX4_isNote_3 : decode cX4_isNote 3 = .ok (.getfield 60, 3) := by decide +kernel
theorem dX4_isNote_6 : decode cX4_isNote 6 = .ok (.iconst 1, 1) := by decide +kernel
theorem dX4_isNote_7 : decode cX4_isNote 7 = .ok (.isub, 1) := by decide +kernel
theorem dX4_isNote_8 : decode cX4_isNote 8 = .ok (.invokestatic 48, 3) := by decide +kernel
theorem dX4_isNote_11 : decode cX4_isNote 11 = .ok (.ireturn, 1) := by decide +kernel
theorem dX4_isCurve_0 : decode cX4_isCurve 0 = .ok (.iconst 0, 1) := by decide +kernel
theorem dX4_isCurve_1 : decode cX4_isCurve 1 = .ok (.iload_n 1, 1) := by decide +kernel
theorem dX4_isCurve_2 : decode cX4_isCurve 2 = .ok (.aload_n 0, 1) := by decide +kernel
theorem dX4_isCurve_3 : decode cX4_isCurve 3 = .ok (.getfield 169, 3) := by decide +kernel
theorem dX4_isCurve_6 : decode cX4_isCurve 6 = .ok (.iconst 1, 1) := by decide +kernel
theorem dX4_isCurve_7 : decode cX4_isCurve 7 = .ok (.isub, 1) := by decide +kernel
theorem dX4_isCurve_8 : decode cX4_isCurve 8 = .ok (.invokestatic 48, 3) := by decide +kernel
theorem dX4_isCurve_11 : decode cX4_isCurve 11 = .ok (.ireturn, 1) := by decide +kernel
theorem dX4_isBarPlace_0 : decode cX4_isBarPlace 0 = .ok (.iconst 0, 1) := by decide +kernel
theorem dX4_isBarPlace_1 : decode cX4_isBarPlace 1 = .ok (.iload_n 2, 1) := by decide +kernel
theorem dX4_isBarPlace_2 : decode cX4_isBarPlace 2 = .ok (.aload_n 0, 1) := by decide +kernel
theorem dX4_isBarPlace_3 : decode cX4_isBarPlace 3 = .ok (.getfield 9, 3) := by decide +kernel
theorem dX4_isBarPlace_6 : decode cX4_isBarPlace 6 = .ok (.iload_n 1, 1) := by decide +kernel
theorem dX4_isBarPlace_7 : decode cX4_isBarPlace 7 = .ok (.iaload, 1) := by decide +kernel
theorem dX4_isBarPlace_8 : decode cX4_isBarPlace 8 = .ok (.invokestatic 48, 3) := by decide +kernel
theorem dX4_isBarPlace_11 : decode cX4_isBarPlace 11 = .ok (.ifCond .eq 20, 3) := by decide +kernel
theorem dX4_isBarPlace_14 : decode cX4_isBarPlace 14 = .ok (.sipush (-200), 3) := by decide +kernel
theorem dX4_isBarPlace_17 : decode cX4_isBarPlace 17 = .ok (.iload_n 3, 1) := by decide +kernel
theorem dX4_isBarPlace_18 : decode cX4_isBarPlace 18 = .ok (.sipush 200, 3) := by decide +kernel
theorem dX4_isBarPlace_21 : decode cX4_isBarPlace 21 = .ok (.invokestatic 48, 3) := by decide +kernel
theorem dX4_isBarPlace_24 : decode cX4_isBarPlace 24 = .ok (.ifCond .eq 7, 3) := by decide +kernel
theorem dX4_isBarPlace_27 : decode cX4_isBarPlace 27 = .ok (.iconst 1, 1) := by decide +kernel
theorem dX4_isBarPlace_28 : decode cX4_isBarPlace 28 = .ok (.goto 4, 3) := by decide +kernel
theorem dX4_isBarPlace_31 : decode cX4_isBarPlace 31 = .ok (.iconst 0, 1) := by decide +kernel
theorem dX4_isBarPlace_32 : decode cX4_isBarPlace 32 = .ok (.ireturn, 1) := by decide +kernel
theorem dX4_findPart_0 : decode cX4_findPart 0 = .ok (.aload_n 0, 1) := by decide +kernel
theorem dX4_findPart_1 : decode cX4_findPart 1 = .ok (.iload_n 1, 1) := by decide +kernel
theorem dX4_findPart_2 : decode cX4_findPart 2 = .ok (.invokevirtual 96, 3) := by decide +kernel
theorem dX4_findPart_5 : decode cX4_findPart 5 = .ok (.ifCond .eq 22, 3) := by decide +kernel
theorem dX4_findPart_8 : decode cX4_findPart 8 = .ok (.iconst 0, 1) := by decide +kernel
theorem dX4_findPart_9 : decode cX4_findPart 9 = .ok (.iload_n 2, 1) := by decide +kernel
theorem dX4_findPart_10 : decode cX4_findPart 10 = .ok (.aload_n 0, 1) := by decide +kernel
theorem dX4_findPart_11 : decode cX4_findPart 11 = .ok (.getfield 27, 3) := by decide +kernel
theorem dX4_findPart_14 : decode cX4_findPart 14 = .ok (.iload_n 1, 1) := by decide +kernel
theorem dX4_findPart_15 : decode cX4_findPart 15 = .ok (.aaload, 1) := by decide +kernel
theorem dX4_findPart_16 : decode cX4_findPart 16 = .ok (.invokevirtual 112, 3) := by decide +kernel
theorem dX4_findPart_19 : decode cX4_findPart 19 = .ok (.iconst 1, 1) := by decide +kernel
theorem dX4_findPart_20 : decode cX4_findPart 20 = .ok (.isub, 1) := by decide +kernel
theorem dX4_findPart_21 : decode cX4_findPart 21 = .ok (.invokestatic 48, 3) := by decide +kernel
theorem dX4_findPart_24 : decode cX4_findPart 24 = .ok (.ifCond .ne 5, 3) := by decide +kernel
theorem dX4_findPart_27 : decode cX4_findPart 27 = .ok (.aconst_null, 1) := by decide +kernel
theorem dX4_findPart_28 : decode cX4_findPart 28 = .ok (.areturn, 1) := by decide +kernel
theorem dX4_findPart_29 : decode cX4_findPart 29 = .ok (.aload_n 0, 1) := by decide +kernel
theorem dX4_findPart_30 : decode cX4_findPart 30 = .ok (.getfield 33, 3) := by decide +kernel
theorem dX4_findPart_33 : decode cX4_findPart 33 = .ok (.aload_n 0, 1) := by decide +kernel
theorem dX4_findPart_34 : decode cX4_findPart 34 = .ok (.getfield 27, 3) := by decide +kernel
theorem dX4_findPart_37 : decode cX4_findPart 37 = .ok (.iload_n 1, 1) := by decide +kernel
theorem dX4_findPart_38 : decode cX4_findPart 38 = .ok (.aaload, 1) := by decide +kernel
theorem dX4_findPart_39 : decode cX4_findPart 39 = .ok (.getfield 175, 3) := by decide +kernel
theorem dX4_findPart_42 : decode cX4_findPart 42 = .ok (.iload_n 2, 1) := by decide +kernel
theorem dX4_findPart_43 : decode cX4_findPart 43 = .ok (.iadd, 1) := by decide +kernel
theorem dX4_findPart_44 : decode cX4_findPart 44 = .ok (.aaload, 1) := by decide +kernel
theorem dX4_findPart_45 : decode cX4_findPart 45 = .ok (.areturn, 1) := by decide +kernel
theorem dX4_addCurve_0 : decode cX4_addCurve 0 = .ok (.aload_n 0, 1) := by decide +kernel
theorem dX4_addCurve_1 : decode cX4_addCurve 1 = .ok (.iload_n 1, 1) := by decide +kernel
theorem dX4_addCurve_2 : decode cX4_addCurve 2 = .ok (.invokevirtual 178, 3) := by decide +kernel
theorem dX4_addCurve_5 : decode cX4_addCurve 5 = .ok (.ifCond .eq 11, 3) := by decide +kernel
theorem dX4_addCurve_8 : decode cX4_addCurve 8 = .ok (.aload_n 0, 1) := by decide +kernel
theorem dX4_addCurve_9 : decode cX4_addCurve 9 = .ok (.iload_n 2, 1) := by decide +kernel
theorem dX4_addCurve_10 : decode cX4_addCurve 10 = .ok (.invokevirtual 178, 3) := by decide +kernel
theorem dX4_addCurve_13 : decode cX4_addCurve 13 = .ok (.ifCond .ne 7, 3) := by decide +kernel
theorem dX4_addCurve_16 : decode cX4_addCurve 16 = .ok (.sipush (-9001), 3) := by decide +kernel
theorem dX4_addCurve_19 : decode cX4_addCurve 19 = .ok (.ireturn, 1) := by decide +kernel
theorem dX4_addCurve_20 : decode cX4_addCurve 20 = .ok (.aload_n 0, 1) := by decide +kernel
theorem dX4_addCurve_21 : decode cX4_addCurve 21 = .ok (.getfield 15, 3) := by decide +kernel
theorem dX4_addCurve_24 : decode cX4_addCurve 24 = .ok (.iload_n 1, 1) := by decide +kernel
theorem dX4_addCurve_25 : decode cX4_addCurve 25 = .ok (.aaload, 1) := by decide +kernel
theorem dX4_addCurve_26 : decode cX4_addCurve 26 = .ok (.astore 4, 2) := by decide +kernel
theorem dX4_addCurve_28 : decode cX4_addCurve 28 = .ok (.aload_n 0, 1) := by decide +kernel
theorem dX4_addCurve_29 : decode cX4_addCurve 29 = .ok (.getfield 15, 3) := by decide +kernel
theorem dX4_addCurve_32 : decode cX4_addCurve 32 = .ok (.iload_n 2, 1) := by decide +kernel
theorem dX4_addCurve_33 : decode cX4_addCurve 33 = .ok (.aaload, 1) := by decide +kernel
theorem dX4_addCurve_34 : decode cX4_addCurve 34 = .ok (.astore 5, 2) := by decide +kernel
theorem dX4_addCurve_36 : decode cX4_addCurve 36 = .ok (.aload_n 0, 1) := by decide +kernel
theorem dX4_addCurve_37 : decode cX4_addCurve 37 = .ok (.aload 4, 2) := by decide +kernel
theorem dX4_addCurve_39 : decode cX4_addCurve 39 = .ok (.aload 5, 2) := by decide +kernel
theorem dX4_addCurve_41 : decode cX4_addCurve 41 = .ok (.invokevirtual 181, 3) := by decide +kernel
theorem dX4_addCurve_44 : decode cX4_addCurve 44 = .ok (.ifCond .eq 20, 3) := by decide +kernel
theorem dX4_addCurve_47 : decode cX4_addCurve 47 = .ok (.iload_n 3, 1) := by decide +kernel
theorem dX4_addCurve_48 : decode cX4_addCurve 48 = .ok (.ifCond .eq 20, 3) := by decide +kernel
theorem dX4_addCurve_51 : decode cX4_addCurve 51 = .ok (.aload 4, 2) := by decide +kernel
theorem dX4_addCurve_53 : decode cX4_addCurve 53 = .ok (.getfield 185, 3) := by decide +kernel
theorem dX4_addCurve_56 : decode cX4_addCurve 56 = .ok (.aload 5, 2) := by decide +kernel
theorem dX4_addCurve_58 : decode cX4_addCurve 58 = .ok (.getfield 185, 3) := by decide +kernel
theorem dX4_addCurve_61 : decode cX4_addCurve 61 = .ok (.if_icmp .eq 7, 3) := by decide +kernel
theorem dX4_addCurve_64 : decode cX4_addCurve 64 = .ok (.sipush (-9003), 3) := by decide +kernel
theorem dX4_addCurve_67 : decode cX4_addCurve 67 = .ok (.ireturn, 1) := by decide +kernel
theorem dX4_addCurve_68 : decode cX4_addCurve 68 = .ok (.aload_n 0, 1) := by decide +kernel
theorem dX4_addCurve_69 : decode cX4_addCurve 69 = .ok (.getfield 169, 3) := by decide +kernel
theorem dX4_addCurve_72 : decode cX4_addCurve 72 = .ok (.bipush 40, 2) := by decide +kernel
theorem dX4_addCurve_74 : decode cX4_addCurve 74 = .ok (.if_icmp .lt 7, 3) := by decide +kernel
theorem dX4_addCurve_77 : decode cX4_addCurve 77 = .ok (.sipush (-9004), 3) := by decide +kernel
theorem dX4_addCurve_80 : decode cX4_addCurve 80 = .ok (.ireturn, 1) := by decide +kernel
theorem dX4_addCurve_81 : decode cX4_addCurve 81 = .ok (.iload_n 3, 1) := by decide +kernel
theorem dX4_addCurve_82 : decode cX4_addCurve 82 = .ok (.ifCond .eq 12, 3) := by decide +kernel
theorem dX4_addCurve_85 : decode cX4_addCurve 85 = .ok (.aload_n 0, 1) := by decide +kernel
theorem dX4_addCurve_86 : decode cX4_addCurve 86 = .ok (.aload 4, 2) := by decide +kernel
theorem dX4_addCurve_88 : decode cX4_addCurve 88 = .ok (.invokevirtual 188, 3) := by decide +kernel
theorem dX4_addCurve_91 : decode cX4_addCurve 91 = .ok (.goto 11, 3) := by decide +kernel
theorem dX4_addCurve_94 : decode cX4_addCurve 94 = .ok (.aload_n 0, 1) := by decide +kernel
theorem dX4_addCurve_95 : decode cX4_addCurve 95 = .ok (.aload 4, 2) := by decide +kernel
theorem dX4_addCurve_97 : decode cX4_addCurve 97 = .ok (.aload 5, 2) := by decide +kernel
theorem dX4_addCurve_99 : decode cX4_addCurve 99 = .ok (.invokevirtual 192, 3) := by decide +kernel
theorem dX4_addCurve_102 : decode cX4_addCurve 102 = .ok (.istore 6, 2) := by decide +kernel
theorem dX4_addCurve_104 : decode cX4_addCurve 104 = .ok (.new 25, 3) := by decide +kernel
theorem dX4_addCurve_107 : decode cX4_addCurve 107 = .ok (.dup, 1) := by decide +kernel
theorem dX4_addCurve_108 : decode cX4_addCurve 108 = .ok (.aload_n 0, 1) := by decide +kernel
theorem dX4_addCurve_109 : decode cX4_addCurve 109 = .ok (.getfield 169, 3) := by decide +kernel
theorem dX4_addCurve_112 : decode cX4_addCurve 112 = .ok (.aload 4, 2) := by decide +kernel
theorem dX4_addCurve_114 : decode cX4_addCurve 114 = .ok (.aload 5, 2) := by decide +kernel
theorem dX4_addCurve_116 : decode cX4_addCurve 116 = .ok (.iload_n 3, 1) := by decide +kernel
theorem dX4_addCurve_117 : decode cX4_addCurve 117 = .ok (.iload 6, 2) := by decide +kernel
theorem dX4_addCurve_119 : decode cX4_addCurve 119 = .ok (.aload_n 0, 1) := by decide +kernel
theorem dX4_addCurve_120 : decode cX4_addCurve 120 = .ok (.getfield 86, 3) := by decide +kernel
theorem dX4_addCurve_123 : decode cX4_addCurve 123 = .ok (.invokespecial 196, 3) := by decide +kernel
theorem dX4_addCurve_126 : decode cX4_addCurve 126 = .ok (.astore 7, 2) := by decide +kernel
theorem dX4_addCurve_128 : decode cX4_addCurve 128 = .ok (.aload_n 0, 1) := by decide +kernel
theorem dX4_addCurve_129 : decode cX4_addCurve 129 = .ok (.getfield 27, 3) := by decide +kernel
theorem dX4_addCurve_132 : decode cX4_addCurve 132 = .ok (.aload_n 0, 1) := by decide +kernel
theorem dX4_addCurve_133 : decode cX4_addCurve 133 = .ok (.getfield 169, 3) := by decide +kernel
theorem dX4_addCurve_136 : decode cX4_addCurve 136 = .ok (.aload 7, 2) := by decide +kernel
theorem dX4_addCurve_138 : decode cX4_addCurve 138 = .ok (.aastore, 1) := by decide +kernel
theorem dX4_addCurve_139 : decode cX4_addCurve 139 = .ok (.aload_n 0, 1) := by decide +kernel
theorem dX4_addCurve_140 : decode cX4_addCurve 140 = .ok (.aload 7, 2) := by decide +kernel
theorem dX4_addCurve_142 : decode cX4_addCurve 142 = .ok (.invokevirtual 199, 3) := by decide +kernel
theorem dX4_addCurve_145 : decode cX4_addCurve 145 = .ok (.aload 7, 2) := by decide +kernel
theorem dX4_addCurve_147 : decode cX4_addCurve 147 = .ok (.getfield 175, 3) := by decide +kernel
theorem dX4_addCurve_150 : decode cX4_addCurve 150 = .ok (.istore 8, 2) := by decide +kernel
theorem dX4_addCurve_152 : decode cX4_addCurve 152 = .ok (.iload 8, 2) := by decide +kernel
theorem dX4_addCurve_154 : decode cX4_addCurve 154 = .ok (.aload_n 0, 1) := by decide +kernel
theorem dX4_addCurve_155 : decode cX4_addCurve 155 = .ok (.getfield 86, 3) := by decide +kernel
theorem dX4_addCurve_158 : decode cX4_addCurve 158 = .ok (.if_icmp .ge 20, 3) := by decide +kernel
theorem dX4_addCurve_161 : decode cX4_addCurve 161 = .ok (.aload_n 0, 1) := by decide +kernel
theorem dX4_addCurve_162 : decode cX4_addCurve 162 = .ok (.aload_n 0, 1) := by decide +kernel
theorem dX4_addCurve_163 : decode cX4_addCurve 163 = .ok (.getfield 33, 3) := by decide +kernel
theorem dX4_addCurve_166 : decode cX4_addCurve 166 = .ok (.iload 8, 2) := by decide +kernel
theorem dX4_addCurve_168 : decode cX4_addCurve 168 = .ok (.aaload, 1) := by decide +kernel
theorem dX4_addCurve_169 : decode cX4_addCurve 169 = .ok (.invokevirtual 92, 3) := by decide +kernel
theorem dX4_addCurve_172 : decode cX4_addCurve 172 = .ok (.iinc 8 1, 3) := by decide +kernel
theorem dX4_addCurve_175 : decode cX4_addCurve 175 = .ok (.goto (-23), 3) := by decide +kernel
theorem dX4_addCurve_178 : decode cX4_addCurve 178 = .ok (.aload_n 0, 1) := by decide +kernel
theorem dX4_addCurve_179 : decode cX4_addCurve 179 = .ok (.dup, 1) := by decide +kernel
theorem dX4_addCurve_180 : decode cX4_addCurve 180 = .ok (.getfield 169, 3) := by decide +kernel
theorem dX4_addCurve_183 : decode cX4_addCurve 183 = .ok (.dup_x1, 1) := by decide +kernel
theorem dX4_addCurve_184 : decode cX4_addCurve 184 = .ok (.iconst 1, 1) := by decide +kernel
theorem dX4_addCurve_185 : decode cX4_addCurve 185 = .ok (.iadd, 1) := by decide +kernel
theorem dX4_addCurve_186 : decode cX4_addCurve 186 = .ok (.putfield 169, 3) := by decide +kernel
theorem dX4_addCurve_189 : decode cX4_addCurve 189 = .ok (.ireturn, 1) := by decide +kernel
theorem dX4_canBeJoined_0 : decode cX4_canBeJoined 0 = .ok (.aload_n 1, 1) := by decide +kernel
theorem dX4_canBeJoined_1 : decode cX4_canBeJoined 1 = .ok (.aload_n 2, 1) := by decide +kernel
theorem dX4_canBeJoined_2 : decode cX4_canBeJoined 2 = .ok (.invokevirtual 203, 3) := by decide +kernel
theorem dX4_canBeJoined_5 : decode cX4_canBeJoined 5 = .ok (.ifCond .ne 5, 3) := by decide +kernel
theorem dX4_canBeJoined_8 : decode cX4_canBeJoined 8 = .ok (.iconst 0, 1) := by decide +kernel
theorem dX4_canBeJoined_9 : decode cX4_canBeJoined 9 = .ok (.ireturn, 1) := by decide +kernel
theorem dX4_canBeJoined_10 : decode cX4_canBeJoined 10 = .ok (.aload_n 1, 1) := by decide +kernel
theorem dX4_canBeJoined_11 : decode cX4_canBeJoined 11 = .ok (.getfield 207, 3) := by decide +kernel
theorem dX4_canBeJoined_14 : decode cX4_canBeJoined 14 = .ok (.aload_n 2, 1) := by decide +kernel
theorem dX4_canBeJoined_15 : decode cX4_canBeJoined 15 = .ok (.getfield 207, 3) := by decide +kernel
theorem dX4_canBeJoined_18 : decode cX4_canBeJoined 18 = .ok (.if_icmp .ne 23, 3) := by decide +kernel
theorem dX4_canBeJoined_21 : decode cX4_canBeJoined 21 = .ok (.aload_n 2, 1) := by decide +kernel
theorem dX4_canBeJoined_22 : decode cX4_canBeJoined 22 = .ok (.getfield 208, 3) := by decide +kernel
theorem dX4_canBeJoined_25 : decode cX4_canBeJoined 25 = .ok (.aload_n 1, 1) := by decide +kernel
theorem dX4_canBeJoined_26 : decode cX4_canBeJoined 26 = .ok (.getfield 208, 3) := by decide +kernel
theorem dX4_canBeJoined_29 : decode cX4_canBeJoined 29 = .ok (.isub, 1) := by decide +kernel
theorem dX4_canBeJoined_30 : decode cX4_canBeJoined 30 = .ok (.bipush 12, 2) := by decide +kernel
theorem dX4_canBeJoined_32 : decode cX4_canBeJoined 32 = .ok (.if_icmp .lt 7, 3) := by decide +kernel
theorem dX4_canBeJoined_35 : decode cX4_canBeJoined 35 = .ok (.iconst 1, 1) := by decide +kernel
theorem dX4_canBeJoined_36 : decode cX4_canBeJoined 36 = .ok (.goto 4, 3) := by decide +kernel
theorem dX4_canBeJoined_39 : decode cX4_canBeJoined 39 = .ok (.iconst 0, 1) := by decide +kernel
theorem dX4_canBeJoined_40 : decode cX4_canBeJoined 40 = .ok (.ireturn, 1) := by decide +kernel
theorem dX4_canBeJoined_41 : decode cX4_canBeJoined 41 = .ok (.aload_n 2, 1) := by decide +kernel
theorem dX4_canBeJoined_42 : decode cX4_canBeJoined 42 = .ok (.getfield 207, 3) := by decide +kernel
theorem dX4_canBeJoined_45 : decode cX4_canBeJoined 45 = .ok (.aload_n 1, 1) := by decide +kernel
theorem dX4_canBeJoined_46 : decode cX4_canBeJoined 46 = .ok (.getfield 207, 3) := by decide +kernel
theorem dX4_canBeJoined_49 : decode cX4_canBeJoined 49 = .ok (.isub, 1) := by decide +kernel
theorem dX4_canBeJoined_50 : decode cX4_canBeJoined 50 = .ok (.iconst 1, 1) := by decide +kernel
theorem dX4_canBeJoined_51 : decode cX4_canBeJoined 51 = .ok (.if_icmp .ne 35, 3) := by decide +kernel
theorem dX4_canBeJoined_54 : decode cX4_canBeJoined 54 = .ok (.aload_n 0, 1) := by decide +kernel
theorem dX4_canBeJoined_55 : decode cX4_canBeJoined 55 = .ok (.getfield 9, 3) := by decide +kernel
theorem dX4_canBeJoined_58 : decode cX4_canBeJoined 58 = .ok (.aload_n 1, 1) := by decide +kernel
theorem dX4_canBeJoined_59 : decode cX4_canBeJoined 59 = .ok (.getfield 207, 3) := by decide +kernel
theorem dX4_canBeJoined_62 : decode cX4_canBeJoined 62 = .ok (.iaload, 1) := by decide +kernel
theorem dX4_canBeJoined_63 : decode cX4_canBeJoined 63 = .ok (.aload_n 1, 1) := by decide +kernel
theorem dX4_canBeJoined_64 : decode cX4_canBeJoined 64 = .ok (.getfield 208, 3) := by decide +kernel
theorem dX4_canBeJoined_67 : decode cX4_canBeJoined 67 = .ok (.isub, 1) := by decide +kernel
theorem dX4_canBeJoined_68 : decode cX4_canBeJoined 68 = .ok (.bipush 12, 2) := by decide +kernel
theorem dX4_canBeJoined_70 : decode cX4_canBeJoined 70 = .ok (.if_icmp .lt 16, 3) := by decide +kernel
theorem dX4_canBeJoined_73 : decode cX4_canBeJoined 73 = .ok (.aload_n 2, 1) := by decide +kernel
theorem dX4_canBeJoined_74 : decode cX4_canBeJoined 74 = .ok (.getfield 208, 3) := by decide +kernel
theorem dX4_canBeJoined_77 : decode cX4_canBeJoined 77 = .ok (.bipush 12, 2) := by decide +kernel
theorem dX4_canBeJoined_79 : decode cX4_canBeJoined 79 = .ok (.if_icmp .lt 7, 3) := by decide +kernel
theorem dX4_canBeJoined_82 : decode cX4_canBeJoined 82 = .ok (.iconst 1, 1) := by decide +kernel
theorem dX4_canBeJoined_83 : decode cX4_canBeJoined 83 = .ok (.goto 4, 3) := by decide +kernel
theorem dX4_canBeJoined_86 : decode cX4_canBeJoined 86 = .ok (.iconst 0, 1) := by decide +kernel
theorem dX4_canBeJoined_87 : decode cX4_canBeJoined 87 = .ok (.ireturn, 1) := by decide +kernel
theorem dX4_tieSide_0 : decode cX4_tieSide 0 = .ok (.iconst 0, 1) := by decide +kernel
theorem dX4_tieSide_1 : decode cX4_tieSide 1 = .ok (.istore_n 2, 1) := by decide +kernel
theorem dX4_tieSide_2 : decode cX4_tieSide 2 = .ok (.iconst 0, 1) := by decide +kernel
theorem dX4_tieSide_3 : decode cX4_tieSide 3 = .ok (.istore_n 3, 1) := by decide +kernel
theorem dX4_tieSide_4 : decode cX4_tieSide 4 = .ok (.iconst 0, 1) := by decide +kernel
theorem dX4_tieSide_5 : decode cX4_tieSide 5 = .ok (.istore 4, 2) := by decide +kernel
theorem dX4_tieSide_7 : decode cX4_tieSide 7 = .ok (.iload 4, 2) := by decide +kernel
theorem dX4_tieSide_9 : decode cX4_tieSide 9 = .ok (.aload_n 0, 1) := by decide +kernel
theorem dX4_tieSide_10 : decode cX4_tieSide 10 = .ok (.getfield 60, 3) := by decide +kernel
theorem dX4_tieSide_13 : decode cX4_tieSide 13 = .ok (.if_icmp .ge 73, 3) := by decide +kernel
theorem dX4_tieSide_16 : decode cX4_tieSide 16 = .ok (.aload_n 0, 1) := by decide +kernel
theorem dX4_tieSide_17 : decode cX4_tieSide 17 = .ok (.getfield 15, 3) := by decide +kernel
theorem dX4_tieSide_20 : decode cX4_tieSide 20 = .ok (.iload 4, 2) := by decide +kernel
theorem dX4_tieSide_22 : decode cX4_tieSide 22 = .ok (.aaload, 1) := by decide +kernel
theorem dX4_tieSide_23 : decode cX4_tieSide 23 = .ok (.aload_n 1, 1) := by decide +kernel
theorem dX4_tieSide_24 : decode cX4_tieSide 24 = .ok (.invokevirtual 211, 3) := by decide +kernel
theorem dX4_tieSide_27 : decode cX4_tieSide 27 = .ok (.ifCond .eq 53, 3) := by decide +kernel
theorem dX4_tieSide_30 : decode cX4_tieSide 30 = .ok (.iload_n 2, 1) := by decide +kernel
theorem dX4_tieSide_31 : decode cX4_tieSide 31 = .ok (.aload_n 0, 1) := by decide +kernel
theorem dX4_tieSide_32 : decode cX4_tieSide 32 = .ok (.getfield 15, 3) := by decide +kernel
theorem dX4_tieSide_35 : decode cX4_tieSide 35 = .ok (.iload 4, 2) := by decide +kernel
theorem dX4_tieSide_37 : decode cX4_tieSide 37 = .ok (.aaload, 1) := by decide +kernel
theorem dX4_tieSide_38 : decode cX4_tieSide 38 = .ok (.getfield 185, 3) := by decide +kernel
theorem dX4_tieSide_41 : decode cX4_tieSide 41 = .ok (.aload_n 1, 1) := by decide +kernel
theorem dX4_tieSide_42 : decode cX4_tieSide 42 = .ok (.getfield 185, 3) := by decide +kernel
theorem dX4_tieSide_45 : decode cX4_tieSide 45 = .ok (.if_icmp .le 7, 3) := by decide +kernel
theorem dX4_tieSide_48 : decode cX4_tieSide 48 = .ok (.iconst 1, 1) := by decide +kernel
theorem dX4_tieSide_49 : decode cX4_tieSide 49 = .ok (.goto 4, 3) := by decide +kernel
theorem dX4_tieSide_52 : decode cX4_tieSide 52 = .ok (.iconst 0, 1) := by decide +kernel
theorem dX4_tieSide_53 : decode cX4_tieSide 53 = .ok (.iadd, 1) := by decide +kernel
theorem dX4_tieSide_54 : decode cX4_tieSide 54 = .ok (.istore_n 2, 1) := by decide +kernel
theorem dX4_tieSide_55 : decode cX4_tieSide 55 = .ok (.iload_n 3, 1) := by decide +kernel
theorem dX4_tieSide_56 : decode cX4_tieSide 56 = .ok (.aload_n 0, 1) := by decide +kernel
theorem dX4_tieSide_57 : decode cX4_tieSide 57 = .ok (.getfield 15, 3) := by decide +kernel
theorem dX4_tieSide_60 : decode cX4_tieSide 60 = .ok (.iload 4, 2) := by decide +kernel
theorem dX4_tieSide_62 : decode cX4_tieSide 62 = .ok (.aaload, 1) := by decide +kernel
theorem dX4_tieSide_63 : decode cX4_tieSide 63 = .ok (.getfield 185, 3) := by decide +kernel
theorem dX4_tieSide_66 : decode cX4_tieSide 66 = .ok (.aload_n 1, 1) := by decide +kernel
theorem dX4_tieSide_67 : decode cX4_tieSide 67 = .ok (.getfield 185, 3) := by decide +kernel
theorem dX4_tieSide_70 : decode cX4_tieSide 70 = .ok (.if_icmp .ge 7, 3) := by decide +kernel
theorem dX4_tieSide_73 : decode cX4_tieSide 73 = .ok (.iconst 1, 1) := by decide +kernel
theorem dX4_tieSide_74 : decode cX4_tieSide 74 = .ok (.goto 4, 3) := by decide +kernel
theorem dX4_tieSide_77 : decode cX4_tieSide 77 = .ok (.iconst 0, 1) := by decide +kernel
theorem dX4_tieSide_78 : decode cX4_tieSide 78 = .ok (.iadd, 1) := by decide +kernel
theorem dX4_tieSide_79 : decode cX4_tieSide 79 = .ok (.istore_n 3, 1) := by decide +kernel
theorem dX4_tieSide_80 : decode cX4_tieSide 80 = .ok (.iinc 4 1, 3) := by decide +kernel
theorem dX4_tieSide_83 : decode cX4_tieSide 83 = .ok (.goto (-76), 3) := by decide +kernel
theorem dX4_tieSide_86 : decode cX4_tieSide 86 = .ok (.iload_n 2, 1) := by decide +kernel
theorem dX4_tieSide_87 : decode cX4_tieSide 87 = .ok (.iload_n 3, 1) := by decide +kernel
theorem dX4_tieSide_88 : decode cX4_tieSide 88 = .ok (.if_icmp .eq 14, 3) := by decide +kernel
theorem dX4_tieSide_91 : decode cX4_tieSide 91 = .ok (.iload_n 2, 1) := by decide +kernel
theorem dX4_tieSide_92 : decode cX4_tieSide 92 = .ok (.iload_n 3, 1) := by decide +kernel
theorem dX4_tieSide_93 : decode cX4_tieSide 93 = .ok (.if_icmp .ge 7, 3) := by decide +kernel
theorem dX4_tieSide_96 : decode cX4_tieSide 96 = .ok (.iconst 1, 1) := by decide +kernel
theorem dX4_tieSide_97 : decode cX4_tieSide 97 = .ok (.goto 4, 3) := by decide +kernel
theorem dX4_tieSide_100 : decode cX4_tieSide 100 = .ok (.iconst (-1), 1) := by decide +kernel
theorem dX4_tieSide_101 : decode cX4_tieSide 101 = .ok (.ireturn, 1) := by decide +kernel
theorem dX4_tieSide_102 : decode cX4_tieSide 102 = .ok (.aload_n 1, 1) := by decide +kernel
theorem dX4_tieSide_103 : decode cX4_tieSide 103 = .ok (.invokevirtual 214, 3) := by decide +kernel
theorem dX4_tieSide_106 : decode cX4_tieSide 106 = .ok (.ineg, 1) := by decide +kernel
theorem dX4_tieSide_107 : decode cX4_tieSide 107 = .ok (.ireturn, 1) := by decide +kernel
theorem dX4_slurSide_0 : decode cX4_slurSide 0 = .ok (.aload_n 1, 1) := by decide +kernel
theorem dX4_slurSide_1 : decode cX4_slurSide 1 = .ok (.getfield 217, 3) := by decide +kernel
theorem dX4_slurSide_4 : decode cX4_slurSide 4 = .ok (.ifCond .eq 10, 3) := by decide +kernel
theorem dX4_slurSide_7 : decode cX4_slurSide 7 = .ok (.aload_n 2, 1) := by decide +kernel
theorem dX4_slurSide_8 : decode cX4_slurSide 8 = .ok (.getfield 217, 3) := by decide +kernel
theorem dX4_slurSide_11 : decode cX4_slurSide 11 = .ok (.ifCond .ne 7, 3) := by decide +kernel
theorem dX4_slurSide_14 : decode cX4_slurSide 14 = .ok (.iconst 1, 1) := by decide +kernel
theorem dX4_slurSide_15 : decode cX4_slurSide 15 = .ok (.goto 4, 3) := by decide +kernel
theorem dX4_slurSide_18 : decode cX4_slurSide 18 = .ok (.iconst 0, 1) := by decide +kernel
theorem dX4_slurSide_19 : decode cX4_slurSide 19 = .ok (.istore_n 3, 1) := by decide +kernel
theorem dX4_slurSide_20 : decode cX4_slurSide 20 = .ok (.iconst 0, 1) := by decide +kernel
theorem dX4_slurSide_21 : decode cX4_slurSide 21 = .ok (.istore 4, 2) := by decide +kernel
theorem dX4_slurSide_23 : decode cX4_slurSide 23 = .ok (.iload 4, 2) := by decide +kernel
theorem dX4_slurSide_25 : decode cX4_slurSide 25 = .ok (.aload_n 0, 1) := by decide +kernel
theorem dX4_slurSide_26 : decode cX4_slurSide 26 = .ok (.getfield 60, 3) := by decide +kernel
theorem dX4_slurSide_29 : decode cX4_slurSide 29 = .ok (.if_icmp .ge 60, 3) := by decide +kernel
theorem dX4_slurSide_32 : decode cX4_slurSide 32 = .ok (.iload_n 3, 1) := by decide +kernel
theorem dX4_slurSide_33 : decode cX4_slurSide 33 = .ok (.ifCond .ne 56, 3) := by decide +kernel
theorem dX4_slurSide_36 : decode cX4_slurSide 36 = .ok (.aload_n 0, 1) := by decide +kernel
theorem dX4_slurSide_37 : decode cX4_slurSide 37 = .ok (.getfield 15, 3) := by decide +kernel
theorem dX4_slurSide_40 : decode cX4_slurSide 40 = .ok (.iload 4, 2) := by decide +kernel
theorem dX4_slurSide_42 : decode cX4_slurSide 42 = .ok (.aaload, 1) := by decide +kernel
theorem dX4_slurSide_43 : decode cX4_slurSide 43 = .ok (.getfield 217, 3) := by decide +kernel
theorem dX4_slurSide_46 : decode cX4_slurSide 46 = .ok (.ifCond .ne 35, 3) := by decide +kernel
theorem dX4_slurSide_49 : decode cX4_slurSide 49 = .ok (.aload_n 1, 1) := by decide +kernel
theorem dX4_slurSide_50 : decode cX4_slurSide 50 = .ok (.aload_n 0, 1) := by decide +kernel
theorem dX4_slurSide_51 : decode cX4_slurSide 51 = .ok (.getfield 15, 3) := by decide +kernel
theorem dX4_slurSide_54 : decode cX4_slurSide 54 = .ok (.iload 4, 2) := by decide +kernel
theorem dX4_slurSide_56 : decode cX4_slurSide 56 = .ok (.aaload, 1) := by decide +kernel
theorem dX4_slurSide_57 : decode cX4_slurSide 57 = .ok (.invokevirtual 203, 3) := by decide +kernel
theorem dX4_slurSide_60 : decode cX4_slurSide 60 = .ok (.ifCond .eq 21, 3) := by decide +kernel
theorem dX4_slurSide_63 : decode cX4_slurSide 63 = .ok (.aload_n 0, 1) := by decide +kernel
theorem dX4_slurSide_64 : decode cX4_slurSide 64 = .ok (.getfield 15, 3) := by decide +kernel
theorem dX4_slurSide_67 : decode cX4_slurSide 67 = .ok (.iload 4, 2) := by decide +kernel
theorem dX4_slurSide_69 : decode cX4_slurSide 69 = .ok (.aaload, 1) := by decide +kernel
theorem dX4_slurSide_70 : decode cX4_slurSide 70 = .ok (.aload_n 2, 1) := by decide +kernel
theorem dX4_slurSide_71 : decode cX4_slurSide 71 = .ok (.invokevirtual 203, 3) := by decide +kernel
theorem dX4_slurSide_74 : decode cX4_slurSide 74 = .ok (.ifCond .eq 7, 3) := by decide +kernel
theorem dX4_slurSide_77 : decode cX4_slurSide 77 = .ok (.iconst 1, 1) := by decide +kernel
theorem dX4_slurSide_78 : decode cX4_slurSide 78 = .ok (.goto 4, 3) := by decide +kernel
theorem dX4_slurSide_81 : decode cX4_slurSide 81 = .ok (.iconst 0, 1) := by decide +kernel
theorem dX4_slurSide_82 : decode cX4_slurSide 82 = .ok (.istore_n 3, 1) := by decide +kernel
theorem dX4_slurSide_83 : decode cX4_slurSide 83 = .ok (.iinc 4 1, 3) := by decide +kernel
theorem dX4_slurSide_86 : decode cX4_slurSide 86 = .ok (.goto (-63), 3) := by decide +kernel
theorem dX4_slurSide_89 : decode cX4_slurSide 89 = .ok (.iload_n 3, 1) := by decide +kernel
theorem dX4_slurSide_90 : decode cX4_slurSide 90 = .ok (.ifCond .eq 7, 3) := by decide +kernel
theorem dX4_slurSide_93 : decode cX4_slurSide 93 = .ok (.iconst 1, 1) := by decide +kernel
theorem dX4_slurSide_94 : decode cX4_slurSide 94 = .ok (.goto 4, 3) := by decide +kernel
theorem dX4_slurSide_97 : decode cX4_slurSide 97 = .ok (.iconst (-1), 1) := by decide +kernel
theorem dX4_slurSide_98 : decode cX4_slurSide 98 = .ok (.ireturn, 1) := by decide +kernel
theorem dX4_addParts_0 : decode cX4_addParts 0 = .ok (.aload_n 1, 1) := by decide +kernel
theorem dX4_addParts_1 : decode cX4_addParts 1 = .ok (.invokevirtual 220, 3) := by decide +kernel
theorem dX4_addParts_4 : decode cX4_addParts 4 = .ok (.istore_n 2, 1) := by decide +kernel
theorem dX4_addParts_5 : decode cX4_addParts 5 = .ok (.aload_n 1, 1) := by decide +kernel
theorem dX4_addParts_6 : decode cX4_addParts 6 = .ok (.aload_n 1, 1) := by decide +kernel
theorem dX4_addParts_7 : decode cX4_addParts 7 = .ok (.getfield 99, 3) := by decide +kernel
theorem dX4_addParts_10 : decode cX4_addParts 10 = .ok (.invokevirtual 223, 3) := by decide +kernel
theorem dX4_addParts_13 : decode cX4_addParts 13 = .ok (.istore_n 3, 1) := by decide +kernel
theorem dX4_addParts_14 : decode cX4_addParts 14 = .ok (.aload_n 1, 1) := by decide +kernel
theorem dX4_addParts_15 : decode cX4_addParts 15 = .ok (.invokevirtual 226, 3) := by decide +kernel
theorem dX4_addParts_18 : decode cX4_addParts 18 = .ok (.istore 4, 2) := by decide +kernel
theorem dX4_addParts_20 : decode cX4_addParts 20 = .ok (.aload_n 1, 1) := by decide +kernel
theorem dX4_addParts_21 : decode cX4_addParts 21 = .ok (.aload_n 1, 1) := by decide +kernel
theorem dX4_addParts_22 : decode cX4_addParts 22 = .ok (.getfield 106, 3) := by decide +kernel
theorem dX4_addParts_25 : decode cX4_addParts 25 = .ok (.invokevirtual 223, 3) := by decide +kernel
theorem dX4_addParts_28 : decode cX4_addParts 28 = .ok (.istore 5, 2) := by decide +kernel
theorem dX4_addParts_30 : decode cX4_addParts 30 = .ok (.aload_n 1, 1) := by decide +kernel
theorem dX4_addParts_31 : decode cX4_addParts 31 = .ok (.invokevirtual 112, 3) := by decide +kernel
theorem dX4_addParts_34 : decode cX4_addParts 34 = .ok (.iconst 1, 1) := by decide +kernel
theorem dX4_addParts_35 : decode cX4_addParts 35 = .ok (.if_icmp .ne 31, 3) := by decide +kernel
theorem dX4_addParts_38 : decode cX4_addParts 38 = .ok (.aload_n 0, 1) := by decide +kernel
theorem dX4_addParts_39 : decode cX4_addParts 39 = .ok (.new 31, 3) := by decide +kernel
theorem dX4_addParts_42 : decode cX4_addParts 42 = .ok (.dup, 1) := by decide +kernel
theorem dX4_addParts_43 : decode cX4_addParts 43 = .ok (.aload_n 1, 1) := by decide +kernel
theorem dX4_addParts_44 : decode cX4_addParts 44 = .ok (.aload_n 1, 1) := by decide +kernel
theorem dX4_addParts_45 : decode cX4_addParts 45 = .ok (.getfield 99, 3) := by decide +kernel
theorem dX4_addParts_48 : decode cX4_addParts 48 = .ok (.getfield 207, 3) := by decide +kernel
theorem dX4_addParts_51 : decode cX4_addParts 51 = .ok (.iload_n 2, 1) := by decide +kernel
theorem dX4_addParts_52 : decode cX4_addParts 52 = .ok (.iload_n 3, 1) := by decide +kernel
theorem dX4_addParts_53 : decode cX4_addParts 53 = .ok (.iload 4, 2) := by decide +kernel
theorem dX4_addParts_55 : decode cX4_addParts 55 = .ok (.iload 5, 2) := by decide +kernel
theorem dX4_addParts_57 : decode cX4_addParts 57 = .ok (.invokespecial 229, 3) := by decide +kernel
theorem dX4_addParts_60 : decode cX4_addParts 60 = .ok (.invokevirtual 232, 3) := by decide +kernel
theorem dX4_addParts_63 : decode cX4_addParts 63 = .ok (.goto 63, 3) := by decide +kernel
theorem dX4_addParts_66 : decode cX4_addParts 66 = .ok (.aload_n 0, 1) := by decide +kernel
theorem dX4_addParts_67 : decode cX4_addParts 67 = .ok (.new 31, 3) := by decide +kernel
theorem dX4_addParts_70 : decode cX4_addParts 70 = .ok (.dup, 1) := by decide +kernel
theorem dX4_addParts_71 : decode cX4_addParts 71 = .ok (.aload_n 1, 1) := by decide +kernel
theorem dX4_addParts_72 : decode cX4_addParts 72 = .ok (.aload_n 1, 1) := by decide +kernel
theorem dX4_addParts_73 : decode cX4_addParts 73 = .ok (.getfield 99, 3) := by decide +kernel
theorem dX4_addParts_76 : decode cX4_addParts 76 = .ok (.getfield 207, 3) := by decide +kernel
theorem dX4_addParts_79 : decode cX4_addParts 79 = .ok (.iload_n 2, 1) := by decide +kernel
theorem dX4_addParts_80 : decode cX4_addParts 80 = .ok (.iload_n 3, 1) := by decide +kernel
theorem dX4_addParts_81 : decode cX4_addParts 81 = .ok (.aload_n 0, 1) := by decide +kernel
theorem dX4_addParts_82 : decode cX4_addParts 82 = .ok (.getfield 9, 3) := by decide +kernel
theorem dX4_addParts_85 : decode cX4_addParts 85 = .ok (.aload_n 1, 1) := by decide +kernel
theorem dX4_addParts_86 : decode cX4_addParts 86 = .ok (.getfield 99, 3) := by decide +kernel
theorem dX4_addParts_89 : decode cX4_addParts 89 = .ok (.getfield 207, 3) := by decide +kernel
theorem dX4_addParts_92 : decode cX4_addParts 92 = .ok (.iaload, 1) := by decide +kernel
theorem dX4_addParts_93 : decode cX4_addParts 93 = .ok (.iload_n 3, 1) := by decide +kernel
theorem dX4_addParts_94 : decode cX4_addParts 94 = .ok (.invokespecial 229, 3) := by decide +kernel
theorem dX4_addParts_97 : decode cX4_addParts 97 = .ok (.invokevirtual 232, 3) := by decide +kernel
theorem dX4_addParts_100 : decode cX4_addParts 100 = .ok (.aload_n 0, 1) := by decide +kernel
theorem dX4_addParts_101 : decode cX4_addParts 101 = .ok (.new 31, 3) := by decide +kernel
theorem dX4_addParts_104 : decode cX4_addParts 104 = .ok (.dup, 1) := by decide +kernel
theorem dX4_addParts_105 : decode cX4_addParts 105 = .ok (.aload_n 1, 1) := by decide +kernel
theorem dX4_addParts_106 : decode cX4_addParts 106 = .ok (.aload_n 1, 1) := by decide +kernel
theorem dX4_addParts_107 : decode cX4_addParts 107 = .ok (.getfield 106, 3) := by decide +kernel
theorem dX4_addParts_110 : decode cX4_addParts 110 = .ok (.getfield 207, 3) := by decide +kernel
theorem dX4_addParts_113 : decode cX4_addParts 113 = .ok (.iconst 0, 1) := by decide +kernel
theorem dX4_addParts_114 : decode cX4_addParts 114 = .ok (.iload 5, 2) := by decide +kernel
theorem dX4_addParts_116 : decode cX4_addParts 116 = .ok (.iload 4, 2) := by decide +kernel
theorem dX4_addParts_118 : decode cX4_addParts 118 = .ok (.iload 5, 2) := by decide +kernel
theorem dX4_addParts_120 : decode cX4_addParts 120 = .ok (.invokespecial 229, 3) := by decide +kernel
theorem dX4_addParts_123 : decode cX4_addParts 123 = .ok (.invokevirtual 232, 3) := by decide +kernel
theorem dX4_addParts_126 : decode cX4_addParts 126 = .ok (.return_, 1) := by decide +kernel
theorem dX4_addPart_0 : decode cX4_addPart 0 = .ok (.aload_n 0, 1) := by decide +kernel
theorem dX4_addPart_1 : decode cX4_addPart 1 = .ok (.getfield 86, 3) := by decide +kernel
theorem dX4_addPart_4 : decode cX4_addPart 4 = .ok (.bipush 80, 2) := by decide +kernel
theorem dX4_addPart_6 : decode cX4_addPart 6 = .ok (.if_icmp .ge 20, 3) := by decide +kernel
theorem dX4_addPart_9 : decode cX4_addPart 9 = .ok (.aload_n 0, 1) := by decide +kernel
theorem dX4_addPart_10 : decode cX4_addPart 10 = .ok (.getfield 33, 3) := by decide +kernel
theorem dX4_addPart_13 : decode cX4_addPart 13 = .ok (.aload_n 0, 1) := by decide +kernel
theorem dX4_addPart_14 : decode cX4_addPart 14 = .ok (.dup, 1) := by decide +kernel
theorem dX4_addPart_15 : decode cX4_addPart 15 = .ok (.getfield 86, 3) := by decide +kernel
theorem dX4_addPart_18 : decode cX4_addPart 18 = .ok (.dup_x1, 1) := by decide +kernel
theorem dX4_addPart_19 : decode cX4_addPart 19 = .ok (.iconst 1, 1) := by decide +kernel
theorem dX4_addPart_20 : decode cX4_addPart 20 = .ok (.iadd, 1) := by decide +kernel
theorem dX4_addPart_21 : decode cX4_addPart 21 = .ok (.putfield 86, 3) := by decide +kernel
theorem dX4_addPart_24 : decode cX4_addPart 24 = .ok (.aload_n 1, 1) := by decide +kernel
theorem dX4_addPart_25 : decode cX4_addPart 25 = .ok (.aastore, 1) := by decide +kernel
theorem dX4_addPart_26 : decode cX4_addPart 26 = .ok (.return_, 1) := by decide +kernel
theorem dX4_choose_0 : decode cX4_choose 0 = .ok (.iconst (-1), 1) := by decide +kernel
theorem dX4_choose_1 : decode cX4_choose 1 = .ok (.istore_n 2, 1) := by decide +kernel
theorem dX4_choose_2 : decode cX4_choose 2 = .ok (.iconst 0, 1) := by decide +kernel
theorem dX4_choose_3 : decode cX4_choose 3 = .ok (.istore_n 3, 1) := by decide +kernel
theorem dX4_choose_4 : decode cX4_choose 4 = .ok (.iload_n 3, 1) := by decide +kernel
theorem dX4_choose_5 : decode cX4_choose 5 = .ok (.aload_n 1, 1) := by decide +kernel
theorem dX4_choose_6 : decode cX4_choose 6 = .ok (.invokevirtual 136, 3) := by decide +kernel
theorem dX4_choose_9 : decode cX4_choose 9 = .ok (.if_icmp .ge 55, 3) := by decide +kernel
theorem dX4_choose_12 : decode cX4_choose 12 = .ok (.iload_n 2, 1) := by decide +kernel
theorem dX4_choose_13 : decode cX4_choose 13 = .ok (.iconst (-1), 1) := by decide +kernel
theorem dX4_choose_14 : decode cX4_choose 14 = .ok (.if_icmp .eq 16, 3) := by decide +kernel
theorem dX4_choose_17 : decode cX4_choose 17 = .ok (.aload_n 1, 1) := by decide +kernel
theorem dX4_choose_18 : decode cX4_choose 18 = .ok (.iload_n 3, 1) := by decide +kernel
theorem dX4_choose_19 : decode cX4_choose 19 = .ok (.invokevirtual 126, 3) := by decide +kernel
theorem dX4_choose_22 : decode cX4_choose 22 = .ok (.aload_n 1, 1) := by decide +kernel
theorem dX4_choose_23 : decode cX4_choose 23 = .ok (.iload_n 2, 1) := by decide +kernel
theorem dX4_choose_24 : decode cX4_choose 24 = .ok (.invokevirtual 126, 3) := by decide +kernel
theorem dX4_choose_27 : decode cX4_choose 27 = .ok (.if_icmp .ge 31, 3) := by decide +kernel
theorem dX4_choose_30 : decode cX4_choose 30 = .ok (.aload_n 1, 1) := by decide +kernel
theorem dX4_choose_31 : decode cX4_choose 31 = .ok (.iload_n 3, 1) := by decide +kernel
theorem dX4_choose_32 : decode cX4_choose 32 = .ok (.aload_n 0, 1) := by decide +kernel
theorem dX4_choose_33 : decode cX4_choose 33 = .ok (.getfield 41, 3) := by decide +kernel
theorem dX4_choose_36 : decode cX4_choose 36 = .ok (.invokevirtual 146, 3) := by decide +kernel
theorem dX4_choose_39 : decode cX4_choose 39 = .ok (.aload_n 0, 1) := by decide +kernel
theorem dX4_choose_40 : decode cX4_choose 40 = .ok (.iconst 1, 1) := by decide +kernel
theorem dX4_choose_41 : decode cX4_choose 41 = .ok (.invokevirtual 150, 3) := by decide +kernel
theorem dX4_choose_44 : decode cX4_choose 44 = .ok (.ifCond .ne 14, 3) := by decide +kernel
theorem dX4_choose_47 : decode cX4_choose 47 = .ok (.aload_n 0, 1) := by decide +kernel
theorem dX4_choose_48 : decode cX4_choose 48 = .ok (.aload_n 1, 1) := by decide +kernel
theorem dX4_choose_49 : decode cX4_choose 49 = .ok (.iconst 1, 1) := by decide +kernel
theorem dX4_choose_50 : decode cX4_choose 50 = .ok (.invokevirtual 153, 3) := by decide +kernel
theorem dX4_choose_53 : decode cX4_choose 53 = .ok (.ifCond .ne 5, 3) := by decide +kernel
theorem dX4_choose_56 : decode cX4_choose 56 = .ok (.iload_n 3, 1) := by decide +kernel
theorem dX4_choose_57 : decode cX4_choose 57 = .ok (.istore_n 2, 1) := by decide +kernel
theorem dX4_choose_58 : decode cX4_choose 58 = .ok (.iinc 3 1, 3) := by decide +kernel
theorem dX4_choose_61 : decode cX4_choose 61 = .ok (.goto (-57), 3) := by decide +kernel
theorem dX4_choose_64 : decode cX4_choose 64 = .ok (.aload_n 1, 1) := by decide +kernel
theorem dX4_choose_65 : decode cX4_choose 65 = .ok (.iload_n 2, 1) := by decide +kernel
theorem dX4_choose_66 : decode cX4_choose 66 = .ok (.iconst (-1), 1) := by decide +kernel
theorem dX4_choose_67 : decode cX4_choose 67 = .ok (.if_icmp .ne 7, 3) := by decide +kernel
theorem dX4_choose_70 : decode cX4_choose 70 = .ok (.iconst 1, 1) := by decide +kernel
theorem dX4_choose_71 : decode cX4_choose 71 = .ok (.goto 4, 3) := by decide +kernel
theorem dX4_choose_74 : decode cX4_choose 74 = .ok (.iconst 0, 1) := by decide +kernel
theorem dX4_choose_75 : decode cX4_choose 75 = .ok (.putfield 130, 3) := by decide +kernel
theorem dX4_choose_78 : decode cX4_choose 78 = .ok (.aload_n 1, 1) := by decide +kernel
theorem dX4_choose_79 : decode cX4_choose 79 = .ok (.aload_n 1, 1) := by decide +kernel
theorem dX4_choose_80 : decode cX4_choose 80 = .ok (.getfield 130, 3) := by decide +kernel
theorem dX4_choose_83 : decode cX4_choose 83 = .ok (.ifCond .eq 12, 3) := by decide +kernel
theorem dX4_choose_86 : decode cX4_choose 86 = .ok (.aload_n 1, 1) := by decide +kernel
theorem dX4_choose_87 : decode cX4_choose 87 = .ok (.invokevirtual 136, 3) := by decide +kernel
theorem dX4_choose_90 : decode cX4_choose 90 = .ok (.iconst 1, 1) := by decide +kernel
theorem dX4_choose_91 : decode cX4_choose 91 = .ok (.isub, 1) := by decide +kernel
theorem dX4_choose_92 : decode cX4_choose 92 = .ok (.goto 4, 3) := by decide +kernel
theorem dX4_choose_95 : decode cX4_choose 95 = .ok (.iload_n 2, 1) := by decide +kernel
theorem dX4_choose_96 : decode cX4_choose 96 = .ok (.putfield 89, 3) := by decide +kernel
theorem dX4_choose_99 : decode cX4_choose 99 = .ok (.aload_n 1, 1) := by decide +kernel
theorem dX4_choose_100 : decode cX4_choose 100 = .ok (.aload_n 1, 1) := by decide +kernel
theorem dX4_choose_101 : decode cX4_choose 101 = .ok (.getfield 89, 3) := by decide +kernel
theorem dX4_choose_104 : decode cX4_choose 104 = .ok (.aload_n 1, 1) := by decide +kernel
theorem dX4_choose_105 : decode cX4_choose 105 = .ok (.getfield 139, 3) := by decide +kernel
theorem dX4_choose_108 : decode cX4_choose 108 = .ok (.invokevirtual 146, 3) := by decide +kernel
theorem dX4_choose_111 : decode cX4_choose 111 = .ok (.return_, 1) := by decide +kernel
theorem dX4_barsMet_0 : decode cX4_barsMet 0 = .ok (.iconst 0, 1) := by decide +kernel
theorem dX4_barsMet_1 : decode cX4_barsMet 1 = .ok (.istore_n 2, 1) := by decide +kernel
theorem dX4_barsMet_2 : decode cX4_barsMet 2 = .ok (.iconst 0, 1) := by decide +kernel
theorem dX4_barsMet_3 : decode cX4_barsMet 3 = .ok (.istore_n 3, 1) := by decide +kernel
theorem dX4_barsMet_4 : decode cX4_barsMet 4 = .ok (.iload_n 3, 1) := by decide +kernel
theorem dX4_barsMet_5 : decode cX4_barsMet 5 = .ok (.aload_n 0, 1) := by decide +kernel
theorem dX4_barsMet_6 : decode cX4_barsMet 6 = .ok (.getfield 69, 3) := by decide +kernel
theorem dX4_barsMet_9 : decode cX4_barsMet 9 = .ok (.aload_n 0, 1) := by decide +kernel
theorem dX4_barsMet_10 : decode cX4_barsMet 10 = .ok (.getfield 72, 3) := by decide +kernel
theorem dX4_barsMet_13 : decode cX4_barsMet 13 = .ok (.iadd, 1) := by decide +kernel
theorem dX4_barsMet_14 : decode cX4_barsMet 14 = .ok (.if_icmp .ge 33, 3) := by decide +kernel
theorem dX4_barsMet_17 : decode cX4_barsMet 17 = .ok (.iload_n 2, 1) := by decide +kernel
theorem dX4_barsMet_18 : decode cX4_barsMet 18 = .ok (.iload_n 1, 1) := by decide +kernel
theorem dX4_barsMet_19 : decode cX4_barsMet 19 = .ok (.if_icmp .ge 28, 3) := by decide +kernel
theorem dX4_barsMet_22 : decode cX4_barsMet 22 = .ok (.aload_n 0, 1) := by decide +kernel
theorem dX4_barsMet_23 : decode cX4_barsMet 23 = .ok (.getfield 41, 3) := by decide +kernel
theorem dX4_barsMet_26 : decode cX4_barsMet 26 = .ok (.aload_n 0, 1) := by decide +kernel
theorem dX4_barsMet_27 : decode cX4_barsMet 27 = .ok (.getfield 21, 3) := by decide +kernel
theorem dX4_barsMet_30 : decode cX4_barsMet 30 = .ok (.iload_n 3, 1) := by decide +kernel
theorem dX4_barsMet_31 : decode cX4_barsMet 31 = .ok (.aaload, 1) := by decide +kernel
theorem dX4_barsMet_32 : decode cX4_barsMet 32 = .ok (.invokevirtual 235, 3) := by decide +kernel
theorem dX4_barsMet_35 : decode cX4_barsMet 35 = .ok (.ifCond .eq 6, 3) := by decide +kernel
theorem dX4_barsMet_38 : decode cX4_barsMet 38 = .ok (.iinc 2 1, 3) := by decide +kernel
theorem dX4_barsMet_41 : decode cX4_barsMet 41 = .ok (.iinc 3 1, 3) := by decide +kernel
theorem dX4_barsMet_44 : decode cX4_barsMet 44 = .ok (.goto (-40), 3) := by decide +kernel
theorem dX4_barsMet_47 : decode cX4_barsMet 47 = .ok (.iload_n 2, 1) := by decide +kernel
theorem dX4_barsMet_48 : decode cX4_barsMet 48 = .ok (.ireturn, 1) := by decide +kernel
theorem dX4_hullsMet_0 : decode cX4_hullsMet 0 = .ok (.iconst 0, 1) := by decide +kernel
theorem dX4_hullsMet_1 : decode cX4_hullsMet 1 = .ok (.istore_n 3, 1) := by decide +kernel
theorem dX4_hullsMet_2 : decode cX4_hullsMet 2 = .ok (.iconst 0, 1) := by decide +kernel
theorem dX4_hullsMet_3 : decode cX4_hullsMet 3 = .ok (.istore 4, 2) := by decide +kernel
theorem dX4_hullsMet_5 : decode cX4_hullsMet 5 = .ok (.iload 4, 2) := by decide +kernel
theorem dX4_hullsMet_7 : decode cX4_hullsMet 7 = .ok (.aload_n 0, 1) := by decide +kernel
theorem dX4_hullsMet_8 : decode cX4_hullsMet 8 = .ok (.getfield 86, 3) := by decide +kernel
theorem dX4_hullsMet_11 : decode cX4_hullsMet 11 = .ok (.if_icmp .ge 51, 3) := by decide +kernel
theorem dX4_hullsMet_14 : decode cX4_hullsMet 14 = .ok (.iload_n 3, 1) := by decide +kernel
theorem dX4_hullsMet_15 : decode cX4_hullsMet 15 = .ok (.iload_n 2, 1) := by decide +kernel
theorem dX4_hullsMet_16 : decode cX4_hullsMet 16 = .ok (.if_icmp .ge 46, 3) := by decide +kernel
theorem dX4_hullsMet_19 : decode cX4_hullsMet 19 = .ok (.aload_n 0, 1) := by decide +kernel
theorem dX4_hullsMet_20 : decode cX4_hullsMet 20 = .ok (.getfield 33, 3) := by decide +kernel
theorem dX4_hullsMet_23 : decode cX4_hullsMet 23 = .ok (.iload 4, 2) := by decide +kernel
theorem dX4_hullsMet_25 : decode cX4_hullsMet 25 = .ok (.aaload, 1) := by decide +kernel
theorem dX4_hullsMet_26 : decode cX4_hullsMet 26 = .ok (.aload_n 1, 1) := by decide +kernel
theorem dX4_hullsMet_27 : decode cX4_hullsMet 27 = .ok (.invokevirtual 165, 3) := by decide +kernel
theorem dX4_hullsMet_30 : decode cX4_hullsMet 30 = .ok (.ifCond .eq 26, 3) := by decide +kernel
theorem dX4_hullsMet_33 : decode cX4_hullsMet 33 = .ok (.aload_n 0, 1) := by decide +kernel
theorem dX4_hullsMet_34 : decode cX4_hullsMet 34 = .ok (.getfield 41, 3) := by decide +kernel
theorem dX4_hullsMet_37 : decode cX4_hullsMet 37 = .ok (.aload_n 0, 1) := by decide +kernel
theorem dX4_hullsMet_38 : decode cX4_hullsMet 38 = .ok (.getfield 33, 3) := by decide +kernel
theorem dX4_hullsMet_41 : decode cX4_hullsMet 41 = .ok (.iload 4, 2) := by decide +kernel
theorem dX4_hullsMet_43 : decode cX4_hullsMet 43 = .ok (.aaload, 1) := by decide +kernel
theorem dX4_hullsMet_44 : decode cX4_hullsMet 44 = .ok (.getfield 139, 3) := by decide +kernel
theorem dX4_hullsMet_47 : decode cX4_hullsMet 47 = .ok (.invokevirtual 235, 3) := by decide +kernel
theorem dX4_hullsMet_50 : decode cX4_hullsMet 50 = .ok (.ifCond .eq 6, 3) := by decide +kernel
theorem dX4_hullsMet_53 : decode cX4_hullsMet 53 = .ok (.iinc 3 1, 3) := by decide +kernel
theorem dX4_hullsMet_56 : decode cX4_hullsMet 56 = .ok (.iinc 4 1, 3) := by decide +kernel
theorem dX4_hullsMet_59 : decode cX4_hullsMet 59 = .ok (.goto (-54), 3) := by decide +kernel
theorem dX4_hullsMet_62 : decode cX4_hullsMet 62 = .ok (.iload_n 3, 1) := by decide +kernel
theorem dX4_hullsMet_63 : decode cX4_hullsMet 63 = .ok (.ireturn, 1) := by decide +kernel
theorem dX4_collidingParts_0 : decode cX4_collidingParts 0 = .ok (.iconst 0, 1) := by decide +kernel
theorem dX4_collidingParts_1 : decode cX4_collidingParts 1 = .ok (.istore_n 1, 1) := by decide +kernel
theorem dX4_collidingParts_2 : decode cX4_collidingParts 2 = .ok (.iconst 0, 1) := by decide +kernel
theorem dX4_collidingParts_3 : decode cX4_collidingParts 3 = .ok (.istore_n 2, 1) := by decide +kernel
theorem dX4_collidingParts_4 : decode cX4_collidingParts 4 = .ok (.iload_n 2, 1) := by decide +kernel
theorem dX4_collidingParts_5 : decode cX4_collidingParts 5 = .ok (.aload_n 0, 1) := by decide +kernel
theorem dX4_collidingParts_6 : decode cX4_collidingParts 6 = .ok (.getfield 86, 3) := by decide +kernel
theorem dX4_collidingParts_9 : decode cX4_collidingParts 9 = .ok (.if_icmp .ge 24, 3) := by decide +kernel
theorem dX4_collidingParts_12 : decode cX4_collidingParts 12 = .ok (.aload_n 0, 1) := by decide +kernel
theorem dX4_collidingParts_13 : decode cX4_collidingParts 13 = .ok (.getfield 33, 3) := by decide +kernel
theorem dX4_collidingParts_16 : decode cX4_collidingParts 16 = .ok (.iload_n 2, 1) := by decide +kernel
theorem dX4_collidingParts_17 : decode cX4_collidingParts 17 = .ok (.aaload, 1) := by decide +kernel
theorem dX4_collidingParts_18 : decode cX4_collidingParts 18 = .ok (.getfield 130, 3) := by decide +kernel
theorem dX4_collidingParts_21 : decode cX4_collidingParts 21 = .ok (.ifCond .eq 6, 3) := by decide +kernel
theorem dX4_collidingParts_24 : decode cX4_collidingParts 24 = .ok (.iinc 1 1, 3) := by decide +kernel
theorem dX4_collidingParts_27 : decode cX4_collidingParts 27 = .ok (.iinc 2 1, 3) := by decide +kernel
theorem dX4_collidingParts_30 : decode cX4_collidingParts 30 = .ok (.goto (-26), 3) := by decide +kernel
theorem dX4_collidingParts_33 : decode cX4_collidingParts 33 = .ok (.iload_n 1, 1) := by decide +kernel
theorem dX4_collidingParts_34 : decode cX4_collidingParts 34 = .ok (.ireturn, 1) := by decide +kernel
