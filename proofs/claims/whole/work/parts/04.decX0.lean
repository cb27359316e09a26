theorem dX0_init_0 : decode cX0_init 0 = .ok (.aload_n 0, 1) := by decide +kernel
theorem dX0_init_1 : decode cX0_init 1 = .ok (.invokespecial 1, 3) := by decide +kernel
theorem dX0_init_4 : decode cX0_init 4 = .ok (.aload_n 0, 1) := by decide +kernel
theorem dX0_init_5 : decode cX0_init 5 = .ok (.iload_n 1, 1) := by decide +kernel
theorem dX0_init_6 : decode cX0_init 6 = .ok (.putfield 7, 3) := by decide +kernel
theorem dX0_init_9 : decode cX0_init 9 = .ok (.aload_n 0, 1) := by decide +kernel
theorem dX0_init_10 : decode cX0_init 10 = .ok (.aload_n 2, 1) := by decide +kernel
theorem dX0_init_11 : decode cX0_init 11 = .ok (.putfield 13, 3) := by decide +kernel
theorem dX0_init_14 : decode cX0_init 14 = .ok (.aload_n 0, 1) := by decide +kernel
theorem dX0_init_15 : decode cX0_init 15 = .ok (.aload_n 3, 1) := by decide +kernel
theorem dX0_init_16 : decode cX0_init 16 = .ok (.putfield 17, 3) := by decide +kernel
theorem dX0_init_19 : decode cX0_init 19 = .ok (.aload_n 0, 1) := by decide +kernel
theorem dX0_init_20 : decode cX0_init 20 = .ok (.iload 4, 2) := by decide +kernel
theorem dX0_init_22 : decode cX0_init 22 = .ok (.putfield 20, 3) := by decide +kernel
theorem dX0_init_25 : decode cX0_init 25 = .ok (.aload_n 0, 1) := by decide +kernel
theorem dX0_init_26 : decode cX0_init 26 = .ok (.iload 5, 2) := by decide +kernel
theorem dX0_init_28 : decode cX0_init 28 = .ok (.putfield 24, 3) := by decide +kernel
theorem dX0_init_31 : decode cX0_init 31 = .ok (.aload_n 0, 1) := by decide +kernel
theorem dX0_init_32 : decode cX0_init 32 = .ok (.iload 6, 2) := by decide +kernel
theorem dX0_init_34 : decode cX0_init 34 = .ok (.putfield 27, 3) := by decide +kernel
theorem dX0_init_37 : decode cX0_init 37 = .ok (.return_, 1) := by decide +kernel
theorem dX0_partCount_0 : decode cX0_partCount 0 = .ok (.aload_n 0, 1) := by decide +kernel
theorem dX0_partCount_1 : decode cX0_partCount 1 = .ok (.getfield 13, 3) := by decide +kernel
theorem dX0_partCount_4 : decode cX0_partCount 4 = .ok (.getfield 30, 3) := by decide +kernel
theorem dX0_partCount_7 : decode cX0_partCount 7 = .ok (.aload_n 0, 1) := by decide +kernel
theorem dX0_partCount_8 : decode cX0_partCount 8 = .ok (.getfield 17, 3) := by decide +kernel
theorem dX0_partCount_11 : decode cX0_partCount 11 = .ok (.getfield 30, 3) := by decide +kernel
theorem dX0_partCount_14 : decode cX0_partCount 14 = .ok (.if_icmp .ne 7, 3) := by decide +kernel
theorem dX0_partCount_17 : decode cX0_partCount 17 = .ok (.iconst 1, 1) := by decide +kernel
theorem dX0_partCount_18 : decode cX0_partCount 18 = .ok (.goto 4, 3) := by decide +kernel
theorem dX0_partCount_21 : decode cX0_partCount 21 = .ok (.iconst 2, 1) := by decide +kernel
theorem dX0_partCount_22 : decode cX0_partCount 22 = .ok (.ireturn, 1) := by decide +kernel
theorem dX0_firstX_0 : decode cX0_firstX 0 = .ok (.aload_n 0, 1) := by decide +kernel
theorem dX0_firstX_1 : decode cX0_firstX 1 = .ok (.getfield 20, 3) := by decide +kernel
theorem dX0_firstX_4 : decode cX0_firstX 4 = .ok (.ifCond .eq 15, 3) := by decide +kernel
theorem dX0_firstX_7 : decode cX0_firstX 7 = .ok (.aload_n 0, 1) := by decide +kernel
theorem dX0_firstX_8 : decode cX0_firstX 8 = .ok (.getfield 13, 3) := by decide +kernel
theorem dX0_firstX_11 : decode cX0_firstX 11 = .ok (.getfield 35, 3) := by decide +kernel
theorem dX0_firstX_14 : decode cX0_firstX 14 = .ok (.iconst 3, 1) := by decide +kernel
theorem dX0_firstX_15 : decode cX0_firstX 15 = .ok (.iadd, 1) := by decide +kernel
theorem dX0_firstX_16 : decode cX0_firstX 16 = .ok (.goto 10, 3) := by decide +kernel
theorem dX0_firstX_19 : decode cX0_firstX 19 = .ok (.aload_n 0, 1) := by decide +kernel
theorem dX0_firstX_20 : decode cX0_firstX 20 = .ok (.getfield 13, 3) := by decide +kernel
theorem dX0_firstX_23 : decode cX0_firstX 23 = .ok (.getfield 35, 3) := by decide +kernel
theorem dX0_firstX_26 : decode cX0_firstX 26 = .ok (.ireturn, 1) := by decide +kernel
theorem dX0_secondX_0 : decode cX0_secondX 0 = .ok (.aload_n 0, 1) := by decide +kernel
theorem dX0_secondX_1 : decode cX0_secondX 1 = .ok (.getfield 20, 3) := by decide +kernel
theorem dX0_secondX_4 : decode cX0_secondX 4 = .ok (.ifCond .eq 15, 3) := by decide +kernel
theorem dX0_secondX_7 : decode cX0_secondX 7 = .ok (.aload_n 0, 1) := by decide +kernel
theorem dX0_secondX_8 : decode cX0_secondX 8 = .ok (.getfield 17, 3) := by decide +kernel
theorem dX0_secondX_11 : decode cX0_secondX 11 = .ok (.getfield 35, 3) := by decide +kernel
theorem dX0_secondX_14 : decode cX0_secondX 14 = .ok (.iconst 3, 1) := by decide +kernel
theorem dX0_secondX_15 : decode cX0_secondX 15 = .ok (.isub, 1) := by decide +kernel
theorem dX0_secondX_16 : decode cX0_secondX 16 = .ok (.goto 10, 3) := by decide +kernel
theorem dX0_secondX_19 : decode cX0_secondX 19 = .ok (.aload_n 0, 1) := by decide +kernel
theorem dX0_secondX_20 : decode cX0_secondX 20 = .ok (.getfield 17, 3) := by decide +kernel
theorem dX0_secondX_23 : decode cX0_secondX 23 = .ok (.getfield 35, 3) := by decide +kernel
theorem dX0_secondX_26 : decode cX0_secondX 26 = .ok (.ireturn, 1) := by decide +kernel
theorem dX0_endHeight_0 : decode cX0_endHeight 0 = .ok (.aload_n 0, 1) := by decide +kernel
theorem dX0_endHeight_1 : decode cX0_endHeight 1 = .ok (.getfield 20, 3) := by decide +kernel
theorem dX0_endHeight_4 : decode cX0_endHeight 4 = .ok (.ifCond .eq 15, 3) := by decide +kernel
theorem dX0_endHeight_7 : decode cX0_endHeight 7 = .ok (.aload_n 1, 1) := by decide +kernel
theorem dX0_endHeight_8 : decode cX0_endHeight 8 = .ok (.getfield 38, 3) := by decide +kernel
theorem dX0_endHeight_11 : decode cX0_endHeight 11 = .ok (.iconst 2, 1) := by decide +kernel
theorem dX0_endHeight_12 : decode cX0_endHeight 12 = .ok (.aload_n 0, 1) := by decide +kernel
theorem dX0_endHeight_13 : decode cX0_endHeight 13 = .ok (.getfield 24, 3) := by decide +kernel
theorem dX0_endHeight_16 : decode cX0_endHeight 16 = .ok (.imul, 1) := by decide +kernel
theorem dX0_endHeight_17 : decode cX0_endHeight 17 = .ok (.iadd, 1) := by decide +kernel
theorem dX0_endHeight_18 : decode cX0_endHeight 18 = .ok (.ireturn, 1) := by decide +kernel
theorem dX0_endHeight_19 : decode cX0_endHeight 19 = .ok (.aload_n 1, 1) := by decide +kernel
theorem dX0_endHeight_20 : decode cX0_endHeight 20 = .ok (.invokevirtual 41, 3) := by decide +kernel
theorem dX0_endHeight_23 : decode cX0_endHeight 23 = .ok (.aload_n 0, 1) := by decide +kernel
theorem dX0_endHeight_24 : decode cX0_endHeight 24 = .ok (.getfield 24, 3) := by decide +kernel
theorem dX0_endHeight_27 : decode cX0_endHeight 27 = .ok (.if_icmp .ne 8, 3) := by decide +kernel
theorem dX0_endHeight_30 : decode cX0_endHeight 30 = .ok (.bipush 24, 2) := by decide +kernel
theorem dX0_endHeight_32 : decode cX0_endHeight 32 = .ok (.goto 4, 3) := by decide +kernel
theorem dX0_endHeight_35 : decode cX0_endHeight 35 = .ok (.iconst 0, 1) := by decide +kernel
theorem dX0_endHeight_36 : decode cX0_endHeight 36 = .ok (.istore_n 2, 1) := by decide +kernel
theorem dX0_endHeight_37 : decode cX0_endHeight 37 = .ok (.aload_n 1, 1) := by decide +kernel
theorem dX0_endHeight_38 : decode cX0_endHeight 38 = .ok (.getfield 38, 3) := by decide +kernel
theorem dX0_endHeight_41 : decode cX0_endHeight 41 = .ok (.iconst 4, 1) := by decide +kernel
theorem dX0_endHeight_42 : decode cX0_endHeight 42 = .ok (.iload_n 2, 1) := by decide +kernel
theorem dX0_endHeight_43 : decode cX0_endHeight 43 = .ok (.iadd, 1) := by decide +kernel
theorem dX0_endHeight_44 : decode cX0_endHeight 44 = .ok (.aload_n 0, 1) := by decide +kernel
theorem dX0_endHeight_45 : decode cX0_endHeight 45 = .ok (.getfield 24, 3) := by decide +kernel
theorem dX0_endHeight_48 : decode cX0_endHeight 48 = .ok (.imul, 1) := by decide +kernel
theorem dX0_endHeight_49 : decode cX0_endHeight 49 = .ok (.iadd, 1) := by decide +kernel
theorem dX0_endHeight_50 : decode cX0_endHeight 50 = .ok (.ireturn, 1) := by decide +kernel
