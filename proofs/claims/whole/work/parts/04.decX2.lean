theorem dX2_init_0 : decode cX2_init 0 = .ok (.aload_n 0, 1) := by decide +kernel
theorem dX2_init_1 : decode cX2_init 1 = .ok (.invokespecial 3, 3) := by decide +kernel
theorem dX2_init_4 : decode cX2_init 4 = .ok (.aload_n 0, 1) := by decide +kernel
theorem dX2_init_5 : decode cX2_init 5 = .ok (.iload_n 1, 1) := by decide +kernel
theorem dX2_init_6 : decode cX2_init 6 = .ok (.putfield 9, 3) := by decide +kernel
theorem dX2_init_9 : decode cX2_init 9 = .ok (.aload_n 0, 1) := by decide +kernel
theorem dX2_init_10 : decode cX2_init 10 = .ok (.iload_n 2, 1) := by decide +kernel
theorem dX2_init_11 : decode cX2_init 11 = .ok (.putfield 15, 3) := by decide +kernel
theorem dX2_init_14 : decode cX2_init 14 = .ok (.aload_n 0, 1) := by decide +kernel
theorem dX2_init_15 : decode cX2_init 15 = .ok (.iload_n 3, 1) := by decide +kernel
theorem dX2_init_16 : decode cX2_init 16 = .ok (.putfield 18, 3) := by decide +kernel
theorem dX2_init_19 : decode cX2_init 19 = .ok (.aload_n 0, 1) := by decide +kernel
theorem dX2_init_20 : decode cX2_init 20 = .ok (.iload 4, 2) := by decide +kernel
theorem dX2_init_22 : decode cX2_init 22 = .ok (.putfield 21, 3) := by decide +kernel
theorem dX2_init_25 : decode cX2_init 25 = .ok (.aload_n 0, 1) := by decide +kernel
theorem dX2_init_26 : decode cX2_init 26 = .ok (.iload 5, 2) := by decide +kernel
theorem dX2_init_28 : decode cX2_init 28 = .ok (.putfield 24, 3) := by decide +kernel
theorem dX2_init_31 : decode cX2_init 31 = .ok (.return_, 1) := by decide +kernel
theorem dX2_isBefore_0 : decode cX2_isBefore 0 = .ok (.aload_n 0, 1) := by decide +kernel
theorem dX2_isBefore_1 : decode cX2_isBefore 1 = .ok (.getfield 15, 3) := by decide +kernel
theorem dX2_isBefore_4 : decode cX2_isBefore 4 = .ok (.aload_n 1, 1) := by decide +kernel
theorem dX2_isBefore_5 : decode cX2_isBefore 5 = .ok (.getfield 15, 3) := by decide +kernel
theorem dX2_isBefore_8 : decode cX2_isBefore 8 = .ok (.if_icmp .lt 25, 3) := by decide +kernel
theorem dX2_isBefore_11 : decode cX2_isBefore 11 = .ok (.aload_n 0, 1) := by decide +kernel
theorem dX2_isBefore_12 : decode cX2_isBefore 12 = .ok (.getfield 15, 3) := by decide +kernel
theorem dX2_isBefore_15 : decode cX2_isBefore 15 = .ok (.aload_n 1, 1) := by decide +kernel
theorem dX2_isBefore_16 : decode cX2_isBefore 16 = .ok (.getfield 15, 3) := by decide +kernel
theorem dX2_isBefore_19 : decode cX2_isBefore 19 = .ok (.if_icmp .ne 18, 3) := by decide +kernel
theorem dX2_isBefore_22 : decode cX2_isBefore 22 = .ok (.aload_n 0, 1) := by decide +kernel
theorem dX2_isBefore_23 : decode cX2_isBefore 23 = .ok (.getfield 18, 3) := by decide +kernel
theorem dX2_isBefore_26 : decode cX2_isBefore 26 = .ok (.aload_n 1, 1) := by decide +kernel
theorem dX2_isBefore_27 : decode cX2_isBefore 27 = .ok (.getfield 18, 3) := by decide +kernel
theorem dX2_isBefore_30 : decode cX2_isBefore 30 = .ok (.if_icmp .ge 7, 3) := by decide +kernel
theorem dX2_isBefore_33 : decode cX2_isBefore 33 = .ok (.iconst 1, 1) := by decide +kernel
theorem dX2_isBefore_34 : decode cX2_isBefore 34 = .ok (.goto 4, 3) := by decide +kernel
theorem dX2_isBefore_37 : decode cX2_isBefore 37 = .ok (.iconst 0, 1) := by decide +kernel
theorem dX2_isBefore_38 : decode cX2_isBefore 38 = .ok (.ireturn, 1) := by decide +kernel
theorem dX2_isInChordOf_0 : decode cX2_isInChordOf 0 = .ok (.aload_n 0, 1) := by decide +kernel
theorem dX2_isInChordOf_1 : decode cX2_isInChordOf 1 = .ok (.getfield 15, 3) := by decide +kernel
theorem dX2_isInChordOf_4 : decode cX2_isInChordOf 4 = .ok (.aload_n 1, 1) := by decide +kernel
theorem dX2_isInChordOf_5 : decode cX2_isInChordOf 5 = .ok (.getfield 15, 3) := by decide +kernel
theorem dX2_isInChordOf_8 : decode cX2_isInChordOf 8 = .ok (.if_icmp .ne 18, 3) := by decide +kernel
theorem dX2_isInChordOf_11 : decode cX2_isInChordOf 11 = .ok (.aload_n 0, 1) := by decide +kernel
theorem dX2_isInChordOf_12 : decode cX2_isInChordOf 12 = .ok (.getfield 18, 3) := by decide +kernel
theorem dX2_isInChordOf_15 : decode cX2_isInChordOf 15 = .ok (.aload_n 1, 1) := by decide +kernel
theorem dX2_isInChordOf_16 : decode cX2_isInChordOf 16 = .ok (.getfield 18, 3) := by decide +kernel
theorem dX2_isInChordOf_19 : decode cX2_isInChordOf 19 = .ok (.if_icmp .ne 7, 3) := by decide +kernel
theorem dX2_isInChordOf_22 : decode cX2_isInChordOf 22 = .ok (.iconst 1, 1) := by decide +kernel
theorem dX2_isInChordOf_23 : decode cX2_isInChordOf 23 = .ok (.goto 4, 3) := by decide +kernel
theorem dX2_isInChordOf_26 : decode cX2_isInChordOf 26 = .ok (.iconst 0, 1) := by decide +kernel
theorem dX2_isInChordOf_27 : decode cX2_isInChordOf 27 = .ok (.ireturn, 1) := by decide +kernel
theorem dX2_stemSide_0 : decode cX2_stemSide 0 = .ok (.aload_n 0, 1) := by decide +kernel
theorem dX2_stemSide_1 : decode cX2_stemSide 1 = .ok (.getfield 24, 3) := by decide +kernel
theorem dX2_stemSide_4 : decode cX2_stemSide 4 = .ok (.ifCond .eq 7, 3) := by decide +kernel
theorem dX2_stemSide_7 : decode cX2_stemSide 7 = .ok (.iconst 1, 1) := by decide +kernel
theorem dX2_stemSide_8 : decode cX2_stemSide 8 = .ok (.goto 4, 3) := by decide +kernel
theorem dX2_stemSide_11 : decode cX2_stemSide 11 = .ok (.iconst (-1), 1) := by decide +kernel
theorem dX2_stemSide_12 : decode cX2_stemSide 12 = .ok (.ireturn, 1) := by decide +kernel
