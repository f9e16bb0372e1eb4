/-! decode rows: Tag, Target, Served -/
theorem dTG_init_0 : decode bTG_init 0 = .ok (.aload_n 0, 1) := by decide +kernel
theorem dTG_init_1 : decode bTG_init 1 = .ok (.invokespecial 3, 3) := by decide +kernel
theorem dTG_init_4 : decode bTG_init 4 = .ok (.aload_n 0, 1) := by decide +kernel
theorem dTG_init_5 : decode bTG_init 5 = .ok (.iconst 4, 1) := by decide +kernel
theorem dTG_init_6 : decode bTG_init 6 = .ok (.newarray .int, 2) := by decide +kernel
theorem dTG_init_8 : decode bTG_init 8 = .ok (.putfield 9, 3) := by decide +kernel
theorem dTG_init_11 : decode bTG_init 11 = .ok (.aload_n 0, 1) := by decide +kernel
theorem dTG_init_12 : decode bTG_init 12 = .ok (.iconst 0, 1) := by decide +kernel
theorem dTG_init_13 : decode bTG_init 13 = .ok (.putfield 15, 3) := by decide +kernel
theorem dTG_init_16 : decode bTG_init 16 = .ok (.aload_n 0, 1) := by decide +kernel
theorem dTG_init_17 : decode bTG_init 17 = .ok (.iconst 0, 1) := by decide +kernel
theorem dTG_init_18 : decode bTG_init 18 = .ok (.putfield 19, 3) := by decide +kernel
theorem dTG_init_21 : decode bTG_init 21 = .ok (.aload_n 0, 1) := by decide +kernel
theorem dTG_init_22 : decode bTG_init 22 = .ok (.iconst 0, 1) := by decide +kernel
theorem dTG_init_23 : decode bTG_init 23 = .ok (.putfield 22, 3) := by decide +kernel
theorem dTG_init_26 : decode bTG_init 26 = .ok (.aload_n 0, 1) := by decide +kernel
theorem dTG_init_27 : decode bTG_init 27 = .ok (.iconst 0, 1) := by decide +kernel
theorem dTG_init_28 : decode bTG_init 28 = .ok (.putfield 25, 3) := by decide +kernel
theorem dTG_init_31 : decode bTG_init 31 = .ok (.aload_n 0, 1) := by decide +kernel
theorem dTG_init_32 : decode bTG_init 32 = .ok (.iconst 0, 1) := by decide +kernel
theorem dTG_init_33 : decode bTG_init 33 = .ok (.putfield 28, 3) := by decide +kernel
theorem dTG_init_36 : decode bTG_init 36 = .ok (.aload_n 0, 1) := by decide +kernel
theorem dTG_init_37 : decode bTG_init 37 = .ok (.iconst 0, 1) := by decide +kernel
theorem dTG_init_38 : decode bTG_init 38 = .ok (.putfield 31, 3) := by decide +kernel
theorem dTG_init_41 : decode bTG_init 41 = .ok (.aload_n 0, 1) := by decide +kernel
theorem dTG_init_42 : decode bTG_init 42 = .ok (.iconst 0, 1) := by decide +kernel
theorem dTG_init_43 : decode bTG_init 43 = .ok (.putfield 34, 3) := by decide +kernel
theorem dTG_init_46 : decode bTG_init 46 = .ok (.aload_n 0, 1) := by decide +kernel
theorem dTG_init_47 : decode bTG_init 47 = .ok (.iconst 0, 1) := by decide +kernel
theorem dTG_init_48 : decode bTG_init 48 = .ok (.putfield 38, 3) := by decide +kernel
theorem dTG_init_51 : decode bTG_init 51 = .ok (.aload_n 0, 1) := by decide +kernel
theorem dTG_init_52 : decode bTG_init 52 = .ok (.iload_n 1, 1) := by decide +kernel
theorem dTG_init_53 : decode bTG_init 53 = .ok (.putfield 41, 3) := by decide +kernel
theorem dTG_init_56 : decode bTG_init 56 = .ok (.aload_n 0, 1) := by decide +kernel
theorem dTG_init_57 : decode bTG_init 57 = .ok (.iload_n 2, 1) := by decide +kernel
theorem dTG_init_58 : decode bTG_init 58 = .ok (.putfield 44, 3) := by decide +kernel
theorem dTG_init_61 : decode bTG_init 61 = .ok (.return_, 1) := by decide +kernel
theorem dTA_init_0 : decode bTA_init 0 = .ok (.aload_n 0, 1) := by decide +kernel
theorem dTA_init_1 : decode bTA_init 1 = .ok (.invokespecial 3, 3) := by decide +kernel
theorem dTA_init_4 : decode bTA_init 4 = .ok (.aload_n 0, 1) := by decide +kernel
theorem dTA_init_5 : decode bTA_init 5 = .ok (.iconst 4, 1) := by decide +kernel
theorem dTA_init_6 : decode bTA_init 6 = .ok (.newarray .int, 2) := by decide +kernel
theorem dTA_init_8 : decode bTA_init 8 = .ok (.putfield 9, 3) := by decide +kernel
theorem dTA_init_11 : decode bTA_init 11 = .ok (.aload_n 0, 1) := by decide +kernel
theorem dTA_init_12 : decode bTA_init 12 = .ok (.iconst 0, 1) := by decide +kernel
theorem dTA_init_13 : decode bTA_init 13 = .ok (.putfield 15, 3) := by decide +kernel
theorem dTA_init_16 : decode bTA_init 16 = .ok (.aload_n 0, 1) := by decide +kernel
theorem dTA_init_17 : decode bTA_init 17 = .ok (.iconst 4, 1) := by decide +kernel
theorem dTA_init_18 : decode bTA_init 18 = .ok (.putfield 19, 3) := by decide +kernel
theorem dTA_init_21 : decode bTA_init 21 = .ok (.aload_n 0, 1) := by decide +kernel
theorem dTA_init_22 : decode bTA_init 22 = .ok (.iconst (-1), 1) := by decide +kernel
theorem dTA_init_23 : decode bTA_init 23 = .ok (.putfield 22, 3) := by decide +kernel
theorem dTA_init_26 : decode bTA_init 26 = .ok (.aload_n 0, 1) := by decide +kernel
theorem dTA_init_27 : decode bTA_init 27 = .ok (.iconst 0, 1) := by decide +kernel
theorem dTA_init_28 : decode bTA_init 28 = .ok (.putfield 25, 3) := by decide +kernel
theorem dTA_init_31 : decode bTA_init 31 = .ok (.return_, 1) := by decide +kernel
theorem dTA_leave_0 : decode bTA_leave 0 = .ok (.aload_n 0, 1) := by decide +kernel
theorem dTA_leave_1 : decode bTA_leave 1 = .ok (.getfield 9, 3) := by decide +kernel
theorem dTA_leave_4 : decode bTA_leave 4 = .ok (.iconst 0, 1) := by decide +kernel
theorem dTA_leave_5 : decode bTA_leave 5 = .ok (.iaload, 1) := by decide +kernel
theorem dTA_leave_6 : decode bTA_leave 6 = .ok (.istore_n 1, 1) := by decide +kernel
theorem dTA_leave_7 : decode bTA_leave 7 = .ok (.aload_n 0, 1) := by decide +kernel
theorem dTA_leave_8 : decode bTA_leave 8 = .ok (.getfield 15, 3) := by decide +kernel
theorem dTA_leave_11 : decode bTA_leave 11 = .ok (.ifCond .le 30, 3) := by decide +kernel
theorem dTA_leave_14 : decode bTA_leave 14 = .ok (.aload_n 0, 1) := by decide +kernel
theorem dTA_leave_15 : decode bTA_leave 15 = .ok (.dup, 1) := by decide +kernel
theorem dTA_leave_16 : decode bTA_leave 16 = .ok (.getfield 15, 3) := by decide +kernel
theorem dTA_leave_19 : decode bTA_leave 19 = .ok (.iconst 1, 1) := by decide +kernel
theorem dTA_leave_20 : decode bTA_leave 20 = .ok (.isub, 1) := by decide +kernel
theorem dTA_leave_21 : decode bTA_leave 21 = .ok (.putfield 15, 3) := by decide +kernel
theorem dTA_leave_24 : decode bTA_leave 24 = .ok (.aload_n 0, 1) := by decide +kernel
theorem dTA_leave_25 : decode bTA_leave 25 = .ok (.getfield 9, 3) := by decide +kernel
theorem dTA_leave_28 : decode bTA_leave 28 = .ok (.iconst 1, 1) := by decide +kernel
theorem dTA_leave_29 : decode bTA_leave 29 = .ok (.aload_n 0, 1) := by decide +kernel
theorem dTA_leave_30 : decode bTA_leave 30 = .ok (.getfield 9, 3) := by decide +kernel
theorem dTA_leave_33 : decode bTA_leave 33 = .ok (.iconst 0, 1) := by decide +kernel
theorem dTA_leave_34 : decode bTA_leave 34 = .ok (.aload_n 0, 1) := by decide +kernel
theorem dTA_leave_35 : decode bTA_leave 35 = .ok (.getfield 15, 3) := by decide +kernel
theorem dTA_leave_38 : decode bTA_leave 38 = .ok (.invokestatic 29, 3) := by decide +kernel
theorem dTA_leave_41 : decode bTA_leave 41 = .ok (.iload_n 1, 1) := by decide +kernel
theorem dTA_leave_42 : decode bTA_leave 42 = .ok (.ireturn, 1) := by decide +kernel
theorem dSV_init_0 : decode bSV_init 0 = .ok (.aload_n 0, 1) := by decide +kernel
theorem dSV_init_1 : decode bSV_init 1 = .ok (.invokespecial 1, 3) := by decide +kernel
theorem dSV_init_4 : decode bSV_init 4 = .ok (.aload_n 0, 1) := by decide +kernel
theorem dSV_init_5 : decode bSV_init 5 = .ok (.aload_n 1, 1) := by decide +kernel
theorem dSV_init_6 : decode bSV_init 6 = .ok (.getfield 7, 3) := by decide +kernel
theorem dSV_init_9 : decode bSV_init 9 = .ok (.putfield 13, 3) := by decide +kernel
theorem dSV_init_12 : decode bSV_init 12 = .ok (.aload_n 0, 1) := by decide +kernel
theorem dSV_init_13 : decode bSV_init 13 = .ok (.aload_n 1, 1) := by decide +kernel
theorem dSV_init_14 : decode bSV_init 14 = .ok (.getfield 16, 3) := by decide +kernel
theorem dSV_init_17 : decode bSV_init 17 = .ok (.putfield 19, 3) := by decide +kernel
theorem dSV_init_20 : decode bSV_init 20 = .ok (.aload_n 0, 1) := by decide +kernel
theorem dSV_init_21 : decode bSV_init 21 = .ok (.aload_n 1, 1) := by decide +kernel
theorem dSV_init_22 : decode bSV_init 22 = .ok (.getfield 22, 3) := by decide +kernel
theorem dSV_init_25 : decode bSV_init 25 = .ok (.putfield 25, 3) := by decide +kernel
theorem dSV_init_28 : decode bSV_init 28 = .ok (.aload_n 0, 1) := by decide +kernel
theorem dSV_init_29 : decode bSV_init 29 = .ok (.aload_n 1, 1) := by decide +kernel
theorem dSV_init_30 : decode bSV_init 30 = .ok (.getfield 26, 3) := by decide +kernel
theorem dSV_init_33 : decode bSV_init 33 = .ok (.putfield 29, 3) := by decide +kernel
theorem dSV_init_36 : decode bSV_init 36 = .ok (.aload_n 0, 1) := by decide +kernel
theorem dSV_init_37 : decode bSV_init 37 = .ok (.aload_n 1, 1) := by decide +kernel
theorem dSV_init_38 : decode bSV_init 38 = .ok (.getfield 30, 3) := by decide +kernel
theorem dSV_init_41 : decode bSV_init 41 = .ok (.putfield 33, 3) := by decide +kernel
theorem dSV_init_44 : decode bSV_init 44 = .ok (.aload_n 0, 1) := by decide +kernel
theorem dSV_init_45 : decode bSV_init 45 = .ok (.iload_n 2, 1) := by decide +kernel
theorem dSV_init_46 : decode bSV_init 46 = .ok (.putfield 34, 3) := by decide +kernel
theorem dSV_init_49 : decode bSV_init 49 = .ok (.return_, 1) := by decide +kernel
theorem dTG_isReading_0 : decode bTG_isReading 0 = .ok (.aload_n 0, 1) := by decide +kernel
theorem dTG_isReading_1 : decode bTG_isReading 1 = .ok (.getfield 19, 3) := by decide +kernel
theorem dTG_isReading_4 : decode bTG_isReading 4 = .ok (.ifCond .eq 11, 3) := by decide +kernel
theorem dTG_isReading_7 : decode bTG_isReading 7 = .ok (.aload_n 0, 1) := by decide +kernel
theorem dTG_isReading_8 : decode bTG_isReading 8 = .ok (.getfield 19, 3) := by decide +kernel
theorem dTG_isReading_11 : decode bTG_isReading 11 = .ok (.iconst 2, 1) := by decide +kernel
theorem dTG_isReading_12 : decode bTG_isReading 12 = .ok (.if_icmp .ne 7, 3) := by decide +kernel
theorem dTG_isReading_15 : decode bTG_isReading 15 = .ok (.iconst 1, 1) := by decide +kernel
theorem dTG_isReading_16 : decode bTG_isReading 16 = .ok (.goto 4, 3) := by decide +kernel
theorem dTG_isReading_19 : decode bTG_isReading 19 = .ok (.iconst 0, 1) := by decide +kernel
theorem dTG_isReading_20 : decode bTG_isReading 20 = .ok (.ireturn, 1) := by decide +kernel
theorem dTG_keep_0 : decode bTG_keep 0 = .ok (.aload_n 1, 1) := by decide +kernel
theorem dTG_keep_1 : decode bTG_keep 1 = .ok (.iload_n 2, 1) := by decide +kernel
theorem dTG_keep_2 : decode bTG_keep 2 = .ok (.aload_n 0, 1) := by decide +kernel
theorem dTG_keep_3 : decode bTG_keep 3 = .ok (.getfield 9, 3) := by decide +kernel
theorem dTG_keep_6 : decode bTG_keep 6 = .ok (.iconst 0, 1) := by decide +kernel
theorem dTG_keep_7 : decode bTG_keep 7 = .ok (.aload_n 0, 1) := by decide +kernel
theorem dTG_keep_8 : decode bTG_keep 8 = .ok (.getfield 25, 3) := by decide +kernel
theorem dTG_keep_11 : decode bTG_keep 11 = .ok (.invokestatic 47, 3) := by decide +kernel
theorem dTG_keep_14 : decode bTG_keep 14 = .ok (.return_, 1) := by decide +kernel
theorem dTG_isBefore_0 : decode bTG_isBefore 0 = .ok (.aload_n 0, 1) := by decide +kernel
theorem dTG_isBefore_1 : decode bTG_isBefore 1 = .ok (.getfield 28, 3) := by decide +kernel
theorem dTG_isBefore_4 : decode bTG_isBefore 4 = .ok (.aload_n 1, 1) := by decide +kernel
theorem dTG_isBefore_5 : decode bTG_isBefore 5 = .ok (.getfield 28, 3) := by decide +kernel
theorem dTG_isBefore_8 : decode bTG_isBefore 8 = .ok (.if_icmp .ge 7, 3) := by decide +kernel
theorem dTG_isBefore_11 : decode bTG_isBefore 11 = .ok (.iconst 1, 1) := by decide +kernel
theorem dTG_isBefore_12 : decode bTG_isBefore 12 = .ok (.goto 4, 3) := by decide +kernel
theorem dTG_isBefore_15 : decode bTG_isBefore 15 = .ok (.iconst 0, 1) := by decide +kernel
theorem dTG_isBefore_16 : decode bTG_isBefore 16 = .ok (.ireturn, 1) := by decide +kernel
theorem dTG_isOpen_0 : decode bTG_isOpen 0 = .ok (.aload_n 0, 1) := by decide +kernel
theorem dTG_isOpen_1 : decode bTG_isOpen 1 = .ok (.getfield 15, 3) := by decide +kernel
theorem dTG_isOpen_4 : decode bTG_isOpen 4 = .ok (.iconst 1, 1) := by decide +kernel
theorem dTG_isOpen_5 : decode bTG_isOpen 5 = .ok (.if_icmp .eq 11, 3) := by decide +kernel
theorem dTG_isOpen_8 : decode bTG_isOpen 8 = .ok (.aload_n 0, 1) := by decide +kernel
theorem dTG_isOpen_9 : decode bTG_isOpen 9 = .ok (.getfield 15, 3) := by decide +kernel
theorem dTG_isOpen_12 : decode bTG_isOpen 12 = .ok (.iconst 2, 1) := by decide +kernel
theorem dTG_isOpen_13 : decode bTG_isOpen 13 = .ok (.if_icmp .ne 7, 3) := by decide +kernel
theorem dTG_isOpen_16 : decode bTG_isOpen 16 = .ok (.iconst 1, 1) := by decide +kernel
theorem dTG_isOpen_17 : decode bTG_isOpen 17 = .ok (.goto 4, 3) := by decide +kernel
theorem dTG_isOpen_20 : decode bTG_isOpen 20 = .ok (.iconst 0, 1) := by decide +kernel
theorem dTG_isOpen_21 : decode bTG_isOpen 21 = .ok (.ireturn, 1) := by decide +kernel
theorem dTG_overlaps_0 : decode bTG_overlaps 0 = .ok (.aload_n 0, 1) := by decide +kernel
theorem dTG_overlaps_1 : decode bTG_overlaps 1 = .ok (.getfield 22, 3) := by decide +kernel
theorem dTG_overlaps_4 : decode bTG_overlaps 4 = .ok (.aload_n 1, 1) := by decide +kernel
theorem dTG_overlaps_5 : decode bTG_overlaps 5 = .ok (.getfield 22, 3) := by decide +kernel
theorem dTG_overlaps_8 : decode bTG_overlaps 8 = .ok (.aload_n 1, 1) := by decide +kernel
theorem dTG_overlaps_9 : decode bTG_overlaps 9 = .ok (.getfield 25, 3) := by decide +kernel
theorem dTG_overlaps_12 : decode bTG_overlaps 12 = .ok (.iadd, 1) := by decide +kernel
theorem dTG_overlaps_13 : decode bTG_overlaps 13 = .ok (.if_icmp .ge 23, 3) := by decide +kernel
theorem dTG_overlaps_16 : decode bTG_overlaps 16 = .ok (.aload_n 1, 1) := by decide +kernel
theorem dTG_overlaps_17 : decode bTG_overlaps 17 = .ok (.getfield 22, 3) := by decide +kernel
theorem dTG_overlaps_20 : decode bTG_overlaps 20 = .ok (.aload_n 0, 1) := by decide +kernel
theorem dTG_overlaps_21 : decode bTG_overlaps 21 = .ok (.getfield 22, 3) := by decide +kernel
theorem dTG_overlaps_24 : decode bTG_overlaps 24 = .ok (.aload_n 0, 1) := by decide +kernel
theorem dTG_overlaps_25 : decode bTG_overlaps 25 = .ok (.getfield 25, 3) := by decide +kernel
theorem dTG_overlaps_28 : decode bTG_overlaps 28 = .ok (.iadd, 1) := by decide +kernel
theorem dTG_overlaps_29 : decode bTG_overlaps 29 = .ok (.if_icmp .ge 7, 3) := by decide +kernel
theorem dTG_overlaps_32 : decode bTG_overlaps 32 = .ok (.iconst 1, 1) := by decide +kernel
theorem dTG_overlaps_33 : decode bTG_overlaps 33 = .ok (.goto 4, 3) := by decide +kernel
theorem dTG_overlaps_36 : decode bTG_overlaps 36 = .ok (.iconst 0, 1) := by decide +kernel
theorem dTG_overlaps_37 : decode bTG_overlaps 37 = .ok (.ireturn, 1) := by decide +kernel
theorem dTG_isUnmapped_0 : decode bTG_isUnmapped 0 = .ok (.aload_n 0, 1) := by decide +kernel
theorem dTG_isUnmapped_1 : decode bTG_isUnmapped 1 = .ok (.getfield 22, 3) := by decide +kernel
theorem dTG_isUnmapped_4 : decode bTG_isUnmapped 4 = .ok (.bipush 48, 2) := by decide +kernel
theorem dTG_isUnmapped_6 : decode bTG_isUnmapped 6 = .ok (.if_icmp .lt 7, 3) := by decide +kernel
theorem dTG_isUnmapped_9 : decode bTG_isUnmapped 9 = .ok (.iconst 1, 1) := by decide +kernel
theorem dTG_isUnmapped_10 : decode bTG_isUnmapped 10 = .ok (.goto 4, 3) := by decide +kernel
theorem dTG_isUnmapped_13 : decode bTG_isUnmapped 13 = .ok (.iconst 0, 1) := by decide +kernel
theorem dTG_isUnmapped_14 : decode bTG_isUnmapped 14 = .ok (.ireturn, 1) := by decide +kernel
theorem dTA_join_0 : decode bTA_join 0 = .ok (.aload_n 0, 1) := by decide +kernel
theorem dTA_join_1 : decode bTA_join 1 = .ok (.getfield 15, 3) := by decide +kernel
theorem dTA_join_4 : decode bTA_join 4 = .ok (.iconst 4, 1) := by decide +kernel
theorem dTA_join_5 : decode bTA_join 5 = .ok (.if_icmp .ge 23, 3) := by decide +kernel
theorem dTA_join_8 : decode bTA_join 8 = .ok (.aload_n 0, 1) := by decide +kernel
theorem dTA_join_9 : decode bTA_join 9 = .ok (.getfield 9, 3) := by decide +kernel
theorem dTA_join_12 : decode bTA_join 12 = .ok (.aload_n 0, 1) := by decide +kernel
theorem dTA_join_13 : decode bTA_join 13 = .ok (.getfield 15, 3) := by decide +kernel
theorem dTA_join_16 : decode bTA_join 16 = .ok (.iload_n 1, 1) := by decide +kernel
theorem dTA_join_17 : decode bTA_join 17 = .ok (.iastore, 1) := by decide +kernel
theorem dTA_join_18 : decode bTA_join 18 = .ok (.aload_n 0, 1) := by decide +kernel
theorem dTA_join_19 : decode bTA_join 19 = .ok (.dup, 1) := by decide +kernel
theorem dTA_join_20 : decode bTA_join 20 = .ok (.getfield 15, 3) := by decide +kernel
theorem dTA_join_23 : decode bTA_join 23 = .ok (.iconst 1, 1) := by decide +kernel
theorem dTA_join_24 : decode bTA_join 24 = .ok (.iadd, 1) := by decide +kernel
theorem dTA_join_25 : decode bTA_join 25 = .ok (.putfield 15, 3) := by decide +kernel
theorem dTA_join_28 : decode bTA_join 28 = .ok (.return_, 1) := by decide +kernel
theorem dTG_begin_0 : decode bTG_begin 0 = .ok (.aload_n 0, 1) := by decide +kernel
theorem dTG_begin_1 : decode bTG_begin 1 = .ok (.iconst 1, 1) := by decide +kernel
theorem dTG_begin_2 : decode bTG_begin 2 = .ok (.putfield 15, 3) := by decide +kernel
theorem dTG_begin_5 : decode bTG_begin 5 = .ok (.aload_n 0, 1) := by decide +kernel
theorem dTG_begin_6 : decode bTG_begin 6 = .ok (.iload_n 1, 1) := by decide +kernel
theorem dTG_begin_7 : decode bTG_begin 7 = .ok (.putfield 19, 3) := by decide +kernel
theorem dTG_begin_10 : decode bTG_begin 10 = .ok (.aload_n 0, 1) := by decide +kernel
theorem dTG_begin_11 : decode bTG_begin 11 = .ok (.iload_n 2, 1) := by decide +kernel
theorem dTG_begin_12 : decode bTG_begin 12 = .ok (.putfield 22, 3) := by decide +kernel
theorem dTG_begin_15 : decode bTG_begin 15 = .ok (.aload_n 0, 1) := by decide +kernel
theorem dTG_begin_16 : decode bTG_begin 16 = .ok (.iload_n 3, 1) := by decide +kernel
theorem dTG_begin_17 : decode bTG_begin 17 = .ok (.putfield 25, 3) := by decide +kernel
theorem dTG_begin_20 : decode bTG_begin 20 = .ok (.aload_n 0, 1) := by decide +kernel
theorem dTG_begin_21 : decode bTG_begin 21 = .ok (.iload 4, 2) := by decide +kernel
theorem dTG_begin_23 : decode bTG_begin 23 = .ok (.putfield 28, 3) := by decide +kernel
theorem dTG_begin_26 : decode bTG_begin 26 = .ok (.aload_n 0, 1) := by decide +kernel
theorem dTG_begin_27 : decode bTG_begin 27 = .ok (.iconst 0, 1) := by decide +kernel
theorem dTG_begin_28 : decode bTG_begin 28 = .ok (.putfield 31, 3) := by decide +kernel
theorem dTG_begin_31 : decode bTG_begin 31 = .ok (.aload_n 0, 1) := by decide +kernel
theorem dTG_begin_32 : decode bTG_begin 32 = .ok (.iconst 0, 1) := by decide +kernel
theorem dTG_begin_33 : decode bTG_begin 33 = .ok (.putfield 34, 3) := by decide +kernel
theorem dTG_begin_36 : decode bTG_begin 36 = .ok (.aload_n 0, 1) := by decide +kernel
theorem dTG_begin_37 : decode bTG_begin 37 = .ok (.iconst 0, 1) := by decide +kernel
theorem dTG_begin_38 : decode bTG_begin 38 = .ok (.putfield 38, 3) := by decide +kernel
theorem dTG_begin_41 : decode bTG_begin 41 = .ok (.return_, 1) := by decide +kernel
theorem dSV_fact_0 : decode bSV_fact 0 = .ok (.iload_n 1, 1) := by decide +kernel
theorem dSV_fact_1 : decode bSV_fact 1 = .ok (.tableswitch 60 0 4 #[35, 40, 45, 50, 55], 35) := by decide +kernel
theorem dSV_fact_36 : decode bSV_fact 36 = .ok (.aload_n 0, 1) := by decide +kernel
theorem dSV_fact_37 : decode bSV_fact 37 = .ok (.getfield 13, 3) := by decide +kernel
theorem dSV_fact_40 : decode bSV_fact 40 = .ok (.ireturn, 1) := by decide +kernel
theorem dSV_fact_41 : decode bSV_fact 41 = .ok (.aload_n 0, 1) := by decide +kernel
theorem dSV_fact_42 : decode bSV_fact 42 = .ok (.getfield 19, 3) := by decide +kernel
theorem dSV_fact_45 : decode bSV_fact 45 = .ok (.ireturn, 1) := by decide +kernel
theorem dSV_fact_46 : decode bSV_fact 46 = .ok (.aload_n 0, 1) := by decide +kernel
theorem dSV_fact_47 : decode bSV_fact 47 = .ok (.getfield 25, 3) := by decide +kernel
theorem dSV_fact_50 : decode bSV_fact 50 = .ok (.ireturn, 1) := by decide +kernel
theorem dSV_fact_51 : decode bSV_fact 51 = .ok (.aload_n 0, 1) := by decide +kernel
theorem dSV_fact_52 : decode bSV_fact 52 = .ok (.getfield 29, 3) := by decide +kernel
theorem dSV_fact_55 : decode bSV_fact 55 = .ok (.ireturn, 1) := by decide +kernel
theorem dSV_fact_56 : decode bSV_fact 56 = .ok (.aload_n 0, 1) := by decide +kernel
theorem dSV_fact_57 : decode bSV_fact 57 = .ok (.getfield 33, 3) := by decide +kernel
theorem dSV_fact_60 : decode bSV_fact 60 = .ok (.ireturn, 1) := by decide +kernel
theorem dSV_fact_61 : decode bSV_fact 61 = .ok (.aload_n 0, 1) := by decide +kernel
theorem dSV_fact_62 : decode bSV_fact 62 = .ok (.getfield 34, 3) := by decide +kernel
theorem dSV_fact_65 : decode bSV_fact 65 = .ok (.ireturn, 1) := by decide +kernel
