/-! Decoded instructions and call sites: the list. -/
theorem dAL_init_0 : decode bAL_init 0 = .ok (.aload_n 0, 1) := by decide +kernel
theorem dAL_init_1 : decode bAL_init 1 = .ok (.invokespecial 1, 3) := by decide +kernel
theorem dAL_init_4 : decode bAL_init 4 = .ok (.aload_n 0, 1) := by decide +kernel
theorem dAL_init_5 : decode bAL_init 5 = .ok (.getstatic 39, 3) := by decide +kernel
theorem dAL_init_8 : decode bAL_init 8 = .ok (.putfield 9, 3) := by decide +kernel
theorem dAL_init_11 : decode bAL_init 11 = .ok (.return_, 1) := by decide +kernel
theorem dAB_init_0 : decode bAB_init 0 = .ok (.aload_n 0, 1) := by decide +kernel
theorem dAB_init_1 : decode bAB_init 1 = .ok (.invokespecial 1, 3) := by decide +kernel
theorem dAB_init_4 : decode bAB_init 4 = .ok (.aload_n 0, 1) := by decide +kernel
theorem dAB_init_5 : decode bAB_init 5 = .ok (.iconst 0, 1) := by decide +kernel
theorem dAB_init_6 : decode bAB_init 6 = .ok (.putfield 7, 3) := by decide +kernel
theorem dAB_init_9 : decode bAB_init 9 = .ok (.return_, 1) := by decide +kernel
theorem dAC_init_0 : decode bAC_init 0 = .ok (.aload_n 0, 1) := by decide +kernel
theorem dAC_init_1 : decode bAC_init 1 = .ok (.invokespecial 1, 3) := by decide +kernel
theorem dAC_init_4 : decode bAC_init 4 = .ok (.return_, 1) := by decide +kernel
theorem dAL_size_0 : decode bAL_size 0 = .ok (.aload_n 0, 1) := by decide +kernel
theorem dAL_size_1 : decode bAL_size 1 = .ok (.getfield 48, 3) := by decide +kernel
theorem dAL_size_4 : decode bAL_size 4 = .ok (.ireturn, 1) := by decide +kernel
theorem dAL_add1_0 : decode bAL_add1 0 = .ok (.aload_n 0, 1) := by decide +kernel
theorem dAL_add1_1 : decode bAL_add1 1 = .ok (.dup, 1) := by decide +kernel
theorem dAL_add1_2 : decode bAL_add1 2 = .ok (.getfield 63, 3) := by decide +kernel
theorem dAL_add1_5 : decode bAL_add1 5 = .ok (.iconst 1, 1) := by decide +kernel
theorem dAL_add1_6 : decode bAL_add1 6 = .ok (.iadd, 1) := by decide +kernel
theorem dAL_add1_7 : decode bAL_add1 7 = .ok (.putfield 63, 3) := by decide +kernel
theorem dAL_add1_10 : decode bAL_add1 10 = .ok (.aload_n 0, 1) := by decide +kernel
theorem dAL_add1_11 : decode bAL_add1 11 = .ok (.aload_n 1, 1) := by decide +kernel
theorem dAL_add1_12 : decode bAL_add1 12 = .ok (.aload_n 0, 1) := by decide +kernel
theorem dAL_add1_13 : decode bAL_add1 13 = .ok (.getfield 9, 3) := by decide +kernel
theorem dAL_add1_16 : decode bAL_add1 16 = .ok (.aload_n 0, 1) := by decide +kernel
theorem dAL_add1_17 : decode bAL_add1 17 = .ok (.getfield 48, 3) := by decide +kernel
theorem dAL_add1_20 : decode bAL_add1 20 = .ok (.invokevirtual 131, 3) := by decide +kernel
theorem dAL_add1_23 : decode bAL_add1 23 = .ok (.iconst 1, 1) := by decide +kernel
theorem dAL_add1_24 : decode bAL_add1 24 = .ok (.ireturn, 1) := by decide +kernel
theorem dAL_add3_0 : decode bAL_add3 0 = .ok (.iload_n 3, 1) := by decide +kernel
theorem dAL_add3_1 : decode bAL_add3 1 = .ok (.aload_n 2, 1) := by decide +kernel
theorem dAL_add3_2 : decode bAL_add3 2 = .ok (.arraylength, 1) := by decide +kernel
theorem dAL_add3_3 : decode bAL_add3 3 = .ok (.if_icmp .ne 8, 3) := by decide +kernel
theorem dAL_add3_6 : decode bAL_add3 6 = .ok (.aload_n 0, 1) := by decide +kernel
theorem dAL_add3_7 : decode bAL_add3 7 = .ok (.invokevirtual 129, 3) := by decide +kernel
theorem dAL_add3_10 : decode bAL_add3 10 = .ok (.astore_n 2, 1) := by decide +kernel
theorem dAL_add3_11 : decode bAL_add3 11 = .ok (.aload_n 2, 1) := by decide +kernel
theorem dAL_add3_12 : decode bAL_add3 12 = .ok (.iload_n 3, 1) := by decide +kernel
theorem dAL_add3_13 : decode bAL_add3 13 = .ok (.aload_n 1, 1) := by decide +kernel
theorem dAL_add3_14 : decode bAL_add3 14 = .ok (.aastore, 1) := by decide +kernel
theorem dAL_add3_15 : decode bAL_add3 15 = .ok (.aload_n 0, 1) := by decide +kernel
theorem dAL_add3_16 : decode bAL_add3 16 = .ok (.iload_n 3, 1) := by decide +kernel
theorem dAL_add3_17 : decode bAL_add3 17 = .ok (.iconst 1, 1) := by decide +kernel
theorem dAL_add3_18 : decode bAL_add3 18 = .ok (.iadd, 1) := by decide +kernel
theorem dAL_add3_19 : decode bAL_add3 19 = .ok (.putfield 48, 3) := by decide +kernel
theorem dAL_add3_22 : decode bAL_add3 22 = .ok (.return_, 1) := by decide +kernel
theorem dAL_grow0_0 : decode bAL_grow0 0 = .ok (.aload_n 0, 1) := by decide +kernel
theorem dAL_grow0_1 : decode bAL_grow0 1 = .ok (.aload_n 0, 1) := by decide +kernel
theorem dAL_grow0_2 : decode bAL_grow0 2 = .ok (.getfield 48, 3) := by decide +kernel
theorem dAL_grow0_5 : decode bAL_grow0 5 = .ok (.iconst 1, 1) := by decide +kernel
theorem dAL_grow0_6 : decode bAL_grow0 6 = .ok (.iadd, 1) := by decide +kernel
theorem dAL_grow0_7 : decode bAL_grow0 7 = .ok (.invokevirtual 69, 3) := by decide +kernel
theorem dAL_grow0_10 : decode bAL_grow0 10 = .ok (.areturn, 1) := by decide +kernel
theorem dAL_grow1_0 : decode bAL_grow1 0 = .ok (.aload_n 0, 1) := by decide +kernel
theorem dAL_grow1_1 : decode bAL_grow1 1 = .ok (.getfield 9, 3) := by decide +kernel
theorem dAL_grow1_4 : decode bAL_grow1 4 = .ok (.arraylength, 1) := by decide +kernel
theorem dAL_grow1_5 : decode bAL_grow1 5 = .ok (.istore_n 2, 1) := by decide +kernel
theorem dAL_grow1_6 : decode bAL_grow1 6 = .ok (.iload_n 2, 1) := by decide +kernel
theorem dAL_grow1_7 : decode bAL_grow1 7 = .ok (.ifCond .gt 13, 3) := by decide +kernel
theorem dAL_grow1_10 : decode bAL_grow1 10 = .ok (.aload_n 0, 1) := by decide +kernel
theorem dAL_grow1_11 : decode bAL_grow1 11 = .ok (.getfield 9, 3) := by decide +kernel
theorem dAL_grow1_14 : decode bAL_grow1 14 = .ok (.getstatic 39, 3) := by decide +kernel
theorem dAL_grow1_17 : decode bAL_grow1 17 = .ok (.if_acmp .eq 28, 3) := by decide +kernel
theorem dAL_grow1_20 : decode bAL_grow1 20 = .ok (.iload_n 2, 1) := by decide +kernel
theorem dAL_grow1_21 : decode bAL_grow1 21 = .ok (.iload_n 1, 1) := by decide +kernel
theorem dAL_grow1_22 : decode bAL_grow1 22 = .ok (.iload_n 2, 1) := by decide +kernel
theorem dAL_grow1_23 : decode bAL_grow1 23 = .ok (.isub, 1) := by decide +kernel
theorem dAL_grow1_24 : decode bAL_grow1 24 = .ok (.iload_n 2, 1) := by decide +kernel
theorem dAL_grow1_25 : decode bAL_grow1 25 = .ok (.iconst 1, 1) := by decide +kernel
theorem dAL_grow1_26 : decode bAL_grow1 26 = .ok (.ishr, 1) := by decide +kernel
theorem dAL_grow1_27 : decode bAL_grow1 27 = .ok (.invokestatic 73, 3) := by decide +kernel
theorem dAL_grow1_30 : decode bAL_grow1 30 = .ok (.istore_n 3, 1) := by decide +kernel
theorem dAL_grow1_31 : decode bAL_grow1 31 = .ok (.aload_n 0, 1) := by decide +kernel
theorem dAL_grow1_32 : decode bAL_grow1 32 = .ok (.aload_n 0, 1) := by decide +kernel
theorem dAL_grow1_33 : decode bAL_grow1 33 = .ok (.getfield 9, 3) := by decide +kernel
theorem dAL_grow1_36 : decode bAL_grow1 36 = .ok (.iload_n 3, 1) := by decide +kernel
theorem dAL_grow1_37 : decode bAL_grow1 37 = .ok (.invokestatic 66, 3) := by decide +kernel
theorem dAL_grow1_40 : decode bAL_grow1 40 = .ok (.dup_x1, 1) := by decide +kernel
theorem dAL_grow1_41 : decode bAL_grow1 41 = .ok (.putfield 9, 3) := by decide +kernel
theorem dAL_grow1_44 : decode bAL_grow1 44 = .ok (.areturn, 1) := by decide +kernel
theorem dAL_grow1_45 : decode bAL_grow1 45 = .ok (.aload_n 0, 1) := by decide +kernel
theorem dAL_grow1_46 : decode bAL_grow1 46 = .ok (.bipush 10, 2) := by decide +kernel
theorem dAL_grow1_48 : decode bAL_grow1 48 = .ok (.iload_n 1, 1) := by decide +kernel
theorem dAL_grow1_49 : decode bAL_grow1 49 = .ok (.invokestatic 79, 3) := by decide +kernel
theorem dAL_grow1_52 : decode bAL_grow1 52 = .ok (.anewarray 7, 3) := by decide +kernel
theorem dAL_grow1_55 : decode bAL_grow1 55 = .ok (.dup_x1, 1) := by decide +kernel
theorem dAL_grow1_56 : decode bAL_grow1 56 = .ok (.putfield 9, 3) := by decide +kernel
theorem dAL_grow1_59 : decode bAL_grow1 59 = .ok (.areturn, 1) := by decide +kernel
theorem dAS_newLength_0 : decode bAS_newLength 0 = .ok (.iload_n 0, 1) := by decide +kernel
theorem dAS_newLength_1 : decode bAS_newLength 1 = .ok (.iload_n 1, 1) := by decide +kernel
theorem dAS_newLength_2 : decode bAS_newLength 2 = .ok (.iload_n 2, 1) := by decide +kernel
theorem dAS_newLength_3 : decode bAS_newLength 3 = .ok (.invokestatic 194, 3) := by decide +kernel
theorem dAS_newLength_6 : decode bAS_newLength 6 = .ok (.iadd, 1) := by decide +kernel
theorem dAS_newLength_7 : decode bAS_newLength 7 = .ok (.istore_n 3, 1) := by decide +kernel
theorem dAS_newLength_8 : decode bAS_newLength 8 = .ok (.iconst 0, 1) := by decide +kernel
theorem dAS_newLength_9 : decode bAS_newLength 9 = .ok (.iload_n 3, 1) := by decide +kernel
theorem dAS_newLength_10 : decode bAS_newLength 10 = .ok (.if_icmp .ge 11, 3) := by decide +kernel
theorem dAS_newLength_13 : decode bAS_newLength 13 = .ok (.iload_n 3, 1) := by decide +kernel
theorem dAS_newLength_14 : decode bAS_newLength 14 = .ok (.ldc 200, 2) := by decide +kernel
theorem dAS_newLength_16 : decode bAS_newLength 16 = .ok (.if_icmp .gt 5, 3) := by decide +kernel
theorem dAS_newLength_19 : decode bAS_newLength 19 = .ok (.iload_n 3, 1) := by decide +kernel
theorem dAS_newLength_20 : decode bAS_newLength 20 = .ok (.ireturn, 1) := by decide +kernel
theorem dAS_newLength_21 : decode bAS_newLength 21 = .ok (.iload_n 0, 1) := by decide +kernel
theorem dAS_newLength_22 : decode bAS_newLength 22 = .ok (.iload_n 1, 1) := by decide +kernel
theorem dAS_newLength_23 : decode bAS_newLength 23 = .ok (.invokestatic 201, 3) := by decide +kernel
theorem dAS_newLength_26 : decode bAS_newLength 26 = .ok (.ireturn, 1) := by decide +kernel
theorem dAR_copyOf2_0 : decode bAR_copyOf2 0 = .ok (.aload_n 0, 1) := by decide +kernel
theorem dAR_copyOf2_1 : decode bAR_copyOf2 1 = .ok (.iload_n 1, 1) := by decide +kernel
theorem dAR_copyOf2_2 : decode bAR_copyOf2 2 = .ok (.aload_n 0, 1) := by decide +kernel
theorem dAR_copyOf2_3 : decode bAR_copyOf2 3 = .ok (.invokevirtual 86, 3) := by decide +kernel
theorem dAR_copyOf2_6 : decode bAR_copyOf2 6 = .ok (.invokestatic 300, 3) := by decide +kernel
theorem dAR_copyOf2_9 : decode bAR_copyOf2 9 = .ok (.areturn, 1) := by decide +kernel
theorem dAR_copyOf3_0 : decode bAR_copyOf3 0 = .ok (.aload_n 2, 1) := by decide +kernel
theorem dAR_copyOf3_1 : decode bAR_copyOf3 1 = .ok (.ldc 110, 2) := by decide +kernel
theorem dAR_copyOf3_3 : decode bAR_copyOf3 3 = .ok (.if_acmp .ne 10, 3) := by decide +kernel
theorem dAR_copyOf3_6 : decode bAR_copyOf3 6 = .ok (.iload_n 1, 1) := by decide +kernel
theorem dAR_copyOf3_7 : decode bAR_copyOf3 7 = .ok (.anewarray 2, 3) := by decide +kernel
theorem dAR_copyOf3_10 : decode bAR_copyOf3 10 = .ok (.goto 14, 3) := by decide +kernel
theorem dAR_copyOf3_13 : decode bAR_copyOf3 13 = .ok (.aload_n 2, 1) := by decide +kernel
theorem dAR_copyOf3_14 : decode bAR_copyOf3 14 = .ok (.invokevirtual 90, 3) := by decide +kernel
theorem dAR_copyOf3_17 : decode bAR_copyOf3 17 = .ok (.iload_n 1, 1) := by decide +kernel
theorem dAR_copyOf3_18 : decode bAR_copyOf3 18 = .ok (.invokestatic 95, 3) := by decide +kernel
theorem dAR_copyOf3_21 : decode bAR_copyOf3 21 = .ok (.checkcast 110, 3) := by decide +kernel
theorem dAR_copyOf3_24 : decode bAR_copyOf3 24 = .ok (.astore_n 3, 1) := by decide +kernel
theorem dAR_copyOf3_25 : decode bAR_copyOf3 25 = .ok (.aload_n 0, 1) := by decide +kernel
theorem dAR_copyOf3_26 : decode bAR_copyOf3 26 = .ok (.iconst 0, 1) := by decide +kernel
theorem dAR_copyOf3_27 : decode bAR_copyOf3 27 = .ok (.aload_n 3, 1) := by decide +kernel
theorem dAR_copyOf3_28 : decode bAR_copyOf3 28 = .ok (.iconst 0, 1) := by decide +kernel
theorem dAR_copyOf3_29 : decode bAR_copyOf3 29 = .ok (.aload_n 0, 1) := by decide +kernel
theorem dAR_copyOf3_30 : decode bAR_copyOf3 30 = .ok (.arraylength, 1) := by decide +kernel
theorem dAR_copyOf3_31 : decode bAR_copyOf3 31 = .ok (.iload_n 1, 1) := by decide +kernel
theorem dAR_copyOf3_32 : decode bAR_copyOf3 32 = .ok (.invokestatic 304, 3) := by decide +kernel
theorem dAR_copyOf3_35 : decode bAR_copyOf3 35 = .ok (.invokestatic 150, 3) := by decide +kernel
theorem dAR_copyOf3_38 : decode bAR_copyOf3 38 = .ok (.aload_n 3, 1) := by decide +kernel
theorem dAR_copyOf3_39 : decode bAR_copyOf3 39 = .ok (.areturn, 1) := by decide +kernel
theorem dAL_get_0 : decode bAL_get 0 = .ok (.iload_n 1, 1) := by decide +kernel
theorem dAL_get_1 : decode bAL_get 1 = .ok (.aload_n 0, 1) := by decide +kernel
theorem dAL_get_2 : decode bAL_get 2 = .ok (.getfield 48, 3) := by decide +kernel
theorem dAL_get_5 : decode bAL_get 5 = .ok (.invokestatic 118, 3) := by decide +kernel
theorem dAL_get_8 : decode bAL_get 8 = .ok (.pop, 1) := by decide +kernel
theorem dAL_get_9 : decode bAL_get 9 = .ok (.aload_n 0, 1) := by decide +kernel
theorem dAL_get_10 : decode bAL_get 10 = .ok (.iload_n 1, 1) := by decide +kernel
theorem dAL_get_11 : decode bAL_get 11 = .ok (.invokevirtual 123, 3) := by decide +kernel
theorem dAL_get_14 : decode bAL_get 14 = .ok (.areturn, 1) := by decide +kernel
theorem dOB_checkIndex_0 : decode bOB_checkIndex 0 = .ok (.iload_n 0, 1) := by decide +kernel
theorem dOB_checkIndex_1 : decode bOB_checkIndex 1 = .ok (.iload_n 1, 1) := by decide +kernel
theorem dOB_checkIndex_2 : decode bOB_checkIndex 2 = .ok (.aconst_null, 1) := by decide +kernel
theorem dOB_checkIndex_3 : decode bOB_checkIndex 3 = .ok (.invokestatic 105, 3) := by decide +kernel
theorem dOB_checkIndex_6 : decode bOB_checkIndex 6 = .ok (.ireturn, 1) := by decide +kernel
theorem dPC_checkIndex_0 : decode bPC_checkIndex 0 = .ok (.iload_n 0, 1) := by decide +kernel
theorem dPC_checkIndex_1 : decode bPC_checkIndex 1 = .ok (.ifCond .lt 8, 3) := by decide +kernel
theorem dPC_checkIndex_4 : decode bPC_checkIndex 4 = .ok (.iload_n 0, 1) := by decide +kernel
theorem dPC_checkIndex_5 : decode bPC_checkIndex 5 = .ok (.iload_n 1, 1) := by decide +kernel
theorem dPC_checkIndex_6 : decode bPC_checkIndex 6 = .ok (.if_icmp .lt 10, 3) := by decide +kernel
theorem dPC_checkIndex_9 : decode bPC_checkIndex 9 = .ok (.aload_n 2, 1) := by decide +kernel
theorem dPC_checkIndex_10 : decode bPC_checkIndex 10 = .ok (.iload_n 0, 1) := by decide +kernel
theorem dPC_checkIndex_11 : decode bPC_checkIndex 11 = .ok (.iload_n 1, 1) := by decide +kernel
theorem dPC_checkIndex_12 : decode bPC_checkIndex 12 = .ok (.invokestatic 95, 3) := by decide +kernel
theorem dPC_checkIndex_15 : decode bPC_checkIndex 15 = .ok (.athrow, 1) := by decide +kernel
theorem dPC_checkIndex_16 : decode bPC_checkIndex 16 = .ok (.iload_n 0, 1) := by decide +kernel
theorem dPC_checkIndex_17 : decode bPC_checkIndex 17 = .ok (.ireturn, 1) := by decide +kernel
theorem dAL_elementData_0 : decode bAL_elementData 0 = .ok (.aload_n 0, 1) := by decide +kernel
theorem dAL_elementData_1 : decode bAL_elementData 1 = .ok (.getfield 9, 3) := by decide +kernel
theorem dAL_elementData_4 : decode bAL_elementData 4 = .ok (.iload_n 1, 1) := by decide +kernel
theorem dAL_elementData_5 : decode bAL_elementData 5 = .ok (.aaload, 1) := by decide +kernel
theorem dAL_elementData_6 : decode bAL_elementData 6 = .ok (.areturn, 1) := by decide +kernel
theorem xk_AL_1 : xr_KI xBIG "java/util/ArrayList" 1 yAB_init bAB_init 1 0 := ⟨xmi 40 (by decide +kernel) rfl, xmi 41 (by decide +kernel) rfl, xmi 3 (by decide +kernel) rfl, xmi 42 (by decide +kernel) rfl, rfl, ⟨by decide, by decide, by decide +kernel⟩⟩
theorem xk_AB_1 : xr_KI xBIG "java/util/AbstractList" 1 yAC_init bAC_init 1 0 := ⟨xmi 43 (by decide +kernel) rfl, xmi 44 (by decide +kernel) rfl, xmi 2 (by decide +kernel) rfl, xmi 45 (by decide +kernel) rfl, rfl, ⟨by decide, by decide, by decide +kernel⟩⟩
theorem xk_AL_131 : xr_KV xBIG "java/util/ArrayList" 131 yAL_add3 bAL_add3 4 none 3 := ⟨xmi 224 (by decide +kernel) rfl, xmi 226 (by decide +kernel) rfl, xmp (q := (yAL_add3, 3)) (by decide +kernel) rfl, xmi 4 (by decide +kernel) rfl, xmi 227 (by decide +kernel) rfl, ⟨by decide, by decide, by decide +kernel⟩⟩
theorem xk_AL_129 : xr_KV xBIG "java/util/ArrayList" 129 yAL_grow0 bAL_grow0 1 (some (.array (.object "java/lang/Object"))) 0 := ⟨xmi 228 (by decide +kernel) rfl, xmi 230 (by decide +kernel) rfl, xmp (q := (yAL_grow0, 3)) (by decide +kernel) rfl, xmi 4 (by decide +kernel) rfl, xmi 231 (by decide +kernel) rfl, ⟨by decide, by decide, by decide +kernel⟩⟩
theorem xk_AS_194 : xr_KS xBIG "jdk/internal/util/ArraysSupport" 194 yMA_max bMA_max 2 (some .int) 2 := ⟨xmi 239 (by decide +kernel) rfl, xmi 240 (by decide +kernel) rfl, xmi 17 (by decide +kernel) rfl, xmi 241 (by decide +kernel) rfl, ⟨by decide, by decide, by decide +kernel⟩⟩
theorem xk_AS_201 : xr_KS xBIG "jdk/internal/util/ArraysSupport" 201 yAS_hugeLength bAS_hugeLength 3 (some .int) 2 := ⟨xmi 243 (by decide +kernel) rfl, xmi 244 (by decide +kernel) rfl, xmi 16 (by decide +kernel) rfl, xmi 245 (by decide +kernel) rfl, ⟨by decide, by decide, by decide +kernel⟩⟩
theorem xk_AL_118 : xr_KS xBIG "java/util/ArrayList" 118 yOB_checkIndex bOB_checkIndex 2 (some .int) 2 := ⟨xmi 590 (by decide +kernel) rfl, xmi 591 (by decide +kernel) rfl, xmi 19 (by decide +kernel) rfl, xmi 592 (by decide +kernel) rfl, ⟨by decide, by decide, by decide +kernel⟩⟩
theorem xk_OB_105 : xr_KS xBIG "java/util/Objects" 105 yPC_checkIndex bPC_checkIndex 3 (some .int) 3 := ⟨xmi 593 (by decide +kernel) rfl, xmi 594 (by decide +kernel) rfl, xmi 20 (by decide +kernel) rfl, xmi 595 (by decide +kernel) rfl, ⟨by decide, by decide, by decide +kernel⟩⟩
theorem xk_AL_123 : xr_KV xBIG "java/util/ArrayList" 123 yAL_elementData bAL_elementData 2 (some (.object "java/lang/Object")) 1 := ⟨xmi 596 (by decide +kernel) rfl, xmi 597 (by decide +kernel) rfl, xmi 598 (by decide +kernel) rfl, xmi 4 (by decide +kernel) rfl, xmi 599 (by decide +kernel) rfl, ⟨by decide, by decide, by decide +kernel⟩⟩
