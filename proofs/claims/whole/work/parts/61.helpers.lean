/-! The law's helpers. -/
theorem dLW_data_0 : decode bLW_data 0 = .ok (.aload_n 0, 1) := by decide +kernel
theorem dLW_data_1 : decode bLW_data 1 = .ok (.iload_n 1, 1) := by decide +kernel
theorem dLW_data_2 : decode bLW_data 2 = .ok (.iload_n 2, 1) := by decide +kernel
theorem dLW_data_3 : decode bLW_data 3 = .ok (.iload_n 3, 1) := by decide +kernel
theorem dLW_data_4 : decode bLW_data 4 = .ok (.invokevirtual 7, 3) := by decide +kernel
theorem dLW_data_7 : decode bLW_data 7 = .ok (.goto 7, 3) := by decide +kernel
theorem dLW_data_10 : decode bLW_data 10 = .ok (.astore 4, 2) := by decide +kernel
theorem dLW_data_12 : decode bLW_data 12 = .ok (.iconst 1, 1) := by decide +kernel
theorem dLW_data_13 : decode bLW_data 13 = .ok (.ireturn, 1) := by decide +kernel
theorem dLW_data_14 : decode bLW_data 14 = .ok (.iconst 0, 1) := by decide +kernel
theorem dLW_data_15 : decode bLW_data 15 = .ok (.ireturn, 1) := by decide +kernel
theorem dLW_issue_0 : decode bLW_issue 0 = .ok (.aload_n 0, 1) := by decide +kernel
theorem dLW_issue_1 : decode bLW_issue 1 = .ok (.iload_n 1, 1) := by decide +kernel
theorem dLW_issue_2 : decode bLW_issue 2 = .ok (.iload_n 2, 1) := by decide +kernel
theorem dLW_issue_3 : decode bLW_issue 3 = .ok (.iload_n 3, 1) := by decide +kernel
theorem dLW_issue_4 : decode bLW_issue 4 = .ok (.iload 4, 2) := by decide +kernel
theorem dLW_issue_6 : decode bLW_issue 6 = .ok (.iload 5, 2) := by decide +kernel
theorem dLW_issue_8 : decode bLW_issue 8 = .ok (.invokevirtual 15, 3) := by decide +kernel
theorem dLW_issue_11 : decode bLW_issue 11 = .ok (.goto 15, 3) := by decide +kernel
theorem dLW_issue_14 : decode bLW_issue 14 = .ok (.astore 6, 2) := by decide +kernel
theorem dLW_issue_16 : decode bLW_issue 16 = .ok (.iconst 1, 1) := by decide +kernel
theorem dLW_issue_17 : decode bLW_issue 17 = .ok (.ireturn, 1) := by decide +kernel
theorem dLW_issue_18 : decode bLW_issue 18 = .ok (.astore 6, 2) := by decide +kernel
theorem dLW_issue_20 : decode bLW_issue 20 = .ok (.iconst 2, 1) := by decide +kernel
theorem dLW_issue_21 : decode bLW_issue 21 = .ok (.ireturn, 1) := by decide +kernel
theorem dLW_issue_22 : decode bLW_issue 22 = .ok (.astore 6, 2) := by decide +kernel
theorem dLW_issue_24 : decode bLW_issue 24 = .ok (.iconst 3, 1) := by decide +kernel
theorem dLW_issue_25 : decode bLW_issue 25 = .ok (.ireturn, 1) := by decide +kernel
theorem dLW_issue_26 : decode bLW_issue 26 = .ok (.iconst 0, 1) := by decide +kernel
theorem dLW_issue_27 : decode bLW_issue 27 = .ok (.ireturn, 1) := by decide +kernel
theorem dLW_ready_0 : decode bLW_ready 0 = .ok (.aload_n 0, 1) := by decide +kernel
theorem dLW_ready_1 : decode bLW_ready 1 = .ok (.iload_n 1, 1) := by decide +kernel
theorem dLW_ready_2 : decode bLW_ready 2 = .ok (.iload_n 2, 1) := by decide +kernel
theorem dLW_ready_3 : decode bLW_ready 3 = .ok (.invokevirtual 23, 3) := by decide +kernel
theorem dLW_ready_6 : decode bLW_ready 6 = .ok (.goto 6, 3) := by decide +kernel
theorem dLW_ready_9 : decode bLW_ready 9 = .ok (.astore_n 3, 1) := by decide +kernel
theorem dLW_ready_10 : decode bLW_ready 10 = .ok (.iconst 1, 1) := by decide +kernel
theorem dLW_ready_11 : decode bLW_ready 11 = .ok (.ireturn, 1) := by decide +kernel
theorem dLW_ready_12 : decode bLW_ready 12 = .ok (.iconst 0, 1) := by decide +kernel
theorem dLW_ready_13 : decode bLW_ready 13 = .ok (.ireturn, 1) := by decide +kernel
theorem dLW_cycles_0 : decode bLW_cycles 0 = .ok (.aload_n 2, 1) := by decide +kernel
theorem dLW_cycles_1 : decode bLW_cycles 1 = .ok (.iconst 0, 1) := by decide +kernel
theorem dLW_cycles_2 : decode bLW_cycles 2 = .ok (.aload_n 0, 1) := by decide +kernel
theorem dLW_cycles_3 : decode bLW_cycles 3 = .ok (.iload_n 1, 1) := by decide +kernel
theorem dLW_cycles_4 : decode bLW_cycles 4 = .ok (.invokevirtual 27, 3) := by decide +kernel
theorem dLW_cycles_7 : decode bLW_cycles 7 = .ok (.i2l, 1) := by decide +kernel
theorem dLW_cycles_8 : decode bLW_cycles 8 = .ok (.lastore, 1) := by decide +kernel
theorem dLW_cycles_9 : decode bLW_cycles 9 = .ok (.goto 6, 3) := by decide +kernel
theorem dLW_cycles_12 : decode bLW_cycles 12 = .ok (.astore_n 3, 1) := by decide +kernel
theorem dLW_cycles_13 : decode bLW_cycles 13 = .ok (.iconst 1, 1) := by decide +kernel
theorem dLW_cycles_14 : decode bLW_cycles 14 = .ok (.ireturn, 1) := by decide +kernel
theorem dLW_cycles_15 : decode bLW_cycles 15 = .ok (.iconst 0, 1) := by decide +kernel
theorem dLW_cycles_16 : decode bLW_cycles 16 = .ok (.ireturn, 1) := by decide +kernel
theorem dLW_state_0 : decode bLW_state 0 = .ok (.aload_n 3, 1) := by decide +kernel
theorem dLW_state_1 : decode bLW_state 1 = .ok (.iconst 0, 1) := by decide +kernel
theorem dLW_state_2 : decode bLW_state 2 = .ok (.aload_n 0, 1) := by decide +kernel
theorem dLW_state_3 : decode bLW_state 3 = .ok (.iload_n 1, 1) := by decide +kernel
theorem dLW_state_4 : decode bLW_state 4 = .ok (.iload_n 2, 1) := by decide +kernel
theorem dLW_state_5 : decode bLW_state 5 = .ok (.invokevirtual 31, 3) := by decide +kernel
theorem dLW_state_8 : decode bLW_state 8 = .ok (.i2l, 1) := by decide +kernel
theorem dLW_state_9 : decode bLW_state 9 = .ok (.lastore, 1) := by decide +kernel
theorem dLW_state_10 : decode bLW_state 10 = .ok (.goto 7, 3) := by decide +kernel
theorem dLW_state_13 : decode bLW_state 13 = .ok (.astore 4, 2) := by decide +kernel
theorem dLW_state_15 : decode bLW_state 15 = .ok (.iconst 1, 1) := by decide +kernel
theorem dLW_state_16 : decode bLW_state 16 = .ok (.ireturn, 1) := by decide +kernel
theorem dLW_state_17 : decode bLW_state 17 = .ok (.iconst 0, 1) := by decide +kernel
theorem dLW_state_18 : decode bLW_state 18 = .ok (.ireturn, 1) := by decide +kernel
theorem dLW_word_0 : decode bLW_word 0 = .ok (.aload 4, 2) := by decide +kernel
theorem dLW_word_2 : decode bLW_word 2 = .ok (.iconst 0, 1) := by decide +kernel
theorem dLW_word_3 : decode bLW_word 3 = .ok (.aload_n 0, 1) := by decide +kernel
theorem dLW_word_4 : decode bLW_word 4 = .ok (.iload_n 1, 1) := by decide +kernel
theorem dLW_word_5 : decode bLW_word 5 = .ok (.iload_n 2, 1) := by decide +kernel
theorem dLW_word_6 : decode bLW_word 6 = .ok (.iload_n 3, 1) := by decide +kernel
theorem dLW_word_7 : decode bLW_word 7 = .ok (.invokevirtual 35, 3) := by decide +kernel
theorem dLW_word_10 : decode bLW_word 10 = .ok (.i2l, 1) := by decide +kernel
theorem dLW_word_11 : decode bLW_word 11 = .ok (.lastore, 1) := by decide +kernel
theorem dLW_word_12 : decode bLW_word 12 = .ok (.goto 11, 3) := by decide +kernel
theorem dLW_word_15 : decode bLW_word 15 = .ok (.astore 5, 2) := by decide +kernel
theorem dLW_word_17 : decode bLW_word 17 = .ok (.iconst 1, 1) := by decide +kernel
theorem dLW_word_18 : decode bLW_word 18 = .ok (.ireturn, 1) := by decide +kernel
theorem dLW_word_19 : decode bLW_word 19 = .ok (.astore 5, 2) := by decide +kernel
theorem dLW_word_21 : decode bLW_word 21 = .ok (.iconst 2, 1) := by decide +kernel
theorem dLW_word_22 : decode bLW_word 22 = .ok (.ireturn, 1) := by decide +kernel
theorem dLW_word_23 : decode bLW_word 23 = .ok (.iconst 0, 1) := by decide +kernel
theorem dLW_word_24 : decode bLW_word 24 = .ok (.ireturn, 1) := by decide +kernel
theorem dLW_take_0 : decode bLW_take 0 = .ok (.aload_n 3, 1) := by decide +kernel
theorem dLW_take_1 : decode bLW_take 1 = .ok (.iconst 0, 1) := by decide +kernel
theorem dLW_take_2 : decode bLW_take 2 = .ok (.aload_n 0, 1) := by decide +kernel
theorem dLW_take_3 : decode bLW_take 3 = .ok (.iload_n 1, 1) := by decide +kernel
theorem dLW_take_4 : decode bLW_take 4 = .ok (.iload_n 2, 1) := by decide +kernel
theorem dLW_take_5 : decode bLW_take 5 = .ok (.invokevirtual 39, 3) := by decide +kernel
theorem dLW_take_8 : decode bLW_take 8 = .ok (.ifCond .eq 7, 3) := by decide +kernel
theorem dLW_take_11 : decode bLW_take 11 = .ok (.lconst 1, 1) := by decide +kernel
theorem dLW_take_12 : decode bLW_take 12 = .ok (.goto 4, 3) := by decide +kernel
theorem dLW_take_15 : decode bLW_take 15 = .ok (.lconst 0, 1) := by decide +kernel
theorem dLW_take_16 : decode bLW_take 16 = .ok (.lastore, 1) := by decide +kernel
theorem dLW_take_17 : decode bLW_take 17 = .ok (.goto 11, 3) := by decide +kernel
theorem dLW_take_20 : decode bLW_take 20 = .ok (.astore 4, 2) := by decide +kernel
theorem dLW_take_22 : decode bLW_take 22 = .ok (.iconst 1, 1) := by decide +kernel
theorem dLW_take_23 : decode bLW_take 23 = .ok (.ireturn, 1) := by decide +kernel
theorem dLW_take_24 : decode bLW_take 24 = .ok (.astore 4, 2) := by decide +kernel
theorem dLW_take_26 : decode bLW_take 26 = .ok (.iconst 2, 1) := by decide +kernel
theorem dLW_take_27 : decode bLW_take 27 = .ok (.ireturn, 1) := by decide +kernel
theorem dLW_take_28 : decode bLW_take 28 = .ok (.iconst 0, 1) := by decide +kernel
theorem dLW_take_29 : decode bLW_take 29 = .ok (.ireturn, 1) := by decide +kernel
theorem dLW_base_0 : decode bLW_base 0 = .ok (.aload_n 0, 1) := by decide +kernel
theorem dLW_base_1 : decode bLW_base 1 = .ok (.iload_n 1, 1) := by decide +kernel
theorem dLW_base_2 : decode bLW_base 2 = .ok (.iload_n 2, 1) := by decide +kernel
theorem dLW_base_3 : decode bLW_base 3 = .ok (.invokevirtual 43, 3) := by decide +kernel
theorem dLW_base_6 : decode bLW_base 6 = .ok (.goto 9, 3) := by decide +kernel
theorem dLW_base_9 : decode bLW_base 9 = .ok (.astore_n 3, 1) := by decide +kernel
theorem dLW_base_10 : decode bLW_base 10 = .ok (.iconst 1, 1) := by decide +kernel
theorem dLW_base_11 : decode bLW_base 11 = .ok (.ireturn, 1) := by decide +kernel
theorem dLW_base_12 : decode bLW_base 12 = .ok (.astore_n 3, 1) := by decide +kernel
theorem dLW_base_13 : decode bLW_base 13 = .ok (.iconst 2, 1) := by decide +kernel
theorem dLW_base_14 : decode bLW_base 14 = .ok (.ireturn, 1) := by decide +kernel
theorem dLW_base_15 : decode bLW_base 15 = .ok (.iconst 0, 1) := by decide +kernel
theorem dLW_base_16 : decode bLW_base 16 = .ok (.ireturn, 1) := by decide +kernel
theorem dLW_waits_0 : decode bLW_waits 0 = .ok (.aload_n 2, 1) := by decide +kernel
theorem dLW_waits_1 : decode bLW_waits 1 = .ok (.iconst 0, 1) := by decide +kernel
theorem dLW_waits_2 : decode bLW_waits 2 = .ok (.aload_n 0, 1) := by decide +kernel
theorem dLW_waits_3 : decode bLW_waits 3 = .ok (.iload_n 1, 1) := by decide +kernel
theorem dLW_waits_4 : decode bLW_waits 4 = .ok (.invokevirtual 47, 3) := by decide +kernel
theorem dLW_waits_7 : decode bLW_waits 7 = .ok (.i2l, 1) := by decide +kernel
theorem dLW_waits_8 : decode bLW_waits 8 = .ok (.lastore, 1) := by decide +kernel
theorem dLW_waits_9 : decode bLW_waits 9 = .ok (.goto 6, 3) := by decide +kernel
theorem dLW_waits_12 : decode bLW_waits 12 = .ok (.astore_n 3, 1) := by decide +kernel
theorem dLW_waits_13 : decode bLW_waits 13 = .ok (.iconst 1, 1) := by decide +kernel
theorem dLW_waits_14 : decode bLW_waits 14 = .ok (.ireturn, 1) := by decide +kernel
theorem dLW_waits_15 : decode bLW_waits 15 = .ok (.iconst 0, 1) := by decide +kernel
theorem dLW_waits_16 : decode bLW_waits 16 = .ok (.ireturn, 1) := by decide +kernel
theorem dLW_reset_0 : decode bLW_reset 0 = .ok (.aload_n 2, 1) := by decide +kernel
theorem dLW_reset_1 : decode bLW_reset 1 = .ok (.iconst 0, 1) := by decide +kernel
theorem dLW_reset_2 : decode bLW_reset 2 = .ok (.aload_n 0, 1) := by decide +kernel
theorem dLW_reset_3 : decode bLW_reset 3 = .ok (.iload_n 1, 1) := by decide +kernel
theorem dLW_reset_4 : decode bLW_reset 4 = .ok (.invokevirtual 50, 3) := by decide +kernel
theorem dLW_reset_7 : decode bLW_reset 7 = .ok (.i2l, 1) := by decide +kernel
theorem dLW_reset_8 : decode bLW_reset 8 = .ok (.lastore, 1) := by decide +kernel
theorem dLW_reset_9 : decode bLW_reset 9 = .ok (.goto 6, 3) := by decide +kernel
theorem dLW_reset_12 : decode bLW_reset 12 = .ok (.astore_n 3, 1) := by decide +kernel
theorem dLW_reset_13 : decode bLW_reset 13 = .ok (.iconst 1, 1) := by decide +kernel
theorem dLW_reset_14 : decode bLW_reset 14 = .ok (.ireturn, 1) := by decide +kernel
theorem dLW_reset_15 : decode bLW_reset 15 = .ok (.iconst 0, 1) := by decide +kernel
theorem dLW_reset_16 : decode bLW_reset 16 = .ok (.ireturn, 1) := by decide +kernel
theorem dLW_credits_0 : decode bLW_credits 0 = .ok (.aload_n 2, 1) := by decide +kernel
theorem dLW_credits_1 : decode bLW_credits 1 = .ok (.iconst 0, 1) := by decide +kernel
theorem dLW_credits_2 : decode bLW_credits 2 = .ok (.aload_n 0, 1) := by decide +kernel
theorem dLW_credits_3 : decode bLW_credits 3 = .ok (.iload_n 1, 1) := by decide +kernel
theorem dLW_credits_4 : decode bLW_credits 4 = .ok (.invokevirtual 53, 3) := by decide +kernel
theorem dLW_credits_7 : decode bLW_credits 7 = .ok (.i2l, 1) := by decide +kernel
theorem dLW_credits_8 : decode bLW_credits 8 = .ok (.lastore, 1) := by decide +kernel
theorem dLW_credits_9 : decode bLW_credits 9 = .ok (.goto 6, 3) := by decide +kernel
theorem dLW_credits_12 : decode bLW_credits 12 = .ok (.astore_n 3, 1) := by decide +kernel
theorem dLW_credits_13 : decode bLW_credits 13 = .ok (.iconst 1, 1) := by decide +kernel
theorem dLW_credits_14 : decode bLW_credits 14 = .ok (.ireturn, 1) := by decide +kernel
theorem dLW_credits_15 : decode bLW_credits 15 = .ok (.iconst 0, 1) := by decide +kernel
theorem dLW_credits_16 : decode bLW_credits 16 = .ok (.ireturn, 1) := by decide +kernel
theorem dLW_holder_0 : decode bLW_holder 0 = .ok (.aload_n 2, 1) := by decide +kernel
theorem dLW_holder_1 : decode bLW_holder 1 = .ok (.iconst 0, 1) := by decide +kernel
theorem dLW_holder_2 : decode bLW_holder 2 = .ok (.aload_n 0, 1) := by decide +kernel
theorem dLW_holder_3 : decode bLW_holder 3 = .ok (.iload_n 1, 1) := by decide +kernel
theorem dLW_holder_4 : decode bLW_holder 4 = .ok (.invokevirtual 56, 3) := by decide +kernel
theorem dLW_holder_7 : decode bLW_holder 7 = .ok (.i2l, 1) := by decide +kernel
theorem dLW_holder_8 : decode bLW_holder 8 = .ok (.lastore, 1) := by decide +kernel
theorem dLW_holder_9 : decode bLW_holder 9 = .ok (.goto 6, 3) := by decide +kernel
theorem dLW_holder_12 : decode bLW_holder 12 = .ok (.astore_n 3, 1) := by decide +kernel
theorem dLW_holder_13 : decode bLW_holder 13 = .ok (.iconst 1, 1) := by decide +kernel
theorem dLW_holder_14 : decode bLW_holder 14 = .ok (.ireturn, 1) := by decide +kernel
theorem dLW_holder_15 : decode bLW_holder 15 = .ok (.iconst 0, 1) := by decide +kernel
theorem dLW_holder_16 : decode bLW_holder 16 = .ok (.ireturn, 1) := by decide +kernel
theorem dLW_memory_0 : decode bLW_memory 0 = .ok (.aload_n 2, 1) := by decide +kernel
theorem dLW_memory_1 : decode bLW_memory 1 = .ok (.iconst 0, 1) := by decide +kernel
theorem dLW_memory_2 : decode bLW_memory 2 = .ok (.aload_n 0, 1) := by decide +kernel
theorem dLW_memory_3 : decode bLW_memory 3 = .ok (.iload_n 1, 1) := by decide +kernel
theorem dLW_memory_4 : decode bLW_memory 4 = .ok (.invokevirtual 59, 3) := by decide +kernel
theorem dLW_memory_7 : decode bLW_memory 7 = .ok (.i2l, 1) := by decide +kernel
theorem dLW_memory_8 : decode bLW_memory 8 = .ok (.lastore, 1) := by decide +kernel
theorem dLW_memory_9 : decode bLW_memory 9 = .ok (.goto 6, 3) := by decide +kernel
theorem dLW_memory_12 : decode bLW_memory 12 = .ok (.astore_n 3, 1) := by decide +kernel
theorem dLW_memory_13 : decode bLW_memory 13 = .ok (.iconst 1, 1) := by decide +kernel
theorem dLW_memory_14 : decode bLW_memory 14 = .ok (.ireturn, 1) := by decide +kernel
theorem dLW_memory_15 : decode bLW_memory 15 = .ok (.iconst 0, 1) := by decide +kernel
theorem dLW_memory_16 : decode bLW_memory 16 = .ok (.ireturn, 1) := by decide +kernel
theorem dLW_service_0 : decode bLW_service 0 = .ok (.aload_n 3, 1) := by decide +kernel
theorem dLW_service_1 : decode bLW_service 1 = .ok (.iconst 0, 1) := by decide +kernel
theorem dLW_service_2 : decode bLW_service 2 = .ok (.aload_n 0, 1) := by decide +kernel
theorem dLW_service_3 : decode bLW_service 3 = .ok (.iload_n 1, 1) := by decide +kernel
theorem dLW_service_4 : decode bLW_service 4 = .ok (.iload_n 2, 1) := by decide +kernel
theorem dLW_service_5 : decode bLW_service 5 = .ok (.invokevirtual 62, 3) := by decide +kernel
theorem dLW_service_8 : decode bLW_service 8 = .ok (.i2l, 1) := by decide +kernel
theorem dLW_service_9 : decode bLW_service 9 = .ok (.lastore, 1) := by decide +kernel
theorem dLW_service_10 : decode bLW_service 10 = .ok (.goto 11, 3) := by decide +kernel
theorem dLW_service_13 : decode bLW_service 13 = .ok (.astore 4, 2) := by decide +kernel
theorem dLW_service_15 : decode bLW_service 15 = .ok (.iconst 1, 1) := by decide +kernel
theorem dLW_service_16 : decode bLW_service 16 = .ok (.ireturn, 1) := by decide +kernel
theorem dLW_service_17 : decode bLW_service 17 = .ok (.astore 4, 2) := by decide +kernel
theorem dLW_service_19 : decode bLW_service 19 = .ok (.iconst 2, 1) := by decide +kernel
theorem dLW_service_20 : decode bLW_service 20 = .ok (.ireturn, 1) := by decide +kernel
theorem dLW_service_21 : decode bLW_service 21 = .ok (.iconst 0, 1) := by decide +kernel
theorem dLW_service_22 : decode bLW_service 22 = .ok (.ireturn, 1) := by decide +kernel
theorem xq_LW_data : Cond.codeWith yLW_data bLW_data 5 (some .int) [(0, 7, 10, 13)] ∈ xBIG := xmi 365 (by decide +kernel) rfl
theorem xl_LW_data : Cond.methodLink "SplitFabricLaw" 69 yLW_data ∈ xBIG := xmi 363 (by decide +kernel) rfl
theorem xs_LW_data : Cond.static yLW_data ∈ xBIG := xmi 364 (by decide +kernel) rfl
theorem xq_LW_issue : Cond.codeWith yLW_issue bLW_issue 7 (some .int) [(0, 11, 14, 13), (0, 11, 18, 19), (0, 11, 22, 21)] ∈ xBIG := xmi 439 (by decide +kernel) rfl
theorem xl_LW_issue : Cond.methodLink "SplitFabricLaw" 79 yLW_issue ∈ xBIG := xmi 437 (by decide +kernel) rfl
theorem xs_LW_issue : Cond.static yLW_issue ∈ xBIG := xmi 438 (by decide +kernel) rfl
theorem xq_LW_ready : Cond.codeWith yLW_ready bLW_ready 4 (some .int) [(0, 6, 9, 13)] ∈ xBIG := xmi 503 (by decide +kernel) rfl
theorem xl_LW_ready : Cond.methodLink "SplitFabricLaw" 83 yLW_ready ∈ xBIG := xmi 501 (by decide +kernel) rfl
theorem xs_LW_ready : Cond.static yLW_ready ∈ xBIG := xmi 502 (by decide +kernel) rfl
theorem xq_LW_cycles : Cond.codeWith yLW_cycles bLW_cycles 4 (some .int) [(0, 9, 12, 19)] ∈ xBIG := xmi 510 (by decide +kernel) rfl
theorem xl_LW_cycles : Cond.methodLink "SplitFabricLaw" 91 yLW_cycles ∈ xBIG := xmi 508 (by decide +kernel) rfl
theorem xs_LW_cycles : Cond.static yLW_cycles ∈ xBIG := xmi 509 (by decide +kernel) rfl
theorem xq_LW_state : Cond.codeWith yLW_state bLW_state 5 (some .int) [(0, 10, 13, 13)] ∈ xBIG := xmi 518 (by decide +kernel) rfl
theorem xl_LW_state : Cond.methodLink "SplitFabricLaw" 99 yLW_state ∈ xBIG := xmi 516 (by decide +kernel) rfl
theorem xs_LW_state : Cond.static yLW_state ∈ xBIG := xmi 517 (by decide +kernel) rfl
theorem xq_LW_word : Cond.codeWith yLW_word bLW_word 6 (some .int) [(0, 12, 15, 13), (0, 12, 19, 21)] ∈ xBIG := xmi 525 (by decide +kernel) rfl
theorem xl_LW_word : Cond.methodLink "SplitFabricLaw" 103 yLW_word ∈ xBIG := xmi 523 (by decide +kernel) rfl
theorem xs_LW_word : Cond.static yLW_word ∈ xBIG := xmi 524 (by decide +kernel) rfl
theorem xq_LW_take : Cond.codeWith yLW_take bLW_take 5 (some .int) [(0, 17, 20, 13), (0, 17, 24, 21)] ∈ xBIG := xmi 532 (by decide +kernel) rfl
theorem xl_LW_take : Cond.methodLink "SplitFabricLaw" 107 yLW_take ∈ xBIG := xmi 530 (by decide +kernel) rfl
theorem xs_LW_take : Cond.static yLW_take ∈ xBIG := xmi 531 (by decide +kernel) rfl
theorem xq_LW_base : Cond.codeWith yLW_base bLW_base 4 (some .int) [(0, 6, 9, 13), (0, 6, 12, 19)] ∈ xBIG := xmi 539 (by decide +kernel) rfl
theorem xl_LW_base : Cond.methodLink "SplitFabricLaw" 110 yLW_base ∈ xBIG := xmi 537 (by decide +kernel) rfl
theorem xs_LW_base : Cond.static yLW_base ∈ xBIG := xmi 538 (by decide +kernel) rfl
theorem xq_LW_waits : Cond.codeWith yLW_waits bLW_waits 4 (some .int) [(0, 9, 12, 13)] ∈ xBIG := xmi 546 (by decide +kernel) rfl
theorem xl_LW_waits : Cond.methodLink "SplitFabricLaw" 114 yLW_waits ∈ xBIG := xmi 544 (by decide +kernel) rfl
theorem xs_LW_waits : Cond.static yLW_waits ∈ xBIG := xmi 545 (by decide +kernel) rfl
theorem xq_LW_reset : Cond.codeWith yLW_reset bLW_reset 4 (some .int) [(0, 9, 12, 13)] ∈ xBIG := xmi 553 (by decide +kernel) rfl
theorem xl_LW_reset : Cond.methodLink "SplitFabricLaw" 117 yLW_reset ∈ xBIG := xmi 551 (by decide +kernel) rfl
theorem xs_LW_reset : Cond.static yLW_reset ∈ xBIG := xmi 552 (by decide +kernel) rfl
theorem xq_LW_credits : Cond.codeWith yLW_credits bLW_credits 4 (some .int) [(0, 9, 12, 13)] ∈ xBIG := xmi 560 (by decide +kernel) rfl
theorem xl_LW_credits : Cond.methodLink "SplitFabricLaw" 120 yLW_credits ∈ xBIG := xmi 558 (by decide +kernel) rfl
theorem xs_LW_credits : Cond.static yLW_credits ∈ xBIG := xmi 559 (by decide +kernel) rfl
theorem xq_LW_holder : Cond.codeWith yLW_holder bLW_holder 4 (some .int) [(0, 9, 12, 13)] ∈ xBIG := xmi 567 (by decide +kernel) rfl
theorem xl_LW_holder : Cond.methodLink "SplitFabricLaw" 123 yLW_holder ∈ xBIG := xmi 565 (by decide +kernel) rfl
theorem xs_LW_holder : Cond.static yLW_holder ∈ xBIG := xmi 566 (by decide +kernel) rfl
theorem xq_LW_memory : Cond.codeWith yLW_memory bLW_memory 4 (some .int) [(0, 9, 12, 13)] ∈ xBIG := xmi 574 (by decide +kernel) rfl
theorem xl_LW_memory : Cond.methodLink "SplitFabricLaw" 126 yLW_memory ∈ xBIG := xmi 572 (by decide +kernel) rfl
theorem xs_LW_memory : Cond.static yLW_memory ∈ xBIG := xmi 573 (by decide +kernel) rfl
theorem xq_LW_service : Cond.codeWith yLW_service bLW_service 5 (some .int) [(0, 10, 13, 13), (0, 10, 17, 19)] ∈ xBIG := xmi 581 (by decide +kernel) rfl
theorem xl_LW_service : Cond.methodLink "SplitFabricLaw" 133 yLW_service ∈ xBIG := xmi 579 (by decide +kernel) rfl
theorem xs_LW_service : Cond.static yLW_service ∈ xBIG := xmi 580 (by decide +kernel) rfl
set_option maxRecDepth 100000 in
set_option maxHeartbeats 4000000 in
theorem cLW_data_ok (l : Launch) (D : va_G) (cA : Nat → ClassId) (tz : Nat) (I : List (Nat × Nat)) (ad : Nat → Nat → Nat) (σ : xMem) (d n g : Nat) (x0 x1 x2 : Int32) (σ1 : xMem) (h5 : (5, 0) ∈ I) (hL : xL I n g) (hd : d ≤ 10) (hM : xD l ySF_data bSF_data 4 none d [.ref (ad 5 0), .int x0, .int x1, .int x2] D cA tz I ad σ none σ1) : xH l yLW_data bLW_data 5 (some .int) [(0, 7, 10, 13)] 11 1 6 [.ref (ad 5 0), .int x0, .int x1, .int x2] D cA tz I ad σ (fun _ => some (.int (nI 0))) σ1 n g := by
  refine xh_of (by decide) (by simp [lg_sl, Value.category]) ?_
  intro p e s m args below meth c A ls C hr hlk hml htab hl w hz
  obtain ⟨hx, hb, hown, hts⟩ := id C
  have hl : lv_has ls 5 [(0, .ref (ad 5 0)), (1, .int x0), (2, .int x1), (3, .int x2)] := hl
  have hE0 := xE.rf I ad
  refine lv_aload_n hx hb dLW_data_0 rfl (lv_at hl 0 rfl) ?_
  refine lv_iload_n hx hb dLW_data_1 rfl (lv_at hl 1 rfl) ?_
  refine lv_iload_n hx hb dLW_data_2 rfl (lv_at hl 2 rfl) ?_
  refine lv_iload_n hx hb dLW_data_3 rfl (lv_at hl 3 rfl) ?_
  refine xd_callV C w hz hml hl.1 xk_LW_7 (hM) h5 rfl rfl rfl rfl (Nat.le_of_ble_eq_true rfl) (by simp only [xr_R]; omega) (by simp only [xr_R]; omega) dLW_data_4 (fun H locs w => ?_)
  refine W.eq (g2 := F0 m 7 ls []) rfl ?_
  refine lv_goto hx hb dLW_data_7 rfl ?_
  refine lv_iconst (v := nI 0) hx hb dLW_data_14 xk_i0 ?_
  exact xa_iret C w hr hlk dLW_data_15 (rfl) rfl hE0 hL (by omega) (by omega)
set_option maxRecDepth 100000 in
set_option maxHeartbeats 4000000 in
theorem cLW_data_t1 (l : Launch) (D : va_G) (cA : Nat → ClassId) (tz : Nat) (I : List (Nat × Nat)) (ad : Nat → Nat → Nat) (σ : xMem) (d n g : Nat) (x0 x1 x2 : Int32) (h5 : (5, 0) ∈ I) (hL : xL I n g) (hd : d ≤ 10) (hM : xTh l ySF_data bSF_data 4 none d [.ref (ad 5 0), .int x0, .int x1, .int x2] D cA tz I ad σ "java/lang/IndexOutOfBoundsException") : xH l yLW_data bLW_data 5 (some .int) [(0, 7, 10, 13)] 11 1 6 [.ref (ad 5 0), .int x0, .int x1, .int x2] D cA tz I ad σ (fun _ => some (.int (nI 1))) σ n g := by
  refine xh_of (by decide) (by simp [lg_sl, Value.category]) ?_
  intro p e s m args below meth c A ls C hr hlk hml htab hl w hz
  obtain ⟨hx, hb, hown, hts⟩ := id C
  have hl : lv_has ls 5 [(0, .ref (ad 5 0)), (1, .int x0), (2, .int x1), (3, .int x2)] := hl
  have hE0 := xE.rf I ad
  refine lv_aload_n hx hb dLW_data_0 rfl (lv_at hl 0 rfl) ?_
  refine lv_iload_n hx hb dLW_data_1 rfl (lv_at hl 1 rfl) ?_
  refine lv_iload_n hx hb dLW_data_2 rfl (lv_at hl 2 rfl) ?_
  refine lv_iload_n hx hb dLW_data_3 rfl (lv_at hl 3 rfl) ?_
  obtain ⟨z0, Z0, ez0, s0, e0, h0, t0, hz0⟩ := xh_tab (t := #[]) htab
  refine xh_throw C w hz hml hl.1 xk_LW_7 hM h5 rfl rfl rfl rfl (Nat.le_of_ble_eq_true rfl) (by simp only [xr_R]; omega) (by simp only [xr_R]; omega) dLW_data_4 [] z0 Z0 ez0 (fun z hz9 => by cases hz9) (show covers z0 4 = true by unfold covers; rw [s0, e0]; decide) (by rw [t0]; decide) (by rw [t0]; exact hts _ (xmi 366 (by decide +kernel) rfl)) hz.1.2.1.1 (fun H locs q w => ?_)
  refine W.eq (g2 := F0 m 10 ls [.ref q]) (by rw [h0]) ?_
  refine lv_astore (lv' := [(4, .ref q), (0, .ref (ad 5 0)), (1, .int x0), (2, .int x1), (3, .int x2)]) hx hb dLW_data_10 hl (by decide) rfl (fun ls hl => ?_)
  refine lv_iconst (v := nI 1) hx hb dLW_data_12 xk_i1 ?_
  exact xa_iret C w hr hlk dLW_data_13 (rfl) rfl hE0 hL (by omega) (by omega)
set_option maxRecDepth 100000 in
set_option maxHeartbeats 4000000 in
theorem cLW_issue_ok (l : Launch) (D : va_G) (cA : Nat → ClassId) (tz : Nat) (I : List (Nat × Nat)) (ad : Nat → Nat → Nat) (σ : xMem) (d n g : Nat) (x0 x1 x2 x3 x4 : Int32) (σ1 : xMem) (h5 : (5, 0) ∈ I) (hL : xL I n g) (hd : d ≤ 10) (hM : xD l ySF_issue bSF_issue 7 none d [.ref (ad 5 0), .int x0, .int x1, .int x2, .int x3, .int x4] D cA tz I ad σ none σ1) : xH l yLW_issue bLW_issue 7 (some .int) [(0, 11, 14, 13), (0, 11, 18, 19), (0, 11, 22, 21)] 11 1 6 [.ref (ad 5 0), .int x0, .int x1, .int x2, .int x3, .int x4] D cA tz I ad σ (fun _ => some (.int (nI 0))) σ1 n g := by
  refine xh_of (by decide) (by simp [lg_sl, Value.category]) ?_
  intro p e s m args below meth c A ls C hr hlk hml htab hl w hz
  obtain ⟨hx, hb, hown, hts⟩ := id C
  have hl : lv_has ls 7 [(0, .ref (ad 5 0)), (1, .int x0), (2, .int x1), (3, .int x2), (4, .int x3), (5, .int x4)] := hl
  have hE0 := xE.rf I ad
  refine lv_aload_n hx hb dLW_issue_0 rfl (lv_at hl 0 rfl) ?_
  refine lv_iload_n hx hb dLW_issue_1 rfl (lv_at hl 1 rfl) ?_
  refine lv_iload_n hx hb dLW_issue_2 rfl (lv_at hl 2 rfl) ?_
  refine lv_iload_n hx hb dLW_issue_3 rfl (lv_at hl 3 rfl) ?_
  refine lv_iload hx hb dLW_issue_4 (lv_at hl 4 rfl) ?_
  refine lv_iload hx hb dLW_issue_6 (lv_at hl 5 rfl) ?_
  refine xd_callV C w hz hml hl.1 xk_LW_15 (hM) h5 rfl rfl rfl rfl (Nat.le_of_ble_eq_true rfl) (by simp only [xr_R]; omega) (by simp only [xr_R]; omega) dLW_issue_8 (fun H locs w => ?_)
  refine W.eq (g2 := F0 m 11 ls []) rfl ?_
  refine lv_goto hx hb dLW_issue_11 rfl ?_
  refine lv_iconst (v := nI 0) hx hb dLW_issue_26 xk_i0 ?_
  exact xa_iret C w hr hlk dLW_issue_27 (rfl) rfl hE0 hL (by omega) (by omega)
set_option maxRecDepth 100000 in
set_option maxHeartbeats 4000000 in
theorem cLW_issue_t1 (l : Launch) (D : va_G) (cA : Nat → ClassId) (tz : Nat) (I : List (Nat × Nat)) (ad : Nat → Nat → Nat) (σ : xMem) (d n g : Nat) (x0 x1 x2 x3 x4 : Int32) (h5 : (5, 0) ∈ I) (hL : xL I n g) (hd : d ≤ 10) (hM : xTh l ySF_issue bSF_issue 7 none d [.ref (ad 5 0), .int x0, .int x1, .int x2, .int x3, .int x4] D cA tz I ad σ "java/lang/IndexOutOfBoundsException") : xH l yLW_issue bLW_issue 7 (some .int) [(0, 11, 14, 13), (0, 11, 18, 19), (0, 11, 22, 21)] 11 1 6 [.ref (ad 5 0), .int x0, .int x1, .int x2, .int x3, .int x4] D cA tz I ad σ (fun _ => some (.int (nI 1))) σ n g := by
  refine xh_of (by decide) (by simp [lg_sl, Value.category]) ?_
  intro p e s m args below meth c A ls C hr hlk hml htab hl w hz
  obtain ⟨hx, hb, hown, hts⟩ := id C
  have hl : lv_has ls 7 [(0, .ref (ad 5 0)), (1, .int x0), (2, .int x1), (3, .int x2), (4, .int x3), (5, .int x4)] := hl
  have hE0 := xE.rf I ad
  refine lv_aload_n hx hb dLW_issue_0 rfl (lv_at hl 0 rfl) ?_
  refine lv_iload_n hx hb dLW_issue_1 rfl (lv_at hl 1 rfl) ?_
  refine lv_iload_n hx hb dLW_issue_2 rfl (lv_at hl 2 rfl) ?_
  refine lv_iload_n hx hb dLW_issue_3 rfl (lv_at hl 3 rfl) ?_
  refine lv_iload hx hb dLW_issue_4 (lv_at hl 4 rfl) ?_
  refine lv_iload hx hb dLW_issue_6 (lv_at hl 5 rfl) ?_
  obtain ⟨z0, Z0, ez0, s0, e0, h0, t0, hz0⟩ := xh_tab (t := #[]) htab
  obtain ⟨z1, Z1, ez1, s1, e1, h1, t1, hz1⟩ := xh_tab (t := #[]) hz0
  obtain ⟨z2, Z2, ez2, s2, e2, h2, t2, hz2⟩ := xh_tab (t := #[]) hz1
  refine xh_throw C w hz hml hl.1 xk_LW_15 hM h5 rfl rfl rfl rfl (Nat.le_of_ble_eq_true rfl) (by simp only [xr_R]; omega) (by simp only [xr_R]; omega) dLW_issue_8 [] z0 Z0 ez0 (fun z hz9 => by cases hz9) (show covers z0 8 = true by unfold covers; rw [s0, e0]; decide) (by rw [t0]; decide) (by rw [t0]; exact hts _ (xmi 366 (by decide +kernel) rfl)) hz.1.2.1.1 (fun H locs q w => ?_)
  refine W.eq (g2 := F0 m 14 ls [.ref q]) (by rw [h0]) ?_
  refine lv_astore (lv' := [(6, .ref q), (0, .ref (ad 5 0)), (1, .int x0), (2, .int x1), (3, .int x2), (4, .int x3), (5, .int x4)]) hx hb dLW_issue_14 hl (by decide) rfl (fun ls hl => ?_)
  refine lv_iconst (v := nI 1) hx hb dLW_issue_16 xk_i1 ?_
  exact xa_iret C w hr hlk dLW_issue_17 (rfl) rfl hE0 hL (by omega) (by omega)
set_option maxRecDepth 100000 in
set_option maxHeartbeats 4000000 in
theorem cLW_issue_t2 (l : Launch) (D : va_G) (cA : Nat → ClassId) (tz : Nat) (I : List (Nat × Nat)) (ad : Nat → Nat → Nat) (σ : xMem) (d n g : Nat) (x0 x1 x2 x3 x4 : Int32) (h5 : (5, 0) ∈ I) (hL : xL I n g) (hd : d ≤ 10) (hM : xTh l ySF_issue bSF_issue 7 none d [.ref (ad 5 0), .int x0, .int x1, .int x2, .int x3, .int x4] D cA tz I ad σ "java/lang/IllegalArgumentException") : xH l yLW_issue bLW_issue 7 (some .int) [(0, 11, 14, 13), (0, 11, 18, 19), (0, 11, 22, 21)] 11 1 6 [.ref (ad 5 0), .int x0, .int x1, .int x2, .int x3, .int x4] D cA tz I ad σ (fun _ => some (.int (nI 2))) σ n g := by
  refine xh_of (by decide) (by simp [lg_sl, Value.category]) ?_
  intro p e s m args below meth c A ls C hr hlk hml htab hl w hz
  obtain ⟨hx, hb, hown, hts⟩ := id C
  have hl : lv_has ls 7 [(0, .ref (ad 5 0)), (1, .int x0), (2, .int x1), (3, .int x2), (4, .int x3), (5, .int x4)] := hl
  have hE0 := xE.rf I ad
  refine lv_aload_n hx hb dLW_issue_0 rfl (lv_at hl 0 rfl) ?_
  refine lv_iload_n hx hb dLW_issue_1 rfl (lv_at hl 1 rfl) ?_
  refine lv_iload_n hx hb dLW_issue_2 rfl (lv_at hl 2 rfl) ?_
  refine lv_iload_n hx hb dLW_issue_3 rfl (lv_at hl 3 rfl) ?_
  refine lv_iload hx hb dLW_issue_4 (lv_at hl 4 rfl) ?_
  refine lv_iload hx hb dLW_issue_6 (lv_at hl 5 rfl) ?_
  obtain ⟨z0, Z0, ez0, s0, e0, h0, t0, hz0⟩ := xh_tab (t := #[]) htab
  obtain ⟨z1, Z1, ez1, s1, e1, h1, t1, hz1⟩ := xh_tab (t := #[]) hz0
  obtain ⟨z2, Z2, ez2, s2, e2, h2, t2, hz2⟩ := xh_tab (t := #[]) hz1
  rw [ez1] at ez0
  refine xh_throw C w hz hml hl.1 xk_LW_15 hM h5 rfl rfl rfl rfl (Nat.le_of_ble_eq_true rfl) (by simp only [xr_R]; omega) (by simp only [xr_R]; omega) dLW_issue_8 [z0] z1 Z1 ez0 (fun z hz9 => by rw [List.mem_singleton] at hz9; rw [hz9]; exact Or.inr ⟨(show covers z0 8 = true by unfold covers; rw [s0, e0]; decide), (by rw [t0]; decide), "java/lang/IndexOutOfBoundsException", (by rw [t0]; exact hts _ (xmi 366 (by decide +kernel) rfl)), hz.1.1.1⟩) (show covers z1 8 = true by unfold covers; rw [s1, e1]; decide) (by rw [t1]; decide) (by rw [t1]; exact hts _ (xmi 440 (by decide +kernel) rfl)) hz.1.2.1.2.1 (fun H locs q w => ?_)
  refine W.eq (g2 := F0 m 18 ls [.ref q]) (by rw [h1]) ?_
  refine lv_astore (lv' := [(6, .ref q), (0, .ref (ad 5 0)), (1, .int x0), (2, .int x1), (3, .int x2), (4, .int x3), (5, .int x4)]) hx hb dLW_issue_18 hl (by decide) rfl (fun ls hl => ?_)
  refine lv_iconst (v := nI 2) hx hb dLW_issue_20 xk_i2 ?_
  exact xa_iret C w hr hlk dLW_issue_21 (rfl) rfl hE0 hL (by omega) (by omega)
set_option maxRecDepth 100000 in
set_option maxHeartbeats 4000000 in
theorem cLW_issue_t3 (l : Launch) (D : va_G) (cA : Nat → ClassId) (tz : Nat) (I : List (Nat × Nat)) (ad : Nat → Nat → Nat) (σ : xMem) (d n g : Nat) (x0 x1 x2 x3 x4 : Int32) (h5 : (5, 0) ∈ I) (hL : xL I n g) (hd : d ≤ 10) (hM : xTh l ySF_issue bSF_issue 7 none d [.ref (ad 5 0), .int x0, .int x1, .int x2, .int x3, .int x4] D cA tz I ad σ "java/lang/IllegalStateException") : xH l yLW_issue bLW_issue 7 (some .int) [(0, 11, 14, 13), (0, 11, 18, 19), (0, 11, 22, 21)] 11 1 6 [.ref (ad 5 0), .int x0, .int x1, .int x2, .int x3, .int x4] D cA tz I ad σ (fun _ => some (.int (nI 3))) σ n g := by
  refine xh_of (by decide) (by simp [lg_sl, Value.category]) ?_
  intro p e s m args below meth c A ls C hr hlk hml htab hl w hz
  obtain ⟨hx, hb, hown, hts⟩ := id C
  have hl : lv_has ls 7 [(0, .ref (ad 5 0)), (1, .int x0), (2, .int x1), (3, .int x2), (4, .int x3), (5, .int x4)] := hl
  have hE0 := xE.rf I ad
  refine lv_aload_n hx hb dLW_issue_0 rfl (lv_at hl 0 rfl) ?_
  refine lv_iload_n hx hb dLW_issue_1 rfl (lv_at hl 1 rfl) ?_
  refine lv_iload_n hx hb dLW_issue_2 rfl (lv_at hl 2 rfl) ?_
  refine lv_iload_n hx hb dLW_issue_3 rfl (lv_at hl 3 rfl) ?_
  refine lv_iload hx hb dLW_issue_4 (lv_at hl 4 rfl) ?_
  refine lv_iload hx hb dLW_issue_6 (lv_at hl 5 rfl) ?_
  obtain ⟨z0, Z0, ez0, s0, e0, h0, t0, hz0⟩ := xh_tab (t := #[]) htab
  obtain ⟨z1, Z1, ez1, s1, e1, h1, t1, hz1⟩ := xh_tab (t := #[]) hz0
  obtain ⟨z2, Z2, ez2, s2, e2, h2, t2, hz2⟩ := xh_tab (t := #[]) hz1
  rw [ez1] at ez0
  rw [ez2] at ez0
  refine xh_throw C w hz hml hl.1 xk_LW_15 hM h5 rfl rfl rfl rfl (Nat.le_of_ble_eq_true rfl) (by simp only [xr_R]; omega) (by simp only [xr_R]; omega) dLW_issue_8 [z0, z1] z2 Z2 ez0 (fun z hz9 => by simp only [List.mem_cons, List.not_mem_nil, or_false] at hz9; rcases hz9 with e9 | e9; exact (by rw [e9]; exact Or.inr ⟨(show covers z0 8 = true by unfold covers; rw [s0, e0]; decide), (by rw [t0]; decide), "java/lang/IndexOutOfBoundsException", (by rw [t0]; exact hts _ (xmi 366 (by decide +kernel) rfl)), hz.1.1.2.1⟩); exact (by rw [e9]; exact Or.inr ⟨(show covers z1 8 = true by unfold covers; rw [s1, e1]; decide), (by rw [t1]; decide), "java/lang/IllegalArgumentException", (by rw [t1]; exact hts _ (xmi 440 (by decide +kernel) rfl)), hz.1.1.2.2⟩)) (show covers z2 8 = true by unfold covers; rw [s2, e2]; decide) (by rw [t2]; decide) (by rw [t2]; exact hts _ (xmi 441 (by decide +kernel) rfl)) hz.1.2.1.2.2.1 (fun H locs q w => ?_)
  refine W.eq (g2 := F0 m 22 ls [.ref q]) (by rw [h2]) ?_
  refine lv_astore (lv' := [(6, .ref q), (0, .ref (ad 5 0)), (1, .int x0), (2, .int x1), (3, .int x2), (4, .int x3), (5, .int x4)]) hx hb dLW_issue_22 hl (by decide) rfl (fun ls hl => ?_)
  refine lv_iconst (v := nI 3) hx hb dLW_issue_24 xk_i3 ?_
  exact xa_iret C w hr hlk dLW_issue_25 (rfl) rfl hE0 hL (by omega) (by omega)
set_option maxRecDepth 100000 in
set_option maxHeartbeats 4000000 in
theorem cLW_ready_ok (l : Launch) (D : va_G) (cA : Nat → ClassId) (tz : Nat) (I : List (Nat × Nat)) (ad : Nat → Nat → Nat) (σ : xMem) (d n g : Nat) (x0 x1 : Int32) (σ1 : xMem) (h5 : (5, 0) ∈ I) (hL : xL I n g) (hd : d ≤ 10) (hM : xD l ySF_ready bSF_ready 3 none d [.ref (ad 5 0), .int x0, .int x1] D cA tz I ad σ none σ1) : xH l yLW_ready bLW_ready 4 (some .int) [(0, 6, 9, 13)] 11 1 6 [.ref (ad 5 0), .int x0, .int x1] D cA tz I ad σ (fun _ => some (.int (nI 0))) σ1 n g := by
  refine xh_of (by decide) (by simp [lg_sl, Value.category]) ?_
  intro p e s m args below meth c A ls C hr hlk hml htab hl w hz
  obtain ⟨hx, hb, hown, hts⟩ := id C
  have hl : lv_has ls 4 [(0, .ref (ad 5 0)), (1, .int x0), (2, .int x1)] := hl
  have hE0 := xE.rf I ad
  refine lv_aload_n hx hb dLW_ready_0 rfl (lv_at hl 0 rfl) ?_
  refine lv_iload_n hx hb dLW_ready_1 rfl (lv_at hl 1 rfl) ?_
  refine lv_iload_n hx hb dLW_ready_2 rfl (lv_at hl 2 rfl) ?_
  refine xd_callV C w hz hml hl.1 xk_LW_23 (hM) h5 rfl rfl rfl rfl (Nat.le_of_ble_eq_true rfl) (by simp only [xr_R]; omega) (by simp only [xr_R]; omega) dLW_ready_3 (fun H locs w => ?_)
  refine W.eq (g2 := F0 m 6 ls []) rfl ?_
  refine lv_goto hx hb dLW_ready_6 rfl ?_
  refine lv_iconst (v := nI 0) hx hb dLW_ready_12 xk_i0 ?_
  exact xa_iret C w hr hlk dLW_ready_13 (rfl) rfl hE0 hL (by omega) (by omega)
set_option maxRecDepth 100000 in
set_option maxHeartbeats 4000000 in
theorem cLW_ready_t1 (l : Launch) (D : va_G) (cA : Nat → ClassId) (tz : Nat) (I : List (Nat × Nat)) (ad : Nat → Nat → Nat) (σ : xMem) (d n g : Nat) (x0 x1 : Int32) (h5 : (5, 0) ∈ I) (hL : xL I n g) (hd : d ≤ 10) (hM : xTh l ySF_ready bSF_ready 3 none d [.ref (ad 5 0), .int x0, .int x1] D cA tz I ad σ "java/lang/IndexOutOfBoundsException") : xH l yLW_ready bLW_ready 4 (some .int) [(0, 6, 9, 13)] 11 1 6 [.ref (ad 5 0), .int x0, .int x1] D cA tz I ad σ (fun _ => some (.int (nI 1))) σ n g := by
  refine xh_of (by decide) (by simp [lg_sl, Value.category]) ?_
  intro p e s m args below meth c A ls C hr hlk hml htab hl w hz
  obtain ⟨hx, hb, hown, hts⟩ := id C
  have hl : lv_has ls 4 [(0, .ref (ad 5 0)), (1, .int x0), (2, .int x1)] := hl
  have hE0 := xE.rf I ad
  refine lv_aload_n hx hb dLW_ready_0 rfl (lv_at hl 0 rfl) ?_
  refine lv_iload_n hx hb dLW_ready_1 rfl (lv_at hl 1 rfl) ?_
  refine lv_iload_n hx hb dLW_ready_2 rfl (lv_at hl 2 rfl) ?_
  obtain ⟨z0, Z0, ez0, s0, e0, h0, t0, hz0⟩ := xh_tab (t := #[]) htab
  refine xh_throw C w hz hml hl.1 xk_LW_23 hM h5 rfl rfl rfl rfl (Nat.le_of_ble_eq_true rfl) (by simp only [xr_R]; omega) (by simp only [xr_R]; omega) dLW_ready_3 [] z0 Z0 ez0 (fun z hz9 => by cases hz9) (show covers z0 3 = true by unfold covers; rw [s0, e0]; decide) (by rw [t0]; decide) (by rw [t0]; exact hts _ (xmi 366 (by decide +kernel) rfl)) hz.1.2.1.1 (fun H locs q w => ?_)
  refine W.eq (g2 := F0 m 9 ls [.ref q]) (by rw [h0]) ?_
  refine lv_astore_n (lv' := [(3, .ref q), (0, .ref (ad 5 0)), (1, .int x0), (2, .int x1)]) hx hb dLW_ready_9 rfl hl (by decide) rfl (fun ls hl => ?_)
  refine lv_iconst (v := nI 1) hx hb dLW_ready_10 xk_i1 ?_
  exact xa_iret C w hr hlk dLW_ready_11 (rfl) rfl hE0 hL (by omega) (by omega)
set_option maxRecDepth 100000 in
set_option maxHeartbeats 4000000 in
theorem cLW_cycles_ok (l : Launch) (D : va_G) (cA : Nat → ClassId) (tz : Nat) (I : List (Nat × Nat)) (ad : Nat → Nat → Nat) (σ : xMem) (mc ms n1 g1 d n g : Nat) (x0 : Int32) (σ1 : xMem) (v : Int32) (h5 : (5, 0) ∈ I) (h40 : (40, 0) ∈ I) (hL : xL I n g) (hd : d ≤ 10) (hM : xA (xZ tz) l ySF_cycles bSF_cycles 4 (some .int) d mc ms [.ref (ad 5 0), .int x0] D cA tz I ad σ (fun _ => (some (.int v))) σ1 n1 g1) : xH l yLW_cycles bLW_cycles 4 (some .int) [(0, 9, 12, 19)] 11 mc ms [.ref (ad 5 0), .int x0, .ref (ad 40 0)] D cA tz I ad σ (fun _ => some (.int (nI 0))) (xu3 σ1 40 0 0 v) n1 g1 := by
  refine xh_of (by decide) (by simp [lg_sl, Value.category]) ?_
  intro p e s m args below meth c A ls C hr hlk hml htab hl w hz
  obtain ⟨hx, hb, hown, hts⟩ := id C
  have hl : lv_has ls 4 [(0, .ref (ad 5 0)), (1, .int x0), (2, .ref (ad 40 0))] := hl
  have hE0 := xE.rf I ad
  refine lv_aload_n hx hb dLW_cycles_0 rfl (lv_at hl 2 rfl) ?_
  refine lv_iconst (v := nI 0) hx hb dLW_cycles_1 xk_i0 ?_
  refine lv_aload_n hx hb dLW_cycles_2 rfl (lv_at hl 0 rfl) ?_
  refine lv_iload_n hx hb dLW_cycles_3 rfl (lv_at hl 1 rfl) ?_
  refine xa_callV C w hz (xZL tz) hml hl.1 xk_LW_27 (hM) h5 rfl rfl rfl rfl (Nat.le_of_ble_eq_true rfl) (by simp only [xr_R]; omega) (by simp only [xr_R]; omega) dLW_cycles_4 (fun I ad H locs hE hL w => ?_)
  have e0 := hE.2 5 0 h5
  have e1 := hE.2 40 0 h40
  have hE0 := hE0.tr hE
  have hl : lv_has ls 4 [(0, .ref (ad 5 0)), (1, .int x0), (2, .ref (ad 40 0))] := by rw [e0, e1]; exact hl
  refine W.eq (g2 := F0 m 7 ls [.int v, .int (nI 0), .ref (ad 40 0)]) (by rw [e1] <;> rfl) ?_
  have h5 := hE.1 _ h5
  have h40 := hE.1 _ h40
  refine lv_i2l hx hb dLW_cycles_7 rfl ?_
  refine xs_last C w h40 (x := v) rfl dLW_cycles_8 (fun H locs w => ?_)
  refine lv_goto hx hb dLW_cycles_9 rfl ?_
  refine lv_iconst (v := nI 0) hx hb dLW_cycles_15 xk_i0 ?_
  exact xa_iret C w hr hlk dLW_cycles_16 (rfl) rfl hE0 hL (by omega) (by omega)
set_option maxRecDepth 100000 in
set_option maxHeartbeats 4000000 in
theorem cLW_cycles_t1 (l : Launch) (D : va_G) (cA : Nat → ClassId) (tz : Nat) (I : List (Nat × Nat)) (ad : Nat → Nat → Nat) (σ : xMem) (d n g : Nat) (x0 : Int32) (h5 : (5, 0) ∈ I) (h40 : (40, 0) ∈ I) (hL : xL I n g) (hd : d ≤ 10) (hM : xTh l ySF_cycles bSF_cycles 4 (some .int) d [.ref (ad 5 0), .int x0] D cA tz I ad σ "java/lang/IllegalArgumentException") : xH l yLW_cycles bLW_cycles 4 (some .int) [(0, 9, 12, 19)] 11 1 6 [.ref (ad 5 0), .int x0, .ref (ad 40 0)] D cA tz I ad σ (fun _ => some (.int (nI 1))) σ n g := by
  refine xh_of (by decide) (by simp [lg_sl, Value.category]) ?_
  intro p e s m args below meth c A ls C hr hlk hml htab hl w hz
  obtain ⟨hx, hb, hown, hts⟩ := id C
  have hl : lv_has ls 4 [(0, .ref (ad 5 0)), (1, .int x0), (2, .ref (ad 40 0))] := hl
  have hE0 := xE.rf I ad
  refine lv_aload_n hx hb dLW_cycles_0 rfl (lv_at hl 2 rfl) ?_
  refine lv_iconst (v := nI 0) hx hb dLW_cycles_1 xk_i0 ?_
  refine lv_aload_n hx hb dLW_cycles_2 rfl (lv_at hl 0 rfl) ?_
  refine lv_iload_n hx hb dLW_cycles_3 rfl (lv_at hl 1 rfl) ?_
  obtain ⟨z0, Z0, ez0, s0, e0, h0, t0, hz0⟩ := xh_tab (t := #[]) htab
  refine xh_throw C w hz hml hl.1 xk_LW_27 hM h5 rfl rfl rfl rfl (Nat.le_of_ble_eq_true rfl) (by simp only [xr_R]; omega) (by simp only [xr_R]; omega) dLW_cycles_4 [] z0 Z0 ez0 (fun z hz9 => by cases hz9) (show covers z0 4 = true by unfold covers; rw [s0, e0]; decide) (by rw [t0]; decide) (by rw [t0]; exact hts _ (xmi 440 (by decide +kernel) rfl)) hz.1.2.1.2.1 (fun H locs q w => ?_)
  refine W.eq (g2 := F0 m 12 ls [.ref q]) (by rw [h0]) ?_
  refine lv_astore_n (lv' := [(3, .ref q), (0, .ref (ad 5 0)), (1, .int x0), (2, .ref (ad 40 0))]) hx hb dLW_cycles_12 rfl hl (by decide) rfl (fun ls hl => ?_)
  refine lv_iconst (v := nI 1) hx hb dLW_cycles_13 xk_i1 ?_
  exact xa_iret C w hr hlk dLW_cycles_14 (rfl) rfl hE0 hL (by omega) (by omega)
set_option maxRecDepth 100000 in
set_option maxHeartbeats 4000000 in
theorem cLW_state_ok (l : Launch) (D : va_G) (cA : Nat → ClassId) (tz : Nat) (I : List (Nat × Nat)) (ad : Nat → Nat → Nat) (σ : xMem) (d n g : Nat) (x0 x1 : Int32) (σ1 : xMem) (v : Int32) (h5 : (5, 0) ∈ I) (h40 : (40, 0) ∈ I) (hL : xL I n g) (hd : d ≤ 10) (hM : xD l ySF_state bSF_state 3 (some .int) d [.ref (ad 5 0), .int x0, .int x1] D cA tz I ad σ (some (.int v)) σ1) : xH l yLW_state bLW_state 5 (some .int) [(0, 10, 13, 13)] 11 1 6 [.ref (ad 5 0), .int x0, .int x1, .ref (ad 40 0)] D cA tz I ad σ (fun _ => some (.int (nI 0))) (xu3 σ1 40 0 0 v) n g := by
  refine xh_of (by decide) (by simp [lg_sl, Value.category]) ?_
  intro p e s m args below meth c A ls C hr hlk hml htab hl w hz
  obtain ⟨hx, hb, hown, hts⟩ := id C
  have hl : lv_has ls 5 [(0, .ref (ad 5 0)), (1, .int x0), (2, .int x1), (3, .ref (ad 40 0))] := hl
  have hE0 := xE.rf I ad
  refine lv_aload_n hx hb dLW_state_0 rfl (lv_at hl 3 rfl) ?_
  refine lv_iconst (v := nI 0) hx hb dLW_state_1 xk_i0 ?_
  refine lv_aload_n hx hb dLW_state_2 rfl (lv_at hl 0 rfl) ?_
  refine lv_iload_n hx hb dLW_state_3 rfl (lv_at hl 1 rfl) ?_
  refine lv_iload_n hx hb dLW_state_4 rfl (lv_at hl 2 rfl) ?_
  refine xd_callV C w hz hml hl.1 xk_LW_31 (hM) h5 rfl rfl rfl rfl (Nat.le_of_ble_eq_true rfl) (by simp only [xr_R]; omega) (by simp only [xr_R]; omega) dLW_state_5 (fun H locs w => ?_)
  refine W.eq (g2 := F0 m 8 ls [.int v, .int (nI 0), .ref (ad 40 0)]) rfl ?_
  refine lv_i2l hx hb dLW_state_8 rfl ?_
  refine xs_last C w h40 (x := v) rfl dLW_state_9 (fun H locs w => ?_)
  refine lv_goto hx hb dLW_state_10 rfl ?_
  refine lv_iconst (v := nI 0) hx hb dLW_state_17 xk_i0 ?_
  exact xa_iret C w hr hlk dLW_state_18 (rfl) rfl hE0 hL (by omega) (by omega)
set_option maxRecDepth 100000 in
set_option maxHeartbeats 4000000 in
theorem cLW_state_t1 (l : Launch) (D : va_G) (cA : Nat → ClassId) (tz : Nat) (I : List (Nat × Nat)) (ad : Nat → Nat → Nat) (σ : xMem) (d n g : Nat) (x0 x1 : Int32) (h5 : (5, 0) ∈ I) (h40 : (40, 0) ∈ I) (hL : xL I n g) (hd : d ≤ 10) (hM : xTh l ySF_state bSF_state 3 (some .int) d [.ref (ad 5 0), .int x0, .int x1] D cA tz I ad σ "java/lang/IndexOutOfBoundsException") : xH l yLW_state bLW_state 5 (some .int) [(0, 10, 13, 13)] 11 1 6 [.ref (ad 5 0), .int x0, .int x1, .ref (ad 40 0)] D cA tz I ad σ (fun _ => some (.int (nI 1))) σ n g := by
  refine xh_of (by decide) (by simp [lg_sl, Value.category]) ?_
  intro p e s m args below meth c A ls C hr hlk hml htab hl w hz
  obtain ⟨hx, hb, hown, hts⟩ := id C
  have hl : lv_has ls 5 [(0, .ref (ad 5 0)), (1, .int x0), (2, .int x1), (3, .ref (ad 40 0))] := hl
  have hE0 := xE.rf I ad
  refine lv_aload_n hx hb dLW_state_0 rfl (lv_at hl 3 rfl) ?_
  refine lv_iconst (v := nI 0) hx hb dLW_state_1 xk_i0 ?_
  refine lv_aload_n hx hb dLW_state_2 rfl (lv_at hl 0 rfl) ?_
  refine lv_iload_n hx hb dLW_state_3 rfl (lv_at hl 1 rfl) ?_
  refine lv_iload_n hx hb dLW_state_4 rfl (lv_at hl 2 rfl) ?_
  obtain ⟨z0, Z0, ez0, s0, e0, h0, t0, hz0⟩ := xh_tab (t := #[]) htab
  refine xh_throw C w hz hml hl.1 xk_LW_31 hM h5 rfl rfl rfl rfl (Nat.le_of_ble_eq_true rfl) (by simp only [xr_R]; omega) (by simp only [xr_R]; omega) dLW_state_5 [] z0 Z0 ez0 (fun z hz9 => by cases hz9) (show covers z0 5 = true by unfold covers; rw [s0, e0]; decide) (by rw [t0]; decide) (by rw [t0]; exact hts _ (xmi 366 (by decide +kernel) rfl)) hz.1.2.1.1 (fun H locs q w => ?_)
  refine W.eq (g2 := F0 m 13 ls [.ref q]) (by rw [h0]) ?_
  refine lv_astore (lv' := [(4, .ref q), (0, .ref (ad 5 0)), (1, .int x0), (2, .int x1), (3, .ref (ad 40 0))]) hx hb dLW_state_13 hl (by decide) rfl (fun ls hl => ?_)
  refine lv_iconst (v := nI 1) hx hb dLW_state_15 xk_i1 ?_
  exact xa_iret C w hr hlk dLW_state_16 (rfl) rfl hE0 hL (by omega) (by omega)
set_option maxRecDepth 100000 in
set_option maxHeartbeats 4000000 in
theorem cLW_word_ok (l : Launch) (D : va_G) (cA : Nat → ClassId) (tz : Nat) (I : List (Nat × Nat)) (ad : Nat → Nat → Nat) (σ : xMem) (d n g : Nat) (x0 x1 x2 : Int32) (σ1 : xMem) (v : Int32) (h5 : (5, 0) ∈ I) (h40 : (40, 0) ∈ I) (hL : xL I n g) (hd : d ≤ 10) (hM : xD l ySF_word bSF_word 5 (some .int) d [.ref (ad 5 0), .int x0, .int x1, .int x2] D cA tz I ad σ (some (.int v)) σ1) : xH l yLW_word bLW_word 6 (some .int) [(0, 12, 15, 13), (0, 12, 19, 21)] 11 1 6 [.ref (ad 5 0), .int x0, .int x1, .int x2, .ref (ad 40 0)] D cA tz I ad σ (fun _ => some (.int (nI 0))) (xu3 σ1 40 0 0 v) n g := by
  refine xh_of (by decide) (by simp [lg_sl, Value.category]) ?_
  intro p e s m args below meth c A ls C hr hlk hml htab hl w hz
  obtain ⟨hx, hb, hown, hts⟩ := id C
  have hl : lv_has ls 6 [(0, .ref (ad 5 0)), (1, .int x0), (2, .int x1), (3, .int x2), (4, .ref (ad 40 0))] := hl
  have hE0 := xE.rf I ad
  refine lv_aload hx hb dLW_word_0 (lv_at hl 4 rfl) ?_
  refine lv_iconst (v := nI 0) hx hb dLW_word_2 xk_i0 ?_
  refine lv_aload_n hx hb dLW_word_3 rfl (lv_at hl 0 rfl) ?_
  refine lv_iload_n hx hb dLW_word_4 rfl (lv_at hl 1 rfl) ?_
  refine lv_iload_n hx hb dLW_word_5 rfl (lv_at hl 2 rfl) ?_
  refine lv_iload_n hx hb dLW_word_6 rfl (lv_at hl 3 rfl) ?_
  refine xd_callV C w hz hml hl.1 xk_LW_35 (hM) h5 rfl rfl rfl rfl (Nat.le_of_ble_eq_true rfl) (by simp only [xr_R]; omega) (by simp only [xr_R]; omega) dLW_word_7 (fun H locs w => ?_)
  refine W.eq (g2 := F0 m 10 ls [.int v, .int (nI 0), .ref (ad 40 0)]) rfl ?_
  refine lv_i2l hx hb dLW_word_10 rfl ?_
  refine xs_last C w h40 (x := v) rfl dLW_word_11 (fun H locs w => ?_)
  refine lv_goto hx hb dLW_word_12 rfl ?_
  refine lv_iconst (v := nI 0) hx hb dLW_word_23 xk_i0 ?_
  exact xa_iret C w hr hlk dLW_word_24 (rfl) rfl hE0 hL (by omega) (by omega)
set_option maxRecDepth 100000 in
set_option maxHeartbeats 4000000 in
theorem cLW_word_t1 (l : Launch) (D : va_G) (cA : Nat → ClassId) (tz : Nat) (I : List (Nat × Nat)) (ad : Nat → Nat → Nat) (σ : xMem) (d n g : Nat) (x0 x1 x2 : Int32) (h5 : (5, 0) ∈ I) (h40 : (40, 0) ∈ I) (hL : xL I n g) (hd : d ≤ 10) (hM : xTh l ySF_word bSF_word 5 (some .int) d [.ref (ad 5 0), .int x0, .int x1, .int x2] D cA tz I ad σ "java/lang/IndexOutOfBoundsException") : xH l yLW_word bLW_word 6 (some .int) [(0, 12, 15, 13), (0, 12, 19, 21)] 11 1 6 [.ref (ad 5 0), .int x0, .int x1, .int x2, .ref (ad 40 0)] D cA tz I ad σ (fun _ => some (.int (nI 1))) σ n g := by
  refine xh_of (by decide) (by simp [lg_sl, Value.category]) ?_
  intro p e s m args below meth c A ls C hr hlk hml htab hl w hz
  obtain ⟨hx, hb, hown, hts⟩ := id C
  have hl : lv_has ls 6 [(0, .ref (ad 5 0)), (1, .int x0), (2, .int x1), (3, .int x2), (4, .ref (ad 40 0))] := hl
  have hE0 := xE.rf I ad
  refine lv_aload hx hb dLW_word_0 (lv_at hl 4 rfl) ?_
  refine lv_iconst (v := nI 0) hx hb dLW_word_2 xk_i0 ?_
  refine lv_aload_n hx hb dLW_word_3 rfl (lv_at hl 0 rfl) ?_
  refine lv_iload_n hx hb dLW_word_4 rfl (lv_at hl 1 rfl) ?_
  refine lv_iload_n hx hb dLW_word_5 rfl (lv_at hl 2 rfl) ?_
  refine lv_iload_n hx hb dLW_word_6 rfl (lv_at hl 3 rfl) ?_
  obtain ⟨z0, Z0, ez0, s0, e0, h0, t0, hz0⟩ := xh_tab (t := #[]) htab
  obtain ⟨z1, Z1, ez1, s1, e1, h1, t1, hz1⟩ := xh_tab (t := #[]) hz0
  refine xh_throw C w hz hml hl.1 xk_LW_35 hM h5 rfl rfl rfl rfl (Nat.le_of_ble_eq_true rfl) (by simp only [xr_R]; omega) (by simp only [xr_R]; omega) dLW_word_7 [] z0 Z0 ez0 (fun z hz9 => by cases hz9) (show covers z0 7 = true by unfold covers; rw [s0, e0]; decide) (by rw [t0]; decide) (by rw [t0]; exact hts _ (xmi 366 (by decide +kernel) rfl)) hz.1.2.1.1 (fun H locs q w => ?_)
  refine W.eq (g2 := F0 m 15 ls [.ref q]) (by rw [h0]) ?_
  refine lv_astore (lv' := [(5, .ref q), (0, .ref (ad 5 0)), (1, .int x0), (2, .int x1), (3, .int x2), (4, .ref (ad 40 0))]) hx hb dLW_word_15 hl (by decide) rfl (fun ls hl => ?_)
  refine lv_iconst (v := nI 1) hx hb dLW_word_17 xk_i1 ?_
  exact xa_iret C w hr hlk dLW_word_18 (rfl) rfl hE0 hL (by omega) (by omega)
set_option maxRecDepth 100000 in
set_option maxHeartbeats 4000000 in
theorem cLW_word_t2 (l : Launch) (D : va_G) (cA : Nat → ClassId) (tz : Nat) (I : List (Nat × Nat)) (ad : Nat → Nat → Nat) (σ : xMem) (d n g : Nat) (x0 x1 x2 : Int32) (h5 : (5, 0) ∈ I) (h40 : (40, 0) ∈ I) (hL : xL I n g) (hd : d ≤ 10) (hM : xTh l ySF_word bSF_word 5 (some .int) d [.ref (ad 5 0), .int x0, .int x1, .int x2] D cA tz I ad σ "java/lang/IllegalStateException") : xH l yLW_word bLW_word 6 (some .int) [(0, 12, 15, 13), (0, 12, 19, 21)] 11 1 6 [.ref (ad 5 0), .int x0, .int x1, .int x2, .ref (ad 40 0)] D cA tz I ad σ (fun _ => some (.int (nI 2))) σ n g := by
  refine xh_of (by decide) (by simp [lg_sl, Value.category]) ?_
  intro p e s m args below meth c A ls C hr hlk hml htab hl w hz
  obtain ⟨hx, hb, hown, hts⟩ := id C
  have hl : lv_has ls 6 [(0, .ref (ad 5 0)), (1, .int x0), (2, .int x1), (3, .int x2), (4, .ref (ad 40 0))] := hl
  have hE0 := xE.rf I ad
  refine lv_aload hx hb dLW_word_0 (lv_at hl 4 rfl) ?_
  refine lv_iconst (v := nI 0) hx hb dLW_word_2 xk_i0 ?_
  refine lv_aload_n hx hb dLW_word_3 rfl (lv_at hl 0 rfl) ?_
  refine lv_iload_n hx hb dLW_word_4 rfl (lv_at hl 1 rfl) ?_
  refine lv_iload_n hx hb dLW_word_5 rfl (lv_at hl 2 rfl) ?_
  refine lv_iload_n hx hb dLW_word_6 rfl (lv_at hl 3 rfl) ?_
  obtain ⟨z0, Z0, ez0, s0, e0, h0, t0, hz0⟩ := xh_tab (t := #[]) htab
  obtain ⟨z1, Z1, ez1, s1, e1, h1, t1, hz1⟩ := xh_tab (t := #[]) hz0
  rw [ez1] at ez0
  refine xh_throw C w hz hml hl.1 xk_LW_35 hM h5 rfl rfl rfl rfl (Nat.le_of_ble_eq_true rfl) (by simp only [xr_R]; omega) (by simp only [xr_R]; omega) dLW_word_7 [z0] z1 Z1 ez0 (fun z hz9 => by rw [List.mem_singleton] at hz9; rw [hz9]; exact Or.inr ⟨(show covers z0 7 = true by unfold covers; rw [s0, e0]; decide), (by rw [t0]; decide), "java/lang/IndexOutOfBoundsException", (by rw [t0]; exact hts _ (xmi 366 (by decide +kernel) rfl)), hz.1.1.2.1⟩) (show covers z1 7 = true by unfold covers; rw [s1, e1]; decide) (by rw [t1]; decide) (by rw [t1]; exact hts _ (xmi 441 (by decide +kernel) rfl)) hz.1.2.1.2.2.1 (fun H locs q w => ?_)
  refine W.eq (g2 := F0 m 19 ls [.ref q]) (by rw [h1]) ?_
  refine lv_astore (lv' := [(5, .ref q), (0, .ref (ad 5 0)), (1, .int x0), (2, .int x1), (3, .int x2), (4, .ref (ad 40 0))]) hx hb dLW_word_19 hl (by decide) rfl (fun ls hl => ?_)
  refine lv_iconst (v := nI 2) hx hb dLW_word_21 xk_i2 ?_
  exact xa_iret C w hr hlk dLW_word_22 (rfl) rfl hE0 hL (by omega) (by omega)
set_option maxRecDepth 100000 in
set_option maxHeartbeats 4000000 in
theorem cLW_take_ok (l : Launch) (D : va_G) (cA : Nat → ClassId) (tz : Nat) (I : List (Nat × Nat)) (ad : Nat → Nat → Nat) (σ : xMem) (d n g : Nat) (x0 x1 : Int32) (σ1 : xMem) (Pb : Prop) (h5 : (5, 0) ∈ I) (h40 : (40, 0) ∈ I) (hL : xL I n g) (hd : d ≤ 10) (hM : xD l ySF_take bSF_take 5 (some .boolean) d [.ref (ad 5 0), .int x0, .int x1] D cA tz I ad σ (some (.int (xb Pb))) σ1) : xH l yLW_take bLW_take 5 (some .int) [(0, 17, 20, 13), (0, 17, 24, 21)] 11 1 6 [.ref (ad 5 0), .int x0, .int x1, .ref (ad 40 0)] D cA tz I ad σ (fun _ => some (.int (nI 0))) (xu3 σ1 40 0 0 (xb Pb)) n g := by
  refine xh_of (by decide) (by simp [lg_sl, Value.category]) ?_
  intro p e s m args below meth c A ls C hr hlk hml htab hl w hz
  obtain ⟨hx, hb, hown, hts⟩ := id C
  have hl : lv_has ls 5 [(0, .ref (ad 5 0)), (1, .int x0), (2, .int x1), (3, .ref (ad 40 0))] := hl
  have hE0 := xE.rf I ad
  refine lv_aload_n hx hb dLW_take_0 rfl (lv_at hl 3 rfl) ?_
  refine lv_iconst (v := nI 0) hx hb dLW_take_1 xk_i0 ?_
  refine lv_aload_n hx hb dLW_take_2 rfl (lv_at hl 0 rfl) ?_
  refine lv_iload_n hx hb dLW_take_3 rfl (lv_at hl 1 rfl) ?_
  refine lv_iload_n hx hb dLW_take_4 rfl (lv_at hl 2 rfl) ?_
  refine xd_callV C w hz hml hl.1 xk_LW_39 (hM) h5 rfl rfl rfl rfl (Nat.le_of_ble_eq_true rfl) (by simp only [xr_R]; omega) (by simp only [xr_R]; omega) dLW_take_5 (fun H locs w => ?_)
  refine W.eq (g2 := F0 m 8 ls [.int (xb Pb), .int (nI 0), .ref (ad 40 0)]) rfl ?_
  refine xz_ifeq hx hb dLW_take_8 rfl (fun hh1 => ?_) (fun hh1 => ?_)
  · skip
    refine lv_lconst hx hb dLW_take_15 rfl ?_
    refine xs_last C w h40 (x := xb Pb) (show (0 : Int64) = (xb Pb).toInt64 by rw [xb_f hh1]; decide) dLW_take_16 (fun H locs w => ?_)
    refine lv_goto hx hb dLW_take_17 rfl ?_
    refine lv_iconst (v := nI 0) hx hb dLW_take_28 xk_i0 ?_
    exact xa_iret C w hr hlk dLW_take_29 (rfl) rfl hE0 hL (by omega) (by omega)
  · skip
    refine lv_lconst hx hb dLW_take_11 rfl ?_
    refine lv_goto hx hb dLW_take_12 rfl ?_
    refine xs_last C w h40 (x := xb Pb) (show (1 : Int64) = (xb Pb).toInt64 by rw [xb_t hh1]; decide) dLW_take_16 (fun H locs w => ?_)
    refine lv_goto hx hb dLW_take_17 rfl ?_
    refine lv_iconst (v := nI 0) hx hb dLW_take_28 xk_i0 ?_
    exact xa_iret C w hr hlk dLW_take_29 (rfl) rfl hE0 hL (by omega) (by omega)
set_option maxRecDepth 100000 in
set_option maxHeartbeats 4000000 in
theorem cLW_take_t1 (l : Launch) (D : va_G) (cA : Nat → ClassId) (tz : Nat) (I : List (Nat × Nat)) (ad : Nat → Nat → Nat) (σ : xMem) (d n g : Nat) (x0 x1 : Int32) (h5 : (5, 0) ∈ I) (h40 : (40, 0) ∈ I) (hL : xL I n g) (hd : d ≤ 10) (hM : xTh l ySF_take bSF_take 5 (some .boolean) d [.ref (ad 5 0), .int x0, .int x1] D cA tz I ad σ "java/lang/IndexOutOfBoundsException") : xH l yLW_take bLW_take 5 (some .int) [(0, 17, 20, 13), (0, 17, 24, 21)] 11 1 6 [.ref (ad 5 0), .int x0, .int x1, .ref (ad 40 0)] D cA tz I ad σ (fun _ => some (.int (nI 1))) σ n g := by
  refine xh_of (by decide) (by simp [lg_sl, Value.category]) ?_
  intro p e s m args below meth c A ls C hr hlk hml htab hl w hz
  obtain ⟨hx, hb, hown, hts⟩ := id C
  have hl : lv_has ls 5 [(0, .ref (ad 5 0)), (1, .int x0), (2, .int x1), (3, .ref (ad 40 0))] := hl
  have hE0 := xE.rf I ad
  refine lv_aload_n hx hb dLW_take_0 rfl (lv_at hl 3 rfl) ?_
  refine lv_iconst (v := nI 0) hx hb dLW_take_1 xk_i0 ?_
  refine lv_aload_n hx hb dLW_take_2 rfl (lv_at hl 0 rfl) ?_
  refine lv_iload_n hx hb dLW_take_3 rfl (lv_at hl 1 rfl) ?_
  refine lv_iload_n hx hb dLW_take_4 rfl (lv_at hl 2 rfl) ?_
  obtain ⟨z0, Z0, ez0, s0, e0, h0, t0, hz0⟩ := xh_tab (t := #[]) htab
  obtain ⟨z1, Z1, ez1, s1, e1, h1, t1, hz1⟩ := xh_tab (t := #[]) hz0
  refine xh_throw C w hz hml hl.1 xk_LW_39 hM h5 rfl rfl rfl rfl (Nat.le_of_ble_eq_true rfl) (by simp only [xr_R]; omega) (by simp only [xr_R]; omega) dLW_take_5 [] z0 Z0 ez0 (fun z hz9 => by cases hz9) (show covers z0 5 = true by unfold covers; rw [s0, e0]; decide) (by rw [t0]; decide) (by rw [t0]; exact hts _ (xmi 366 (by decide +kernel) rfl)) hz.1.2.1.1 (fun H locs q w => ?_)
  refine W.eq (g2 := F0 m 20 ls [.ref q]) (by rw [h0]) ?_
  refine lv_astore (lv' := [(4, .ref q), (0, .ref (ad 5 0)), (1, .int x0), (2, .int x1), (3, .ref (ad 40 0))]) hx hb dLW_take_20 hl (by decide) rfl (fun ls hl => ?_)
  refine lv_iconst (v := nI 1) hx hb dLW_take_22 xk_i1 ?_
  exact xa_iret C w hr hlk dLW_take_23 (rfl) rfl hE0 hL (by omega) (by omega)
set_option maxRecDepth 100000 in
set_option maxHeartbeats 4000000 in
theorem cLW_take_t2 (l : Launch) (D : va_G) (cA : Nat → ClassId) (tz : Nat) (I : List (Nat × Nat)) (ad : Nat → Nat → Nat) (σ : xMem) (d n g : Nat) (x0 x1 : Int32) (h5 : (5, 0) ∈ I) (h40 : (40, 0) ∈ I) (hL : xL I n g) (hd : d ≤ 10) (hM : xTh l ySF_take bSF_take 5 (some .boolean) d [.ref (ad 5 0), .int x0, .int x1] D cA tz I ad σ "java/lang/IllegalStateException") : xH l yLW_take bLW_take 5 (some .int) [(0, 17, 20, 13), (0, 17, 24, 21)] 11 1 6 [.ref (ad 5 0), .int x0, .int x1, .ref (ad 40 0)] D cA tz I ad σ (fun _ => some (.int (nI 2))) σ n g := by
  refine xh_of (by decide) (by simp [lg_sl, Value.category]) ?_
  intro p e s m args below meth c A ls C hr hlk hml htab hl w hz
  obtain ⟨hx, hb, hown, hts⟩ := id C
  have hl : lv_has ls 5 [(0, .ref (ad 5 0)), (1, .int x0), (2, .int x1), (3, .ref (ad 40 0))] := hl
  have hE0 := xE.rf I ad
  refine lv_aload_n hx hb dLW_take_0 rfl (lv_at hl 3 rfl) ?_
  refine lv_iconst (v := nI 0) hx hb dLW_take_1 xk_i0 ?_
  refine lv_aload_n hx hb dLW_take_2 rfl (lv_at hl 0 rfl) ?_
  refine lv_iload_n hx hb dLW_take_3 rfl (lv_at hl 1 rfl) ?_
  refine lv_iload_n hx hb dLW_take_4 rfl (lv_at hl 2 rfl) ?_
  obtain ⟨z0, Z0, ez0, s0, e0, h0, t0, hz0⟩ := xh_tab (t := #[]) htab
  obtain ⟨z1, Z1, ez1, s1, e1, h1, t1, hz1⟩ := xh_tab (t := #[]) hz0
  rw [ez1] at ez0
  refine xh_throw C w hz hml hl.1 xk_LW_39 hM h5 rfl rfl rfl rfl (Nat.le_of_ble_eq_true rfl) (by simp only [xr_R]; omega) (by simp only [xr_R]; omega) dLW_take_5 [z0] z1 Z1 ez0 (fun z hz9 => by rw [List.mem_singleton] at hz9; rw [hz9]; exact Or.inr ⟨(show covers z0 5 = true by unfold covers; rw [s0, e0]; decide), (by rw [t0]; decide), "java/lang/IndexOutOfBoundsException", (by rw [t0]; exact hts _ (xmi 366 (by decide +kernel) rfl)), hz.1.1.2.1⟩) (show covers z1 5 = true by unfold covers; rw [s1, e1]; decide) (by rw [t1]; decide) (by rw [t1]; exact hts _ (xmi 441 (by decide +kernel) rfl)) hz.1.2.1.2.2.1 (fun H locs q w => ?_)
  refine W.eq (g2 := F0 m 24 ls [.ref q]) (by rw [h1]) ?_
  refine lv_astore (lv' := [(4, .ref q), (0, .ref (ad 5 0)), (1, .int x0), (2, .int x1), (3, .ref (ad 40 0))]) hx hb dLW_take_24 hl (by decide) rfl (fun ls hl => ?_)
  refine lv_iconst (v := nI 2) hx hb dLW_take_26 xk_i2 ?_
  exact xa_iret C w hr hlk dLW_take_27 (rfl) rfl hE0 hL (by omega) (by omega)
set_option maxRecDepth 100000 in
set_option maxHeartbeats 4000000 in
theorem cLW_base_ok (l : Launch) (D : va_G) (cA : Nat → ClassId) (tz : Nat) (I : List (Nat × Nat)) (ad : Nat → Nat → Nat) (σ : xMem) (d n g : Nat) (x0 x1 : Int32) (σ1 : xMem) (h5 : (5, 0) ∈ I) (hL : xL I n g) (hd : d ≤ 10) (hM : xD l ySF_base bSF_base 3 none d [.ref (ad 5 0), .int x0, .int x1] D cA tz I ad σ none σ1) : xH l yLW_base bLW_base 4 (some .int) [(0, 6, 9, 13), (0, 6, 12, 19)] 11 1 6 [.ref (ad 5 0), .int x0, .int x1] D cA tz I ad σ (fun _ => some (.int (nI 0))) σ1 n g := by
  refine xh_of (by decide) (by simp [lg_sl, Value.category]) ?_
  intro p e s m args below meth c A ls C hr hlk hml htab hl w hz
  obtain ⟨hx, hb, hown, hts⟩ := id C
  have hl : lv_has ls 4 [(0, .ref (ad 5 0)), (1, .int x0), (2, .int x1)] := hl
  have hE0 := xE.rf I ad
  refine lv_aload_n hx hb dLW_base_0 rfl (lv_at hl 0 rfl) ?_
  refine lv_iload_n hx hb dLW_base_1 rfl (lv_at hl 1 rfl) ?_
  refine lv_iload_n hx hb dLW_base_2 rfl (lv_at hl 2 rfl) ?_
  refine xd_callV C w hz hml hl.1 xk_LW_43 (hM) h5 rfl rfl rfl rfl (Nat.le_of_ble_eq_true rfl) (by simp only [xr_R]; omega) (by simp only [xr_R]; omega) dLW_base_3 (fun H locs w => ?_)
  refine W.eq (g2 := F0 m 6 ls []) rfl ?_
  refine lv_goto hx hb dLW_base_6 rfl ?_
  refine lv_iconst (v := nI 0) hx hb dLW_base_15 xk_i0 ?_
  exact xa_iret C w hr hlk dLW_base_16 (rfl) rfl hE0 hL (by omega) (by omega)
set_option maxRecDepth 100000 in
set_option maxHeartbeats 4000000 in
theorem cLW_base_t1 (l : Launch) (D : va_G) (cA : Nat → ClassId) (tz : Nat) (I : List (Nat × Nat)) (ad : Nat → Nat → Nat) (σ : xMem) (d n g : Nat) (x0 x1 : Int32) (h5 : (5, 0) ∈ I) (hL : xL I n g) (hd : d ≤ 10) (hM : xTh l ySF_base bSF_base 3 none d [.ref (ad 5 0), .int x0, .int x1] D cA tz I ad σ "java/lang/IndexOutOfBoundsException") : xH l yLW_base bLW_base 4 (some .int) [(0, 6, 9, 13), (0, 6, 12, 19)] 11 1 6 [.ref (ad 5 0), .int x0, .int x1] D cA tz I ad σ (fun _ => some (.int (nI 1))) σ n g := by
  refine xh_of (by decide) (by simp [lg_sl, Value.category]) ?_
  intro p e s m args below meth c A ls C hr hlk hml htab hl w hz
  obtain ⟨hx, hb, hown, hts⟩ := id C
  have hl : lv_has ls 4 [(0, .ref (ad 5 0)), (1, .int x0), (2, .int x1)] := hl
  have hE0 := xE.rf I ad
  refine lv_aload_n hx hb dLW_base_0 rfl (lv_at hl 0 rfl) ?_
  refine lv_iload_n hx hb dLW_base_1 rfl (lv_at hl 1 rfl) ?_
  refine lv_iload_n hx hb dLW_base_2 rfl (lv_at hl 2 rfl) ?_
  obtain ⟨z0, Z0, ez0, s0, e0, h0, t0, hz0⟩ := xh_tab (t := #[]) htab
  obtain ⟨z1, Z1, ez1, s1, e1, h1, t1, hz1⟩ := xh_tab (t := #[]) hz0
  refine xh_throw C w hz hml hl.1 xk_LW_43 hM h5 rfl rfl rfl rfl (Nat.le_of_ble_eq_true rfl) (by simp only [xr_R]; omega) (by simp only [xr_R]; omega) dLW_base_3 [] z0 Z0 ez0 (fun z hz9 => by cases hz9) (show covers z0 3 = true by unfold covers; rw [s0, e0]; decide) (by rw [t0]; decide) (by rw [t0]; exact hts _ (xmi 366 (by decide +kernel) rfl)) hz.1.2.1.1 (fun H locs q w => ?_)
  refine W.eq (g2 := F0 m 9 ls [.ref q]) (by rw [h0]) ?_
  refine lv_astore_n (lv' := [(3, .ref q), (0, .ref (ad 5 0)), (1, .int x0), (2, .int x1)]) hx hb dLW_base_9 rfl hl (by decide) rfl (fun ls hl => ?_)
  refine lv_iconst (v := nI 1) hx hb dLW_base_10 xk_i1 ?_
  exact xa_iret C w hr hlk dLW_base_11 (rfl) rfl hE0 hL (by omega) (by omega)
set_option maxRecDepth 100000 in
set_option maxHeartbeats 4000000 in
theorem cLW_base_t2 (l : Launch) (D : va_G) (cA : Nat → ClassId) (tz : Nat) (I : List (Nat × Nat)) (ad : Nat → Nat → Nat) (σ : xMem) (d n g : Nat) (x0 x1 : Int32) (h5 : (5, 0) ∈ I) (hL : xL I n g) (hd : d ≤ 10) (hM : xTh l ySF_base bSF_base 3 none d [.ref (ad 5 0), .int x0, .int x1] D cA tz I ad σ "java/lang/IllegalArgumentException") : xH l yLW_base bLW_base 4 (some .int) [(0, 6, 9, 13), (0, 6, 12, 19)] 11 1 6 [.ref (ad 5 0), .int x0, .int x1] D cA tz I ad σ (fun _ => some (.int (nI 2))) σ n g := by
  refine xh_of (by decide) (by simp [lg_sl, Value.category]) ?_
  intro p e s m args below meth c A ls C hr hlk hml htab hl w hz
  obtain ⟨hx, hb, hown, hts⟩ := id C
  have hl : lv_has ls 4 [(0, .ref (ad 5 0)), (1, .int x0), (2, .int x1)] := hl
  have hE0 := xE.rf I ad
  refine lv_aload_n hx hb dLW_base_0 rfl (lv_at hl 0 rfl) ?_
  refine lv_iload_n hx hb dLW_base_1 rfl (lv_at hl 1 rfl) ?_
  refine lv_iload_n hx hb dLW_base_2 rfl (lv_at hl 2 rfl) ?_
  obtain ⟨z0, Z0, ez0, s0, e0, h0, t0, hz0⟩ := xh_tab (t := #[]) htab
  obtain ⟨z1, Z1, ez1, s1, e1, h1, t1, hz1⟩ := xh_tab (t := #[]) hz0
  rw [ez1] at ez0
  refine xh_throw C w hz hml hl.1 xk_LW_43 hM h5 rfl rfl rfl rfl (Nat.le_of_ble_eq_true rfl) (by simp only [xr_R]; omega) (by simp only [xr_R]; omega) dLW_base_3 [z0] z1 Z1 ez0 (fun z hz9 => by rw [List.mem_singleton] at hz9; rw [hz9]; exact Or.inr ⟨(show covers z0 3 = true by unfold covers; rw [s0, e0]; decide), (by rw [t0]; decide), "java/lang/IndexOutOfBoundsException", (by rw [t0]; exact hts _ (xmi 366 (by decide +kernel) rfl)), hz.1.1.1⟩) (show covers z1 3 = true by unfold covers; rw [s1, e1]; decide) (by rw [t1]; decide) (by rw [t1]; exact hts _ (xmi 440 (by decide +kernel) rfl)) hz.1.2.1.2.1 (fun H locs q w => ?_)
  refine W.eq (g2 := F0 m 12 ls [.ref q]) (by rw [h1]) ?_
  refine lv_astore_n (lv' := [(3, .ref q), (0, .ref (ad 5 0)), (1, .int x0), (2, .int x1)]) hx hb dLW_base_12 rfl hl (by decide) rfl (fun ls hl => ?_)
  refine lv_iconst (v := nI 2) hx hb dLW_base_13 xk_i2 ?_
  exact xa_iret C w hr hlk dLW_base_14 (rfl) rfl hE0 hL (by omega) (by omega)
set_option maxRecDepth 100000 in
set_option maxHeartbeats 4000000 in
theorem cLW_waits_ok (l : Launch) (D : va_G) (cA : Nat → ClassId) (tz : Nat) (I : List (Nat × Nat)) (ad : Nat → Nat → Nat) (σ : xMem) (d n g : Nat) (x0 : Int32) (σ1 : xMem) (v : Int32) (h5 : (5, 0) ∈ I) (h40 : (40, 0) ∈ I) (hL : xL I n g) (hd : d ≤ 10) (hM : xD l ySF_waits bSF_waits 5 (some .int) d [.ref (ad 5 0), .int x0] D cA tz I ad σ (some (.int v)) σ1) : xH l yLW_waits bLW_waits 4 (some .int) [(0, 9, 12, 13)] 11 1 6 [.ref (ad 5 0), .int x0, .ref (ad 40 0)] D cA tz I ad σ (fun _ => some (.int (nI 0))) (xu3 σ1 40 0 0 v) n g := by
  refine xh_of (by decide) (by simp [lg_sl, Value.category]) ?_
  intro p e s m args below meth c A ls C hr hlk hml htab hl w hz
  obtain ⟨hx, hb, hown, hts⟩ := id C
  have hl : lv_has ls 4 [(0, .ref (ad 5 0)), (1, .int x0), (2, .ref (ad 40 0))] := hl
  have hE0 := xE.rf I ad
  refine lv_aload_n hx hb dLW_waits_0 rfl (lv_at hl 2 rfl) ?_
  refine lv_iconst (v := nI 0) hx hb dLW_waits_1 xk_i0 ?_
  refine lv_aload_n hx hb dLW_waits_2 rfl (lv_at hl 0 rfl) ?_
  refine lv_iload_n hx hb dLW_waits_3 rfl (lv_at hl 1 rfl) ?_
  refine xd_callV C w hz hml hl.1 xk_LW_47 (hM) h5 rfl rfl rfl rfl (Nat.le_of_ble_eq_true rfl) (by simp only [xr_R]; omega) (by simp only [xr_R]; omega) dLW_waits_4 (fun H locs w => ?_)
  refine W.eq (g2 := F0 m 7 ls [.int v, .int (nI 0), .ref (ad 40 0)]) rfl ?_
  refine lv_i2l hx hb dLW_waits_7 rfl ?_
  refine xs_last C w h40 (x := v) rfl dLW_waits_8 (fun H locs w => ?_)
  refine lv_goto hx hb dLW_waits_9 rfl ?_
  refine lv_iconst (v := nI 0) hx hb dLW_waits_15 xk_i0 ?_
  exact xa_iret C w hr hlk dLW_waits_16 (rfl) rfl hE0 hL (by omega) (by omega)
set_option maxRecDepth 100000 in
set_option maxHeartbeats 4000000 in
theorem cLW_waits_t1 (l : Launch) (D : va_G) (cA : Nat → ClassId) (tz : Nat) (I : List (Nat × Nat)) (ad : Nat → Nat → Nat) (σ : xMem) (d n g : Nat) (x0 : Int32) (h5 : (5, 0) ∈ I) (h40 : (40, 0) ∈ I) (hL : xL I n g) (hd : d ≤ 10) (hM : xTh l ySF_waits bSF_waits 5 (some .int) d [.ref (ad 5 0), .int x0] D cA tz I ad σ "java/lang/IndexOutOfBoundsException") : xH l yLW_waits bLW_waits 4 (some .int) [(0, 9, 12, 13)] 11 1 6 [.ref (ad 5 0), .int x0, .ref (ad 40 0)] D cA tz I ad σ (fun _ => some (.int (nI 1))) σ n g := by
  refine xh_of (by decide) (by simp [lg_sl, Value.category]) ?_
  intro p e s m args below meth c A ls C hr hlk hml htab hl w hz
  obtain ⟨hx, hb, hown, hts⟩ := id C
  have hl : lv_has ls 4 [(0, .ref (ad 5 0)), (1, .int x0), (2, .ref (ad 40 0))] := hl
  have hE0 := xE.rf I ad
  refine lv_aload_n hx hb dLW_waits_0 rfl (lv_at hl 2 rfl) ?_
  refine lv_iconst (v := nI 0) hx hb dLW_waits_1 xk_i0 ?_
  refine lv_aload_n hx hb dLW_waits_2 rfl (lv_at hl 0 rfl) ?_
  refine lv_iload_n hx hb dLW_waits_3 rfl (lv_at hl 1 rfl) ?_
  obtain ⟨z0, Z0, ez0, s0, e0, h0, t0, hz0⟩ := xh_tab (t := #[]) htab
  refine xh_throw C w hz hml hl.1 xk_LW_47 hM h5 rfl rfl rfl rfl (Nat.le_of_ble_eq_true rfl) (by simp only [xr_R]; omega) (by simp only [xr_R]; omega) dLW_waits_4 [] z0 Z0 ez0 (fun z hz9 => by cases hz9) (show covers z0 4 = true by unfold covers; rw [s0, e0]; decide) (by rw [t0]; decide) (by rw [t0]; exact hts _ (xmi 366 (by decide +kernel) rfl)) hz.1.2.1.1 (fun H locs q w => ?_)
  refine W.eq (g2 := F0 m 12 ls [.ref q]) (by rw [h0]) ?_
  refine lv_astore_n (lv' := [(3, .ref q), (0, .ref (ad 5 0)), (1, .int x0), (2, .ref (ad 40 0))]) hx hb dLW_waits_12 rfl hl (by decide) rfl (fun ls hl => ?_)
  refine lv_iconst (v := nI 1) hx hb dLW_waits_13 xk_i1 ?_
  exact xa_iret C w hr hlk dLW_waits_14 (rfl) rfl hE0 hL (by omega) (by omega)
set_option maxRecDepth 100000 in
set_option maxHeartbeats 4000000 in
theorem cLW_reset_ok (l : Launch) (D : va_G) (cA : Nat → ClassId) (tz : Nat) (I : List (Nat × Nat)) (ad : Nat → Nat → Nat) (σ : xMem) (d n g : Nat) (x0 : Int32) (σ1 : xMem) (v : Int32) (h5 : (5, 0) ∈ I) (h40 : (40, 0) ∈ I) (hL : xL I n g) (hd : d ≤ 10) (hM : xD l ySF_reset bSF_reset 5 (some .int) d [.ref (ad 5 0), .int x0] D cA tz I ad σ (some (.int v)) σ1) : xH l yLW_reset bLW_reset 4 (some .int) [(0, 9, 12, 13)] 11 1 6 [.ref (ad 5 0), .int x0, .ref (ad 40 0)] D cA tz I ad σ (fun _ => some (.int (nI 0))) (xu3 σ1 40 0 0 v) n g := by
  refine xh_of (by decide) (by simp [lg_sl, Value.category]) ?_
  intro p e s m args below meth c A ls C hr hlk hml htab hl w hz
  obtain ⟨hx, hb, hown, hts⟩ := id C
  have hl : lv_has ls 4 [(0, .ref (ad 5 0)), (1, .int x0), (2, .ref (ad 40 0))] := hl
  have hE0 := xE.rf I ad
  refine lv_aload_n hx hb dLW_reset_0 rfl (lv_at hl 2 rfl) ?_
  refine lv_iconst (v := nI 0) hx hb dLW_reset_1 xk_i0 ?_
  refine lv_aload_n hx hb dLW_reset_2 rfl (lv_at hl 0 rfl) ?_
  refine lv_iload_n hx hb dLW_reset_3 rfl (lv_at hl 1 rfl) ?_
  refine xd_callV C w hz hml hl.1 xk_LW_50 (hM) h5 rfl rfl rfl rfl (Nat.le_of_ble_eq_true rfl) (by simp only [xr_R]; omega) (by simp only [xr_R]; omega) dLW_reset_4 (fun H locs w => ?_)
  refine W.eq (g2 := F0 m 7 ls [.int v, .int (nI 0), .ref (ad 40 0)]) rfl ?_
  refine lv_i2l hx hb dLW_reset_7 rfl ?_
  refine xs_last C w h40 (x := v) rfl dLW_reset_8 (fun H locs w => ?_)
  refine lv_goto hx hb dLW_reset_9 rfl ?_
  refine lv_iconst (v := nI 0) hx hb dLW_reset_15 xk_i0 ?_
  exact xa_iret C w hr hlk dLW_reset_16 (rfl) rfl hE0 hL (by omega) (by omega)
set_option maxRecDepth 100000 in
set_option maxHeartbeats 4000000 in
theorem cLW_reset_t1 (l : Launch) (D : va_G) (cA : Nat → ClassId) (tz : Nat) (I : List (Nat × Nat)) (ad : Nat → Nat → Nat) (σ : xMem) (d n g : Nat) (x0 : Int32) (h5 : (5, 0) ∈ I) (h40 : (40, 0) ∈ I) (hL : xL I n g) (hd : d ≤ 10) (hM : xTh l ySF_reset bSF_reset 5 (some .int) d [.ref (ad 5 0), .int x0] D cA tz I ad σ "java/lang/IndexOutOfBoundsException") : xH l yLW_reset bLW_reset 4 (some .int) [(0, 9, 12, 13)] 11 1 6 [.ref (ad 5 0), .int x0, .ref (ad 40 0)] D cA tz I ad σ (fun _ => some (.int (nI 1))) σ n g := by
  refine xh_of (by decide) (by simp [lg_sl, Value.category]) ?_
  intro p e s m args below meth c A ls C hr hlk hml htab hl w hz
  obtain ⟨hx, hb, hown, hts⟩ := id C
  have hl : lv_has ls 4 [(0, .ref (ad 5 0)), (1, .int x0), (2, .ref (ad 40 0))] := hl
  have hE0 := xE.rf I ad
  refine lv_aload_n hx hb dLW_reset_0 rfl (lv_at hl 2 rfl) ?_
  refine lv_iconst (v := nI 0) hx hb dLW_reset_1 xk_i0 ?_
  refine lv_aload_n hx hb dLW_reset_2 rfl (lv_at hl 0 rfl) ?_
  refine lv_iload_n hx hb dLW_reset_3 rfl (lv_at hl 1 rfl) ?_
  obtain ⟨z0, Z0, ez0, s0, e0, h0, t0, hz0⟩ := xh_tab (t := #[]) htab
  refine xh_throw C w hz hml hl.1 xk_LW_50 hM h5 rfl rfl rfl rfl (Nat.le_of_ble_eq_true rfl) (by simp only [xr_R]; omega) (by simp only [xr_R]; omega) dLW_reset_4 [] z0 Z0 ez0 (fun z hz9 => by cases hz9) (show covers z0 4 = true by unfold covers; rw [s0, e0]; decide) (by rw [t0]; decide) (by rw [t0]; exact hts _ (xmi 366 (by decide +kernel) rfl)) hz.1.2.1.1 (fun H locs q w => ?_)
  refine W.eq (g2 := F0 m 12 ls [.ref q]) (by rw [h0]) ?_
  refine lv_astore_n (lv' := [(3, .ref q), (0, .ref (ad 5 0)), (1, .int x0), (2, .ref (ad 40 0))]) hx hb dLW_reset_12 rfl hl (by decide) rfl (fun ls hl => ?_)
  refine lv_iconst (v := nI 1) hx hb dLW_reset_13 xk_i1 ?_
  exact xa_iret C w hr hlk dLW_reset_14 (rfl) rfl hE0 hL (by omega) (by omega)
set_option maxRecDepth 100000 in
set_option maxHeartbeats 4000000 in
theorem cLW_credits_ok (l : Launch) (D : va_G) (cA : Nat → ClassId) (tz : Nat) (I : List (Nat × Nat)) (ad : Nat → Nat → Nat) (σ : xMem) (d n g : Nat) (x0 : Int32) (σ1 : xMem) (v : Int32) (h5 : (5, 0) ∈ I) (h40 : (40, 0) ∈ I) (hL : xL I n g) (hd : d ≤ 10) (hM : xD l ySF_credits bSF_credits 2 (some .int) d [.ref (ad 5 0), .int x0] D cA tz I ad σ (some (.int v)) σ1) : xH l yLW_credits bLW_credits 4 (some .int) [(0, 9, 12, 13)] 11 1 6 [.ref (ad 5 0), .int x0, .ref (ad 40 0)] D cA tz I ad σ (fun _ => some (.int (nI 0))) (xu3 σ1 40 0 0 v) n g := by
  refine xh_of (by decide) (by simp [lg_sl, Value.category]) ?_
  intro p e s m args below meth c A ls C hr hlk hml htab hl w hz
  obtain ⟨hx, hb, hown, hts⟩ := id C
  have hl : lv_has ls 4 [(0, .ref (ad 5 0)), (1, .int x0), (2, .ref (ad 40 0))] := hl
  have hE0 := xE.rf I ad
  refine lv_aload_n hx hb dLW_credits_0 rfl (lv_at hl 2 rfl) ?_
  refine lv_iconst (v := nI 0) hx hb dLW_credits_1 xk_i0 ?_
  refine lv_aload_n hx hb dLW_credits_2 rfl (lv_at hl 0 rfl) ?_
  refine lv_iload_n hx hb dLW_credits_3 rfl (lv_at hl 1 rfl) ?_
  refine xd_callV C w hz hml hl.1 xk_LW_53 (hM) h5 rfl rfl rfl rfl (Nat.le_of_ble_eq_true rfl) (by simp only [xr_R]; omega) (by simp only [xr_R]; omega) dLW_credits_4 (fun H locs w => ?_)
  refine W.eq (g2 := F0 m 7 ls [.int v, .int (nI 0), .ref (ad 40 0)]) rfl ?_
  refine lv_i2l hx hb dLW_credits_7 rfl ?_
  refine xs_last C w h40 (x := v) rfl dLW_credits_8 (fun H locs w => ?_)
  refine lv_goto hx hb dLW_credits_9 rfl ?_
  refine lv_iconst (v := nI 0) hx hb dLW_credits_15 xk_i0 ?_
  exact xa_iret C w hr hlk dLW_credits_16 (rfl) rfl hE0 hL (by omega) (by omega)
set_option maxRecDepth 100000 in
set_option maxHeartbeats 4000000 in
theorem cLW_credits_t1 (l : Launch) (D : va_G) (cA : Nat → ClassId) (tz : Nat) (I : List (Nat × Nat)) (ad : Nat → Nat → Nat) (σ : xMem) (d n g : Nat) (x0 : Int32) (h5 : (5, 0) ∈ I) (h40 : (40, 0) ∈ I) (hL : xL I n g) (hd : d ≤ 10) (hM : xTh l ySF_credits bSF_credits 2 (some .int) d [.ref (ad 5 0), .int x0] D cA tz I ad σ "java/lang/IndexOutOfBoundsException") : xH l yLW_credits bLW_credits 4 (some .int) [(0, 9, 12, 13)] 11 1 6 [.ref (ad 5 0), .int x0, .ref (ad 40 0)] D cA tz I ad σ (fun _ => some (.int (nI 1))) σ n g := by
  refine xh_of (by decide) (by simp [lg_sl, Value.category]) ?_
  intro p e s m args below meth c A ls C hr hlk hml htab hl w hz
  obtain ⟨hx, hb, hown, hts⟩ := id C
  have hl : lv_has ls 4 [(0, .ref (ad 5 0)), (1, .int x0), (2, .ref (ad 40 0))] := hl
  have hE0 := xE.rf I ad
  refine lv_aload_n hx hb dLW_credits_0 rfl (lv_at hl 2 rfl) ?_
  refine lv_iconst (v := nI 0) hx hb dLW_credits_1 xk_i0 ?_
  refine lv_aload_n hx hb dLW_credits_2 rfl (lv_at hl 0 rfl) ?_
  refine lv_iload_n hx hb dLW_credits_3 rfl (lv_at hl 1 rfl) ?_
  obtain ⟨z0, Z0, ez0, s0, e0, h0, t0, hz0⟩ := xh_tab (t := #[]) htab
  refine xh_throw C w hz hml hl.1 xk_LW_53 hM h5 rfl rfl rfl rfl (Nat.le_of_ble_eq_true rfl) (by simp only [xr_R]; omega) (by simp only [xr_R]; omega) dLW_credits_4 [] z0 Z0 ez0 (fun z hz9 => by cases hz9) (show covers z0 4 = true by unfold covers; rw [s0, e0]; decide) (by rw [t0]; decide) (by rw [t0]; exact hts _ (xmi 366 (by decide +kernel) rfl)) hz.1.2.1.1 (fun H locs q w => ?_)
  refine W.eq (g2 := F0 m 12 ls [.ref q]) (by rw [h0]) ?_
  refine lv_astore_n (lv' := [(3, .ref q), (0, .ref (ad 5 0)), (1, .int x0), (2, .ref (ad 40 0))]) hx hb dLW_credits_12 rfl hl (by decide) rfl (fun ls hl => ?_)
  refine lv_iconst (v := nI 1) hx hb dLW_credits_13 xk_i1 ?_
  exact xa_iret C w hr hlk dLW_credits_14 (rfl) rfl hE0 hL (by omega) (by omega)
set_option maxRecDepth 100000 in
set_option maxHeartbeats 4000000 in
theorem cLW_holder_ok (l : Launch) (D : va_G) (cA : Nat → ClassId) (tz : Nat) (I : List (Nat × Nat)) (ad : Nat → Nat → Nat) (σ : xMem) (d n g : Nat) (x0 : Int32) (σ1 : xMem) (v : Int32) (h5 : (5, 0) ∈ I) (h40 : (40, 0) ∈ I) (hL : xL I n g) (hd : d ≤ 10) (hM : xD l ySF_holder bSF_holder 2 (some .int) d [.ref (ad 5 0), .int x0] D cA tz I ad σ (some (.int v)) σ1) : xH l yLW_holder bLW_holder 4 (some .int) [(0, 9, 12, 13)] 11 1 6 [.ref (ad 5 0), .int x0, .ref (ad 40 0)] D cA tz I ad σ (fun _ => some (.int (nI 0))) (xu3 σ1 40 0 0 v) n g := by
  refine xh_of (by decide) (by simp [lg_sl, Value.category]) ?_
  intro p e s m args below meth c A ls C hr hlk hml htab hl w hz
  obtain ⟨hx, hb, hown, hts⟩ := id C
  have hl : lv_has ls 4 [(0, .ref (ad 5 0)), (1, .int x0), (2, .ref (ad 40 0))] := hl
  have hE0 := xE.rf I ad
  refine lv_aload_n hx hb dLW_holder_0 rfl (lv_at hl 2 rfl) ?_
  refine lv_iconst (v := nI 0) hx hb dLW_holder_1 xk_i0 ?_
  refine lv_aload_n hx hb dLW_holder_2 rfl (lv_at hl 0 rfl) ?_
  refine lv_iload_n hx hb dLW_holder_3 rfl (lv_at hl 1 rfl) ?_
  refine xd_callV C w hz hml hl.1 xk_LW_56 (hM) h5 rfl rfl rfl rfl (Nat.le_of_ble_eq_true rfl) (by simp only [xr_R]; omega) (by simp only [xr_R]; omega) dLW_holder_4 (fun H locs w => ?_)
  refine W.eq (g2 := F0 m 7 ls [.int v, .int (nI 0), .ref (ad 40 0)]) rfl ?_
  refine lv_i2l hx hb dLW_holder_7 rfl ?_
  refine xs_last C w h40 (x := v) rfl dLW_holder_8 (fun H locs w => ?_)
  refine lv_goto hx hb dLW_holder_9 rfl ?_
  refine lv_iconst (v := nI 0) hx hb dLW_holder_15 xk_i0 ?_
  exact xa_iret C w hr hlk dLW_holder_16 (rfl) rfl hE0 hL (by omega) (by omega)
set_option maxRecDepth 100000 in
set_option maxHeartbeats 4000000 in
theorem cLW_holder_t1 (l : Launch) (D : va_G) (cA : Nat → ClassId) (tz : Nat) (I : List (Nat × Nat)) (ad : Nat → Nat → Nat) (σ : xMem) (d n g : Nat) (x0 : Int32) (h5 : (5, 0) ∈ I) (h40 : (40, 0) ∈ I) (hL : xL I n g) (hd : d ≤ 10) (hM : xTh l ySF_holder bSF_holder 2 (some .int) d [.ref (ad 5 0), .int x0] D cA tz I ad σ "java/lang/IndexOutOfBoundsException") : xH l yLW_holder bLW_holder 4 (some .int) [(0, 9, 12, 13)] 11 1 6 [.ref (ad 5 0), .int x0, .ref (ad 40 0)] D cA tz I ad σ (fun _ => some (.int (nI 1))) σ n g := by
  refine xh_of (by decide) (by simp [lg_sl, Value.category]) ?_
  intro p e s m args below meth c A ls C hr hlk hml htab hl w hz
  obtain ⟨hx, hb, hown, hts⟩ := id C
  have hl : lv_has ls 4 [(0, .ref (ad 5 0)), (1, .int x0), (2, .ref (ad 40 0))] := hl
  have hE0 := xE.rf I ad
  refine lv_aload_n hx hb dLW_holder_0 rfl (lv_at hl 2 rfl) ?_
  refine lv_iconst (v := nI 0) hx hb dLW_holder_1 xk_i0 ?_
  refine lv_aload_n hx hb dLW_holder_2 rfl (lv_at hl 0 rfl) ?_
  refine lv_iload_n hx hb dLW_holder_3 rfl (lv_at hl 1 rfl) ?_
  obtain ⟨z0, Z0, ez0, s0, e0, h0, t0, hz0⟩ := xh_tab (t := #[]) htab
  refine xh_throw C w hz hml hl.1 xk_LW_56 hM h5 rfl rfl rfl rfl (Nat.le_of_ble_eq_true rfl) (by simp only [xr_R]; omega) (by simp only [xr_R]; omega) dLW_holder_4 [] z0 Z0 ez0 (fun z hz9 => by cases hz9) (show covers z0 4 = true by unfold covers; rw [s0, e0]; decide) (by rw [t0]; decide) (by rw [t0]; exact hts _ (xmi 366 (by decide +kernel) rfl)) hz.1.2.1.1 (fun H locs q w => ?_)
  refine W.eq (g2 := F0 m 12 ls [.ref q]) (by rw [h0]) ?_
  refine lv_astore_n (lv' := [(3, .ref q), (0, .ref (ad 5 0)), (1, .int x0), (2, .ref (ad 40 0))]) hx hb dLW_holder_12 rfl hl (by decide) rfl (fun ls hl => ?_)
  refine lv_iconst (v := nI 1) hx hb dLW_holder_13 xk_i1 ?_
  exact xa_iret C w hr hlk dLW_holder_14 (rfl) rfl hE0 hL (by omega) (by omega)
set_option maxRecDepth 100000 in
set_option maxHeartbeats 4000000 in
theorem cLW_memory_ok (l : Launch) (D : va_G) (cA : Nat → ClassId) (tz : Nat) (I : List (Nat × Nat)) (ad : Nat → Nat → Nat) (σ : xMem) (d n g : Nat) (x0 : Int32) (σ1 : xMem) (v : Int32) (h5 : (5, 0) ∈ I) (h40 : (40, 0) ∈ I) (hL : xL I n g) (hd : d ≤ 10) (hM : xD l ySF_memory bSF_memory 2 (some .int) d [.ref (ad 5 0), .int x0] D cA tz I ad σ (some (.int v)) σ1) : xH l yLW_memory bLW_memory 4 (some .int) [(0, 9, 12, 13)] 11 1 6 [.ref (ad 5 0), .int x0, .ref (ad 40 0)] D cA tz I ad σ (fun _ => some (.int (nI 0))) (xu3 σ1 40 0 0 v) n g := by
  refine xh_of (by decide) (by simp [lg_sl, Value.category]) ?_
  intro p e s m args below meth c A ls C hr hlk hml htab hl w hz
  obtain ⟨hx, hb, hown, hts⟩ := id C
  have hl : lv_has ls 4 [(0, .ref (ad 5 0)), (1, .int x0), (2, .ref (ad 40 0))] := hl
  have hE0 := xE.rf I ad
  refine lv_aload_n hx hb dLW_memory_0 rfl (lv_at hl 2 rfl) ?_
  refine lv_iconst (v := nI 0) hx hb dLW_memory_1 xk_i0 ?_
  refine lv_aload_n hx hb dLW_memory_2 rfl (lv_at hl 0 rfl) ?_
  refine lv_iload_n hx hb dLW_memory_3 rfl (lv_at hl 1 rfl) ?_
  refine xd_callV C w hz hml hl.1 xk_LW_59 (hM) h5 rfl rfl rfl rfl (Nat.le_of_ble_eq_true rfl) (by simp only [xr_R]; omega) (by simp only [xr_R]; omega) dLW_memory_4 (fun H locs w => ?_)
  refine W.eq (g2 := F0 m 7 ls [.int v, .int (nI 0), .ref (ad 40 0)]) rfl ?_
  refine lv_i2l hx hb dLW_memory_7 rfl ?_
  refine xs_last C w h40 (x := v) rfl dLW_memory_8 (fun H locs w => ?_)
  refine lv_goto hx hb dLW_memory_9 rfl ?_
  refine lv_iconst (v := nI 0) hx hb dLW_memory_15 xk_i0 ?_
  exact xa_iret C w hr hlk dLW_memory_16 (rfl) rfl hE0 hL (by omega) (by omega)
set_option maxRecDepth 100000 in
set_option maxHeartbeats 4000000 in
theorem cLW_memory_t1 (l : Launch) (D : va_G) (cA : Nat → ClassId) (tz : Nat) (I : List (Nat × Nat)) (ad : Nat → Nat → Nat) (σ : xMem) (d n g : Nat) (x0 : Int32) (h5 : (5, 0) ∈ I) (h40 : (40, 0) ∈ I) (hL : xL I n g) (hd : d ≤ 10) (hM : xTh l ySF_memory bSF_memory 2 (some .int) d [.ref (ad 5 0), .int x0] D cA tz I ad σ "java/lang/IndexOutOfBoundsException") : xH l yLW_memory bLW_memory 4 (some .int) [(0, 9, 12, 13)] 11 1 6 [.ref (ad 5 0), .int x0, .ref (ad 40 0)] D cA tz I ad σ (fun _ => some (.int (nI 1))) σ n g := by
  refine xh_of (by decide) (by simp [lg_sl, Value.category]) ?_
  intro p e s m args below meth c A ls C hr hlk hml htab hl w hz
  obtain ⟨hx, hb, hown, hts⟩ := id C
  have hl : lv_has ls 4 [(0, .ref (ad 5 0)), (1, .int x0), (2, .ref (ad 40 0))] := hl
  have hE0 := xE.rf I ad
  refine lv_aload_n hx hb dLW_memory_0 rfl (lv_at hl 2 rfl) ?_
  refine lv_iconst (v := nI 0) hx hb dLW_memory_1 xk_i0 ?_
  refine lv_aload_n hx hb dLW_memory_2 rfl (lv_at hl 0 rfl) ?_
  refine lv_iload_n hx hb dLW_memory_3 rfl (lv_at hl 1 rfl) ?_
  obtain ⟨z0, Z0, ez0, s0, e0, h0, t0, hz0⟩ := xh_tab (t := #[]) htab
  refine xh_throw C w hz hml hl.1 xk_LW_59 hM h5 rfl rfl rfl rfl (Nat.le_of_ble_eq_true rfl) (by simp only [xr_R]; omega) (by simp only [xr_R]; omega) dLW_memory_4 [] z0 Z0 ez0 (fun z hz9 => by cases hz9) (show covers z0 4 = true by unfold covers; rw [s0, e0]; decide) (by rw [t0]; decide) (by rw [t0]; exact hts _ (xmi 366 (by decide +kernel) rfl)) hz.1.2.1.1 (fun H locs q w => ?_)
  refine W.eq (g2 := F0 m 12 ls [.ref q]) (by rw [h0]) ?_
  refine lv_astore_n (lv' := [(3, .ref q), (0, .ref (ad 5 0)), (1, .int x0), (2, .ref (ad 40 0))]) hx hb dLW_memory_12 rfl hl (by decide) rfl (fun ls hl => ?_)
  refine lv_iconst (v := nI 1) hx hb dLW_memory_13 xk_i1 ?_
  exact xa_iret C w hr hlk dLW_memory_14 (rfl) rfl hE0 hL (by omega) (by omega)
set_option maxRecDepth 100000 in
set_option maxHeartbeats 4000000 in
theorem cLW_service_ok (l : Launch) (D : va_G) (cA : Nat → ClassId) (tz : Nat) (I : List (Nat × Nat)) (ad : Nat → Nat → Nat) (σ : xMem) (d n g : Nat) (x0 x1 : Int32) (σ1 : xMem) (v : Int32) (h5 : (5, 0) ∈ I) (h40 : (40, 0) ∈ I) (hL : xL I n g) (hd : d ≤ 10) (hM : xD l ySF_service bSF_service 3 (some .int) d [.ref (ad 5 0), .int x0, .int x1] D cA tz I ad σ (some (.int v)) σ1) : xH l yLW_service bLW_service 5 (some .int) [(0, 10, 13, 13), (0, 10, 17, 19)] 11 1 6 [.ref (ad 5 0), .int x0, .int x1, .ref (ad 40 0)] D cA tz I ad σ (fun _ => some (.int (nI 0))) (xu3 σ1 40 0 0 v) n g := by
  refine xh_of (by decide) (by simp [lg_sl, Value.category]) ?_
  intro p e s m args below meth c A ls C hr hlk hml htab hl w hz
  obtain ⟨hx, hb, hown, hts⟩ := id C
  have hl : lv_has ls 5 [(0, .ref (ad 5 0)), (1, .int x0), (2, .int x1), (3, .ref (ad 40 0))] := hl
  have hE0 := xE.rf I ad
  refine lv_aload_n hx hb dLW_service_0 rfl (lv_at hl 3 rfl) ?_
  refine lv_iconst (v := nI 0) hx hb dLW_service_1 xk_i0 ?_
  refine lv_aload_n hx hb dLW_service_2 rfl (lv_at hl 0 rfl) ?_
  refine lv_iload_n hx hb dLW_service_3 rfl (lv_at hl 1 rfl) ?_
  refine lv_iload_n hx hb dLW_service_4 rfl (lv_at hl 2 rfl) ?_
  refine xd_callV C w hz hml hl.1 xk_LW_62 (hM) h5 rfl rfl rfl rfl (Nat.le_of_ble_eq_true rfl) (by simp only [xr_R]; omega) (by simp only [xr_R]; omega) dLW_service_5 (fun H locs w => ?_)
  refine W.eq (g2 := F0 m 8 ls [.int v, .int (nI 0), .ref (ad 40 0)]) rfl ?_
  refine lv_i2l hx hb dLW_service_8 rfl ?_
  refine xs_last C w h40 (x := v) rfl dLW_service_9 (fun H locs w => ?_)
  refine lv_goto hx hb dLW_service_10 rfl ?_
  refine lv_iconst (v := nI 0) hx hb dLW_service_21 xk_i0 ?_
  exact xa_iret C w hr hlk dLW_service_22 (rfl) rfl hE0 hL (by omega) (by omega)
set_option maxRecDepth 100000 in
set_option maxHeartbeats 4000000 in
theorem cLW_service_t1 (l : Launch) (D : va_G) (cA : Nat → ClassId) (tz : Nat) (I : List (Nat × Nat)) (ad : Nat → Nat → Nat) (σ : xMem) (d n g : Nat) (x0 x1 : Int32) (h5 : (5, 0) ∈ I) (h40 : (40, 0) ∈ I) (hL : xL I n g) (hd : d ≤ 10) (hM : xTh l ySF_service bSF_service 3 (some .int) d [.ref (ad 5 0), .int x0, .int x1] D cA tz I ad σ "java/lang/IndexOutOfBoundsException") : xH l yLW_service bLW_service 5 (some .int) [(0, 10, 13, 13), (0, 10, 17, 19)] 11 1 6 [.ref (ad 5 0), .int x0, .int x1, .ref (ad 40 0)] D cA tz I ad σ (fun _ => some (.int (nI 1))) σ n g := by
  refine xh_of (by decide) (by simp [lg_sl, Value.category]) ?_
  intro p e s m args below meth c A ls C hr hlk hml htab hl w hz
  obtain ⟨hx, hb, hown, hts⟩ := id C
  have hl : lv_has ls 5 [(0, .ref (ad 5 0)), (1, .int x0), (2, .int x1), (3, .ref (ad 40 0))] := hl
  have hE0 := xE.rf I ad
  refine lv_aload_n hx hb dLW_service_0 rfl (lv_at hl 3 rfl) ?_
  refine lv_iconst (v := nI 0) hx hb dLW_service_1 xk_i0 ?_
  refine lv_aload_n hx hb dLW_service_2 rfl (lv_at hl 0 rfl) ?_
  refine lv_iload_n hx hb dLW_service_3 rfl (lv_at hl 1 rfl) ?_
  refine lv_iload_n hx hb dLW_service_4 rfl (lv_at hl 2 rfl) ?_
  obtain ⟨z0, Z0, ez0, s0, e0, h0, t0, hz0⟩ := xh_tab (t := #[]) htab
  obtain ⟨z1, Z1, ez1, s1, e1, h1, t1, hz1⟩ := xh_tab (t := #[]) hz0
  refine xh_throw C w hz hml hl.1 xk_LW_62 hM h5 rfl rfl rfl rfl (Nat.le_of_ble_eq_true rfl) (by simp only [xr_R]; omega) (by simp only [xr_R]; omega) dLW_service_5 [] z0 Z0 ez0 (fun z hz9 => by cases hz9) (show covers z0 5 = true by unfold covers; rw [s0, e0]; decide) (by rw [t0]; decide) (by rw [t0]; exact hts _ (xmi 366 (by decide +kernel) rfl)) hz.1.2.1.1 (fun H locs q w => ?_)
  refine W.eq (g2 := F0 m 13 ls [.ref q]) (by rw [h0]) ?_
  refine lv_astore (lv' := [(4, .ref q), (0, .ref (ad 5 0)), (1, .int x0), (2, .int x1), (3, .ref (ad 40 0))]) hx hb dLW_service_13 hl (by decide) rfl (fun ls hl => ?_)
  refine lv_iconst (v := nI 1) hx hb dLW_service_15 xk_i1 ?_
  exact xa_iret C w hr hlk dLW_service_16 (rfl) rfl hE0 hL (by omega) (by omega)
set_option maxRecDepth 100000 in
set_option maxHeartbeats 4000000 in
theorem cLW_service_t2 (l : Launch) (D : va_G) (cA : Nat → ClassId) (tz : Nat) (I : List (Nat × Nat)) (ad : Nat → Nat → Nat) (σ : xMem) (d n g : Nat) (x0 x1 : Int32) (h5 : (5, 0) ∈ I) (h40 : (40, 0) ∈ I) (hL : xL I n g) (hd : d ≤ 10) (hM : xTh l ySF_service bSF_service 3 (some .int) d [.ref (ad 5 0), .int x0, .int x1] D cA tz I ad σ "java/lang/IllegalArgumentException") : xH l yLW_service bLW_service 5 (some .int) [(0, 10, 13, 13), (0, 10, 17, 19)] 11 1 6 [.ref (ad 5 0), .int x0, .int x1, .ref (ad 40 0)] D cA tz I ad σ (fun _ => some (.int (nI 2))) σ n g := by
  refine xh_of (by decide) (by simp [lg_sl, Value.category]) ?_
  intro p e s m args below meth c A ls C hr hlk hml htab hl w hz
  obtain ⟨hx, hb, hown, hts⟩ := id C
  have hl : lv_has ls 5 [(0, .ref (ad 5 0)), (1, .int x0), (2, .int x1), (3, .ref (ad 40 0))] := hl
  have hE0 := xE.rf I ad
  refine lv_aload_n hx hb dLW_service_0 rfl (lv_at hl 3 rfl) ?_
  refine lv_iconst (v := nI 0) hx hb dLW_service_1 xk_i0 ?_
  refine lv_aload_n hx hb dLW_service_2 rfl (lv_at hl 0 rfl) ?_
  refine lv_iload_n hx hb dLW_service_3 rfl (lv_at hl 1 rfl) ?_
  refine lv_iload_n hx hb dLW_service_4 rfl (lv_at hl 2 rfl) ?_
  obtain ⟨z0, Z0, ez0, s0, e0, h0, t0, hz0⟩ := xh_tab (t := #[]) htab
  obtain ⟨z1, Z1, ez1, s1, e1, h1, t1, hz1⟩ := xh_tab (t := #[]) hz0
  rw [ez1] at ez0
  refine xh_throw C w hz hml hl.1 xk_LW_62 hM h5 rfl rfl rfl rfl (Nat.le_of_ble_eq_true rfl) (by simp only [xr_R]; omega) (by simp only [xr_R]; omega) dLW_service_5 [z0] z1 Z1 ez0 (fun z hz9 => by rw [List.mem_singleton] at hz9; rw [hz9]; exact Or.inr ⟨(show covers z0 5 = true by unfold covers; rw [s0, e0]; decide), (by rw [t0]; decide), "java/lang/IndexOutOfBoundsException", (by rw [t0]; exact hts _ (xmi 366 (by decide +kernel) rfl)), hz.1.1.1⟩) (show covers z1 5 = true by unfold covers; rw [s1, e1]; decide) (by rw [t1]; decide) (by rw [t1]; exact hts _ (xmi 440 (by decide +kernel) rfl)) hz.1.2.1.2.1 (fun H locs q w => ?_)
  refine W.eq (g2 := F0 m 17 ls [.ref q]) (by rw [h1]) ?_
  refine lv_astore (lv' := [(4, .ref q), (0, .ref (ad 5 0)), (1, .int x0), (2, .int x1), (3, .ref (ad 40 0))]) hx hb dLW_service_17 hl (by decide) rfl (fun ls hl => ?_)
  refine lv_iconst (v := nI 2) hx hb dLW_service_19 xk_i2 ?_
  exact xa_iret C w hr hlk dLW_service_20 (rfl) rfl hE0 hL (by omega) (by omega)
