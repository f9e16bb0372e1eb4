/-! decode rows: SplitFabric -/
theorem dSF_init_0 : decode bSF_init 0 = .ok (.aload_n 0, 1) := by decide +kernel
theorem dSF_init_1 : decode bSF_init 1 = .ok (.invokespecial 3, 3) := by decide +kernel
theorem dSF_init_4 : decode bSF_init 4 = .ok (.aload_n 0, 1) := by decide +kernel
theorem dSF_init_5 : decode bSF_init 5 = .ok (.bipush 16, 2) := by decide +kernel
theorem dSF_init_7 : decode bSF_init 7 = .ok (.anewarray 9, 3) := by decide +kernel
theorem dSF_init_10 : decode bSF_init 10 = .ok (.putfield 11, 3) := by decide +kernel
theorem dSF_init_13 : decode bSF_init 13 = .ok (.aload_n 0, 1) := by decide +kernel
theorem dSF_init_14 : decode bSF_init 14 = .ok (.iconst 3, 1) := by decide +kernel
theorem dSF_init_15 : decode bSF_init 15 = .ok (.anewarray 15, 3) := by decide +kernel
theorem dSF_init_18 : decode bSF_init 18 = .ok (.putfield 17, 3) := by decide +kernel
theorem dSF_init_21 : decode bSF_init 21 = .ok (.aload_n 0, 1) := by decide +kernel
theorem dSF_init_22 : decode bSF_init 22 = .ok (.bipush 48, 2) := by decide +kernel
theorem dSF_init_24 : decode bSF_init 24 = .ok (.newarray .int, 2) := by decide +kernel
theorem dSF_init_26 : decode bSF_init 26 = .ok (.putfield 21, 3) := by decide +kernel
theorem dSF_init_29 : decode bSF_init 29 = .ok (.aload_n 0, 1) := by decide +kernel
theorem dSF_init_30 : decode bSF_init 30 = .ok (.iconst 4, 1) := by decide +kernel
theorem dSF_init_31 : decode bSF_init 31 = .ok (.iconst 4, 1) := by decide +kernel
theorem dSF_init_32 : decode bSF_init 32 = .ok (.multianewarray 25 2, 4) := by decide +kernel
theorem dSF_init_36 : decode bSF_init 36 = .ok (.putfield 27, 3) := by decide +kernel
theorem dSF_init_39 : decode bSF_init 39 = .ok (.aload_n 0, 1) := by decide +kernel
theorem dSF_init_40 : decode bSF_init 40 = .ok (.iconst 4, 1) := by decide +kernel
theorem dSF_init_41 : decode bSF_init 41 = .ok (.newarray .int, 2) := by decide +kernel
theorem dSF_init_43 : decode bSF_init 43 = .ok (.putfield 30, 3) := by decide +kernel
theorem dSF_init_46 : decode bSF_init 46 = .ok (.aload_n 0, 1) := by decide +kernel
theorem dSF_init_47 : decode bSF_init 47 = .ok (.new 33, 3) := by decide +kernel
theorem dSF_init_50 : decode bSF_init 50 = .ok (.dup, 1) := by decide +kernel
theorem dSF_init_51 : decode bSF_init 51 = .ok (.invokespecial 35, 3) := by decide +kernel
theorem dSF_init_54 : decode bSF_init 54 = .ok (.putfield 36, 3) := by decide +kernel
theorem dSF_init_57 : decode bSF_init 57 = .ok (.aload_n 0, 1) := by decide +kernel
theorem dSF_init_58 : decode bSF_init 58 = .ok (.iconst 0, 1) := by decide +kernel
theorem dSF_init_59 : decode bSF_init 59 = .ok (.putfield 40, 3) := by decide +kernel
theorem dSF_init_62 : decode bSF_init 62 = .ok (.aload_n 0, 1) := by decide +kernel
theorem dSF_init_63 : decode bSF_init 63 = .ok (.iconst 0, 1) := by decide +kernel
theorem dSF_init_64 : decode bSF_init 64 = .ok (.putfield 44, 3) := by decide +kernel
theorem dSF_init_67 : decode bSF_init 67 = .ok (.aload_n 0, 1) := by decide +kernel
theorem dSF_init_68 : decode bSF_init 68 = .ok (.iconst 3, 1) := by decide +kernel
theorem dSF_init_69 : decode bSF_init 69 = .ok (.putfield 47, 3) := by decide +kernel
theorem dSF_init_72 : decode bSF_init 72 = .ok (.aload_n 0, 1) := by decide +kernel
theorem dSF_init_73 : decode bSF_init 73 = .ok (.bipush 15, 2) := by decide +kernel
theorem dSF_init_75 : decode bSF_init 75 = .ok (.putfield 50, 3) := by decide +kernel
theorem dSF_init_78 : decode bSF_init 78 = .ok (.iconst 0, 1) := by decide +kernel
theorem dSF_init_79 : decode bSF_init 79 = .ok (.istore_n 1, 1) := by decide +kernel
theorem dSF_init_80 : decode bSF_init 80 = .ok (.iload_n 1, 1) := by decide +kernel
theorem dSF_init_81 : decode bSF_init 81 = .ok (.bipush 16, 2) := by decide +kernel
theorem dSF_init_83 : decode bSF_init 83 = .ok (.if_icmp .ge 28, 3) := by decide +kernel
theorem dSF_init_86 : decode bSF_init 86 = .ok (.aload_n 0, 1) := by decide +kernel
theorem dSF_init_87 : decode bSF_init 87 = .ok (.getfield 11, 3) := by decide +kernel
theorem dSF_init_90 : decode bSF_init 90 = .ok (.iload_n 1, 1) := by decide +kernel
theorem dSF_init_91 : decode bSF_init 91 = .ok (.new 9, 3) := by decide +kernel
theorem dSF_init_94 : decode bSF_init 94 = .ok (.dup, 1) := by decide +kernel
theorem dSF_init_95 : decode bSF_init 95 = .ok (.iload_n 1, 1) := by decide +kernel
theorem dSF_init_96 : decode bSF_init 96 = .ok (.iconst 4, 1) := by decide +kernel
theorem dSF_init_97 : decode bSF_init 97 = .ok (.idiv, 1) := by decide +kernel
theorem dSF_init_98 : decode bSF_init 98 = .ok (.iload_n 1, 1) := by decide +kernel
theorem dSF_init_99 : decode bSF_init 99 = .ok (.iconst 4, 1) := by decide +kernel
theorem dSF_init_100 : decode bSF_init 100 = .ok (.irem, 1) := by decide +kernel
theorem dSF_init_101 : decode bSF_init 101 = .ok (.invokespecial 53, 3) := by decide +kernel
theorem dSF_init_104 : decode bSF_init 104 = .ok (.aastore, 1) := by decide +kernel
theorem dSF_init_105 : decode bSF_init 105 = .ok (.iinc 1 1, 3) := by decide +kernel
theorem dSF_init_108 : decode bSF_init 108 = .ok (.goto (-28), 3) := by decide +kernel
theorem dSF_init_111 : decode bSF_init 111 = .ok (.iconst 0, 1) := by decide +kernel
theorem dSF_init_112 : decode bSF_init 112 = .ok (.istore_n 1, 1) := by decide +kernel
theorem dSF_init_113 : decode bSF_init 113 = .ok (.iload_n 1, 1) := by decide +kernel
theorem dSF_init_114 : decode bSF_init 114 = .ok (.iconst 3, 1) := by decide +kernel
theorem dSF_init_115 : decode bSF_init 115 = .ok (.if_icmp .ge 22, 3) := by decide +kernel
theorem dSF_init_118 : decode bSF_init 118 = .ok (.aload_n 0, 1) := by decide +kernel
theorem dSF_init_119 : decode bSF_init 119 = .ok (.getfield 17, 3) := by decide +kernel
theorem dSF_init_122 : decode bSF_init 122 = .ok (.iload_n 1, 1) := by decide +kernel
theorem dSF_init_123 : decode bSF_init 123 = .ok (.new 15, 3) := by decide +kernel
theorem dSF_init_126 : decode bSF_init 126 = .ok (.dup, 1) := by decide +kernel
theorem dSF_init_127 : decode bSF_init 127 = .ok (.invokespecial 56, 3) := by decide +kernel
theorem dSF_init_130 : decode bSF_init 130 = .ok (.aastore, 1) := by decide +kernel
theorem dSF_init_131 : decode bSF_init 131 = .ok (.iinc 1 1, 3) := by decide +kernel
theorem dSF_init_134 : decode bSF_init 134 = .ok (.goto (-21), 3) := by decide +kernel
theorem dSF_init_137 : decode bSF_init 137 = .ok (.return_, 1) := by decide +kernel
theorem dSF_cycle_0 : decode bSF_cycle 0 = .ok (.aload_n 0, 1) := by decide +kernel
theorem dSF_cycle_1 : decode bSF_cycle 1 = .ok (.dup, 1) := by decide +kernel
theorem dSF_cycle_2 : decode bSF_cycle 2 = .ok (.getfield 40, 3) := by decide +kernel
theorem dSF_cycle_5 : decode bSF_cycle 5 = .ok (.iconst 1, 1) := by decide +kernel
theorem dSF_cycle_6 : decode bSF_cycle 6 = .ok (.iadd, 1) := by decide +kernel
theorem dSF_cycle_7 : decode bSF_cycle 7 = .ok (.putfield 40, 3) := by decide +kernel
theorem dSF_cycle_10 : decode bSF_cycle 10 = .ok (.aload_n 0, 1) := by decide +kernel
theorem dSF_cycle_11 : decode bSF_cycle 11 = .ok (.invokevirtual 98, 3) := by decide +kernel
theorem dSF_cycle_14 : decode bSF_cycle 14 = .ok (.aload_n 0, 1) := by decide +kernel
theorem dSF_cycle_15 : decode bSF_cycle 15 = .ok (.invokevirtual 101, 3) := by decide +kernel
theorem dSF_cycle_18 : decode bSF_cycle 18 = .ok (.aload_n 0, 1) := by decide +kernel
theorem dSF_cycle_19 : decode bSF_cycle 19 = .ok (.invokevirtual 104, 3) := by decide +kernel
theorem dSF_cycle_22 : decode bSF_cycle 22 = .ok (.astore_n 1, 1) := by decide +kernel
theorem dSF_cycle_23 : decode bSF_cycle 23 = .ok (.aload_n 1, 1) := by decide +kernel
theorem dSF_cycle_24 : decode bSF_cycle 24 = .ok (.ifnull 8, 3) := by decide +kernel
theorem dSF_cycle_27 : decode bSF_cycle 27 = .ok (.aload_n 0, 1) := by decide +kernel
theorem dSF_cycle_28 : decode bSF_cycle 28 = .ok (.aload_n 1, 1) := by decide +kernel
theorem dSF_cycle_29 : decode bSF_cycle 29 = .ok (.invokevirtual 108, 3) := by decide +kernel
theorem dSF_cycle_32 : decode bSF_cycle 32 = .ok (.aload_n 0, 1) := by decide +kernel
theorem dSF_cycle_33 : decode bSF_cycle 33 = .ok (.invokevirtual 112, 3) := by decide +kernel
theorem dSF_cycle_36 : decode bSF_cycle 36 = .ok (.aload_n 1, 1) := by decide +kernel
theorem dSF_cycle_37 : decode bSF_cycle 37 = .ok (.ifnonnull 7, 3) := by decide +kernel
theorem dSF_cycle_40 : decode bSF_cycle 40 = .ok (.iconst (-1), 1) := by decide +kernel
theorem dSF_cycle_41 : decode bSF_cycle 41 = .ok (.goto 7, 3) := by decide +kernel
theorem dSF_cycle_44 : decode bSF_cycle 44 = .ok (.aload_n 1, 1) := by decide +kernel
theorem dSF_cycle_45 : decode bSF_cycle 45 = .ok (.getfield 115, 3) := by decide +kernel
theorem dSF_cycle_48 : decode bSF_cycle 48 = .ok (.ireturn, 1) := by decide +kernel
theorem dSF_serveTargets_0 : decode bSF_serveTargets 0 = .ok (.iconst 0, 1) := by decide +kernel
theorem dSF_serveTargets_1 : decode bSF_serveTargets 1 = .ok (.istore_n 1, 1) := by decide +kernel
theorem dSF_serveTargets_2 : decode bSF_serveTargets 2 = .ok (.iload_n 1, 1) := by decide +kernel
theorem dSF_serveTargets_3 : decode bSF_serveTargets 3 = .ok (.iconst 3, 1) := by decide +kernel
theorem dSF_serveTargets_4 : decode bSF_serveTargets 4 = .ok (.if_icmp .ge 51, 3) := by decide +kernel
theorem dSF_serveTargets_7 : decode bSF_serveTargets 7 = .ok (.aload_n 0, 1) := by decide +kernel
theorem dSF_serveTargets_8 : decode bSF_serveTargets 8 = .ok (.getfield 17, 3) := by decide +kernel
theorem dSF_serveTargets_11 : decode bSF_serveTargets 11 = .ok (.iload_n 1, 1) := by decide +kernel
theorem dSF_serveTargets_12 : decode bSF_serveTargets 12 = .ok (.aaload, 1) := by decide +kernel
theorem dSF_serveTargets_13 : decode bSF_serveTargets 13 = .ok (.getfield 94, 3) := by decide +kernel
theorem dSF_serveTargets_16 : decode bSF_serveTargets 16 = .ok (.ifCond .eq 33, 3) := by decide +kernel
theorem dSF_serveTargets_19 : decode bSF_serveTargets 19 = .ok (.aload_n 0, 1) := by decide +kernel
theorem dSF_serveTargets_20 : decode bSF_serveTargets 20 = .ok (.getfield 17, 3) := by decide +kernel
theorem dSF_serveTargets_23 : decode bSF_serveTargets 23 = .ok (.iload_n 1, 1) := by decide +kernel
theorem dSF_serveTargets_24 : decode bSF_serveTargets 24 = .ok (.aaload, 1) := by decide +kernel
theorem dSF_serveTargets_25 : decode bSF_serveTargets 25 = .ok (.getfield 176, 3) := by decide +kernel
theorem dSF_serveTargets_28 : decode bSF_serveTargets 28 = .ok (.ifCond .le 21, 3) := by decide +kernel
theorem dSF_serveTargets_31 : decode bSF_serveTargets 31 = .ok (.aload_n 0, 1) := by decide +kernel
theorem dSF_serveTargets_32 : decode bSF_serveTargets 32 = .ok (.aload_n 0, 1) := by decide +kernel
theorem dSF_serveTargets_33 : decode bSF_serveTargets 33 = .ok (.getfield 11, 3) := by decide +kernel
theorem dSF_serveTargets_36 : decode bSF_serveTargets 36 = .ok (.aload_n 0, 1) := by decide +kernel
theorem dSF_serveTargets_37 : decode bSF_serveTargets 37 = .ok (.getfield 17, 3) := by decide +kernel
theorem dSF_serveTargets_40 : decode bSF_serveTargets 40 = .ok (.iload_n 1, 1) := by decide +kernel
theorem dSF_serveTargets_41 : decode bSF_serveTargets 41 = .ok (.aaload, 1) := by decide +kernel
theorem dSF_serveTargets_42 : decode bSF_serveTargets 42 = .ok (.invokevirtual 179, 3) := by decide +kernel
theorem dSF_serveTargets_45 : decode bSF_serveTargets 45 = .ok (.aaload, 1) := by decide +kernel
theorem dSF_serveTargets_46 : decode bSF_serveTargets 46 = .ok (.invokevirtual 182, 3) := by decide +kernel
theorem dSF_serveTargets_49 : decode bSF_serveTargets 49 = .ok (.iinc 1 1, 3) := by decide +kernel
theorem dSF_serveTargets_52 : decode bSF_serveTargets 52 = .ok (.goto (-50), 3) := by decide +kernel
theorem dSF_serveTargets_55 : decode bSF_serveTargets 55 = .ok (.return_, 1) := by decide +kernel
theorem dSF_serve_0 : decode bSF_serve 0 = .ok (.aload_n 0, 1) := by decide +kernel
theorem dSF_serve_1 : decode bSF_serve 1 = .ok (.getfield 36, 3) := by decide +kernel
theorem dSF_serve_4 : decode bSF_serve 4 = .ok (.invokevirtual 148, 3) := by decide +kernel
theorem dSF_serve_7 : decode bSF_serve 7 = .ok (.sipush 512, 3) := by decide +kernel
theorem dSF_serve_10 : decode bSF_serve 10 = .ok (.if_icmp .ge 23, 3) := by decide +kernel
theorem dSF_serve_13 : decode bSF_serve 13 = .ok (.aload_n 0, 1) := by decide +kernel
theorem dSF_serve_14 : decode bSF_serve 14 = .ok (.getfield 36, 3) := by decide +kernel
theorem dSF_serve_17 : decode bSF_serve 17 = .ok (.new 155, 3) := by decide +kernel
theorem dSF_serve_20 : decode bSF_serve 20 = .ok (.dup, 1) := by decide +kernel
theorem dSF_serve_21 : decode bSF_serve 21 = .ok (.aload_n 1, 1) := by decide +kernel
theorem dSF_serve_22 : decode bSF_serve 22 = .ok (.aload_n 0, 1) := by decide +kernel
theorem dSF_serve_23 : decode bSF_serve 23 = .ok (.getfield 40, 3) := by decide +kernel
theorem dSF_serve_26 : decode bSF_serve 26 = .ok (.invokespecial 185, 3) := by decide +kernel
theorem dSF_serve_29 : decode bSF_serve 29 = .ok (.invokevirtual 188, 3) := by decide +kernel
theorem dSF_serve_32 : decode bSF_serve 32 = .ok (.pop, 1) := by decide +kernel
theorem dSF_serve_33 : decode bSF_serve 33 = .ok (.aload_n 1, 1) := by decide +kernel
theorem dSF_serve_34 : decode bSF_serve 34 = .ok (.invokevirtual 125, 3) := by decide +kernel
theorem dSF_serve_37 : decode bSF_serve 37 = .ok (.ifCond .eq 23, 3) := by decide +kernel
theorem dSF_serve_40 : decode bSF_serve 40 = .ok (.aload_n 1, 1) := by decide +kernel
theorem dSF_serve_41 : decode bSF_serve 41 = .ok (.aload_n 0, 1) := by decide +kernel
theorem dSF_serve_42 : decode bSF_serve 42 = .ok (.getfield 21, 3) := by decide +kernel
theorem dSF_serve_45 : decode bSF_serve 45 = .ok (.aload_n 1, 1) := by decide +kernel
theorem dSF_serve_46 : decode bSF_serve 46 = .ok (.getfield 170, 3) := by decide +kernel
theorem dSF_serve_49 : decode bSF_serve 49 = .ok (.invokevirtual 90, 3) := by decide +kernel
theorem dSF_serve_52 : decode bSF_serve 52 = .ok (.aload_n 1, 1) := by decide +kernel
theorem dSF_serve_53 : decode bSF_serve 53 = .ok (.iconst 1, 1) := by decide +kernel
theorem dSF_serve_54 : decode bSF_serve 54 = .ok (.putfield 192, 3) := by decide +kernel
theorem dSF_serve_57 : decode bSF_serve 57 = .ok (.goto 28, 3) := by decide +kernel
theorem dSF_serve_60 : decode bSF_serve 60 = .ok (.aload_n 1, 1) := by decide +kernel
theorem dSF_serve_61 : decode bSF_serve 61 = .ok (.getfield 132, 3) := by decide +kernel
theorem dSF_serve_64 : decode bSF_serve 64 = .ok (.iconst 0, 1) := by decide +kernel
theorem dSF_serve_65 : decode bSF_serve 65 = .ok (.aload_n 0, 1) := by decide +kernel
theorem dSF_serve_66 : decode bSF_serve 66 = .ok (.getfield 21, 3) := by decide +kernel
theorem dSF_serve_69 : decode bSF_serve 69 = .ok (.aload_n 1, 1) := by decide +kernel
theorem dSF_serve_70 : decode bSF_serve 70 = .ok (.getfield 170, 3) := by decide +kernel
theorem dSF_serve_73 : decode bSF_serve 73 = .ok (.aload_n 1, 1) := by decide +kernel
theorem dSF_serve_74 : decode bSF_serve 74 = .ok (.getfield 129, 3) := by decide +kernel
theorem dSF_serve_77 : decode bSF_serve 77 = .ok (.invokestatic 195, 3) := by decide +kernel
theorem dSF_serve_80 : decode bSF_serve 80 = .ok (.aload_n 0, 1) := by decide +kernel
theorem dSF_serve_81 : decode bSF_serve 81 = .ok (.aload_n 1, 1) := by decide +kernel
theorem dSF_serve_82 : decode bSF_serve 82 = .ok (.invokevirtual 201, 3) := by decide +kernel
theorem dSF_serve_85 : decode bSF_serve 85 = .ok (.return_, 1) := by decide +kernel
theorem dSF_finish_0 : decode bSF_finish 0 = .ok (.aload_n 1, 1) := by decide +kernel
theorem dSF_finish_1 : decode bSF_finish 1 = .ok (.iconst 3, 1) := by decide +kernel
theorem dSF_finish_2 : decode bSF_finish 2 = .ok (.putfield 68, 3) := by decide +kernel
theorem dSF_finish_5 : decode bSF_finish 5 = .ok (.aload_n 0, 1) := by decide +kernel
theorem dSF_finish_6 : decode bSF_finish 6 = .ok (.aload_n 1, 1) := by decide +kernel
theorem dSF_finish_7 : decode bSF_finish 7 = .ok (.invokevirtual 204, 3) := by decide +kernel
theorem dSF_finish_10 : decode bSF_finish 10 = .ok (.dup, 1) := by decide +kernel
theorem dSF_finish_11 : decode bSF_finish 11 = .ok (.getfield 145, 3) := by decide +kernel
theorem dSF_finish_14 : decode bSF_finish 14 = .ok (.iconst 1, 1) := by decide +kernel
theorem dSF_finish_15 : decode bSF_finish 15 = .ok (.iadd, 1) := by decide +kernel
theorem dSF_finish_16 : decode bSF_finish 16 = .ok (.putfield 145, 3) := by decide +kernel
theorem dSF_finish_19 : decode bSF_finish 19 = .ok (.return_, 1) := by decide +kernel
theorem dSF_targetOf_0 : decode bSF_targetOf 0 = .ok (.aload_n 0, 1) := by decide +kernel
theorem dSF_targetOf_1 : decode bSF_targetOf 1 = .ok (.getfield 17, 3) := by decide +kernel
theorem dSF_targetOf_4 : decode bSF_targetOf 4 = .ok (.aload_n 1, 1) := by decide +kernel
theorem dSF_targetOf_5 : decode bSF_targetOf 5 = .ok (.getfield 170, 3) := by decide +kernel
theorem dSF_targetOf_8 : decode bSF_targetOf 8 = .ok (.bipush 16, 2) := by decide +kernel
theorem dSF_targetOf_10 : decode bSF_targetOf 10 = .ok (.idiv, 1) := by decide +kernel
theorem dSF_targetOf_11 : decode bSF_targetOf 11 = .ok (.aaload, 1) := by decide +kernel
theorem dSF_targetOf_12 : decode bSF_targetOf 12 = .ok (.areturn, 1) := by decide +kernel
theorem dSF_returnNextWord_0 : decode bSF_returnNextWord 0 = .ok (.iconst 1, 1) := by decide +kernel
theorem dSF_returnNextWord_1 : decode bSF_returnNextWord 1 = .ok (.istore_n 1, 1) := by decide +kernel
theorem dSF_returnNextWord_2 : decode bSF_returnNextWord 2 = .ok (.iload_n 1, 1) := by decide +kernel
theorem dSF_returnNextWord_3 : decode bSF_returnNextWord 3 = .ok (.bipush 16, 2) := by decide +kernel
theorem dSF_returnNextWord_5 : decode bSF_returnNextWord 5 = .ok (.if_icmp .gt 73, 3) := by decide +kernel
theorem dSF_returnNextWord_8 : decode bSF_returnNextWord 8 = .ok (.aload_n 0, 1) := by decide +kernel
theorem dSF_returnNextWord_9 : decode bSF_returnNextWord 9 = .ok (.getfield 50, 3) := by decide +kernel
theorem dSF_returnNextWord_12 : decode bSF_returnNextWord 12 = .ok (.iload_n 1, 1) := by decide +kernel
theorem dSF_returnNextWord_13 : decode bSF_returnNextWord 13 = .ok (.iadd, 1) := by decide +kernel
theorem dSF_returnNextWord_14 : decode bSF_returnNextWord 14 = .ok (.bipush 16, 2) := by decide +kernel
theorem dSF_returnNextWord_16 : decode bSF_returnNextWord 16 = .ok (.irem, 1) := by decide +kernel
theorem dSF_returnNextWord_17 : decode bSF_returnNextWord 17 = .ok (.istore_n 2, 1) := by decide +kernel
theorem dSF_returnNextWord_18 : decode bSF_returnNextWord 18 = .ok (.aload_n 0, 1) := by decide +kernel
theorem dSF_returnNextWord_19 : decode bSF_returnNextWord 19 = .ok (.getfield 11, 3) := by decide +kernel
theorem dSF_returnNextWord_22 : decode bSF_returnNextWord 22 = .ok (.iload_n 2, 1) := by decide +kernel
theorem dSF_returnNextWord_23 : decode bSF_returnNextWord 23 = .ok (.aaload, 1) := by decide +kernel
theorem dSF_returnNextWord_24 : decode bSF_returnNextWord 24 = .ok (.astore_n 3, 1) := by decide +kernel
theorem dSF_returnNextWord_25 : decode bSF_returnNextWord 25 = .ok (.aload_n 3, 1) := by decide +kernel
theorem dSF_returnNextWord_26 : decode bSF_returnNextWord 26 = .ok (.getfield 68, 3) := by decide +kernel
theorem dSF_returnNextWord_29 : decode bSF_returnNextWord 29 = .ok (.iconst 2, 1) := by decide +kernel
theorem dSF_returnNextWord_30 : decode bSF_returnNextWord 30 = .ok (.if_icmp .ne 42, 3) := by decide +kernel
theorem dSF_returnNextWord_33 : decode bSF_returnNextWord 33 = .ok (.aload_n 3, 1) := by decide +kernel
theorem dSF_returnNextWord_34 : decode bSF_returnNextWord 34 = .ok (.getfield 192, 3) := by decide +kernel
theorem dSF_returnNextWord_37 : decode bSF_returnNextWord 37 = .ok (.ifCond .eq 35, 3) := by decide +kernel
theorem dSF_returnNextWord_40 : decode bSF_returnNextWord 40 = .ok (.aload_n 0, 1) := by decide +kernel
theorem dSF_returnNextWord_41 : decode bSF_returnNextWord 41 = .ok (.iload_n 2, 1) := by decide +kernel
theorem dSF_returnNextWord_42 : decode bSF_returnNextWord 42 = .ok (.putfield 50, 3) := by decide +kernel
theorem dSF_returnNextWord_45 : decode bSF_returnNextWord 45 = .ok (.aload_n 3, 1) := by decide +kernel
theorem dSF_returnNextWord_46 : decode bSF_returnNextWord 46 = .ok (.dup, 1) := by decide +kernel
theorem dSF_returnNextWord_47 : decode bSF_returnNextWord 47 = .ok (.getfield 208, 3) := by decide +kernel
theorem dSF_returnNextWord_50 : decode bSF_returnNextWord 50 = .ok (.iconst 1, 1) := by decide +kernel
theorem dSF_returnNextWord_51 : decode bSF_returnNextWord 51 = .ok (.iadd, 1) := by decide +kernel
theorem dSF_returnNextWord_52 : decode bSF_returnNextWord 52 = .ok (.putfield 208, 3) := by decide +kernel
theorem dSF_returnNextWord_55 : decode bSF_returnNextWord 55 = .ok (.aload_n 3, 1) := by decide +kernel
theorem dSF_returnNextWord_56 : decode bSF_returnNextWord 56 = .ok (.getfield 208, 3) := by decide +kernel
theorem dSF_returnNextWord_59 : decode bSF_returnNextWord 59 = .ok (.aload_n 3, 1) := by decide +kernel
theorem dSF_returnNextWord_60 : decode bSF_returnNextWord 60 = .ok (.getfield 129, 3) := by decide +kernel
theorem dSF_returnNextWord_63 : decode bSF_returnNextWord 63 = .ok (.if_icmp .ne 8, 3) := by decide +kernel
theorem dSF_returnNextWord_66 : decode bSF_returnNextWord 66 = .ok (.aload_n 0, 1) := by decide +kernel
theorem dSF_returnNextWord_67 : decode bSF_returnNextWord 67 = .ok (.aload_n 3, 1) := by decide +kernel
theorem dSF_returnNextWord_68 : decode bSF_returnNextWord 68 = .ok (.invokevirtual 201, 3) := by decide +kernel
theorem dSF_returnNextWord_71 : decode bSF_returnNextWord 71 = .ok (.return_, 1) := by decide +kernel
theorem dSF_returnNextWord_72 : decode bSF_returnNextWord 72 = .ok (.iinc 1 1, 3) := by decide +kernel
theorem dSF_returnNextWord_75 : decode bSF_returnNextWord 75 = .ok (.goto (-73), 3) := by decide +kernel
theorem dSF_returnNextWord_78 : decode bSF_returnNextWord 78 = .ok (.return_, 1) := by decide +kernel
theorem dSF_chooseGrant_0 : decode bSF_chooseGrant 0 = .ok (.aconst_null, 1) := by decide +kernel
theorem dSF_chooseGrant_1 : decode bSF_chooseGrant 1 = .ok (.astore_n 1, 1) := by decide +kernel
theorem dSF_chooseGrant_2 : decode bSF_chooseGrant 2 = .ok (.iconst 1, 1) := by decide +kernel
theorem dSF_chooseGrant_3 : decode bSF_chooseGrant 3 = .ok (.istore_n 2, 1) := by decide +kernel
theorem dSF_chooseGrant_4 : decode bSF_chooseGrant 4 = .ok (.iload_n 2, 1) := by decide +kernel
theorem dSF_chooseGrant_5 : decode bSF_chooseGrant 5 = .ok (.iconst 4, 1) := by decide +kernel
theorem dSF_chooseGrant_6 : decode bSF_chooseGrant 6 = .ok (.if_icmp .gt 68, 3) := by decide +kernel
theorem dSF_chooseGrant_9 : decode bSF_chooseGrant 9 = .ok (.aload_n 0, 1) := by decide +kernel
theorem dSF_chooseGrant_10 : decode bSF_chooseGrant 10 = .ok (.getfield 47, 3) := by decide +kernel
theorem dSF_chooseGrant_13 : decode bSF_chooseGrant 13 = .ok (.iload_n 2, 1) := by decide +kernel
theorem dSF_chooseGrant_14 : decode bSF_chooseGrant 14 = .ok (.iadd, 1) := by decide +kernel
theorem dSF_chooseGrant_15 : decode bSF_chooseGrant 15 = .ok (.iconst 4, 1) := by decide +kernel
theorem dSF_chooseGrant_16 : decode bSF_chooseGrant 16 = .ok (.irem, 1) := by decide +kernel
theorem dSF_chooseGrant_17 : decode bSF_chooseGrant 17 = .ok (.istore_n 3, 1) := by decide +kernel
theorem dSF_chooseGrant_18 : decode bSF_chooseGrant 18 = .ok (.iconst 0, 1) := by decide +kernel
theorem dSF_chooseGrant_19 : decode bSF_chooseGrant 19 = .ok (.istore 4, 2) := by decide +kernel
theorem dSF_chooseGrant_21 : decode bSF_chooseGrant 21 = .ok (.iload 4, 2) := by decide +kernel
theorem dSF_chooseGrant_23 : decode bSF_chooseGrant 23 = .ok (.iconst 4, 1) := by decide +kernel
theorem dSF_chooseGrant_24 : decode bSF_chooseGrant 24 = .ok (.if_icmp .ge 44, 3) := by decide +kernel
theorem dSF_chooseGrant_27 : decode bSF_chooseGrant 27 = .ok (.aload_n 0, 1) := by decide +kernel
theorem dSF_chooseGrant_28 : decode bSF_chooseGrant 28 = .ok (.iload_n 3, 1) := by decide +kernel
theorem dSF_chooseGrant_29 : decode bSF_chooseGrant 29 = .ok (.iload 4, 2) := by decide +kernel
theorem dSF_chooseGrant_31 : decode bSF_chooseGrant 31 = .ok (.invokevirtual 64, 3) := by decide +kernel
theorem dSF_chooseGrant_34 : decode bSF_chooseGrant 34 = .ok (.astore 5, 2) := by decide +kernel
theorem dSF_chooseGrant_36 : decode bSF_chooseGrant 36 = .ok (.aload_n 0, 1) := by decide +kernel
theorem dSF_chooseGrant_37 : decode bSF_chooseGrant 37 = .ok (.aload 5, 2) := by decide +kernel
theorem dSF_chooseGrant_39 : decode bSF_chooseGrant 39 = .ok (.invokevirtual 211, 3) := by decide +kernel
theorem dSF_chooseGrant_42 : decode bSF_chooseGrant 42 = .ok (.ifCond .eq 20, 3) := by decide +kernel
theorem dSF_chooseGrant_45 : decode bSF_chooseGrant 45 = .ok (.aload_n 1, 1) := by decide +kernel
theorem dSF_chooseGrant_46 : decode bSF_chooseGrant 46 = .ok (.ifnull 13, 3) := by decide +kernel
theorem dSF_chooseGrant_49 : decode bSF_chooseGrant 49 = .ok (.aload_n 0, 1) := by decide +kernel
theorem dSF_chooseGrant_50 : decode bSF_chooseGrant 50 = .ok (.aload 5, 2) := by decide +kernel
theorem dSF_chooseGrant_52 : decode bSF_chooseGrant 52 = .ok (.aload_n 1, 1) := by decide +kernel
theorem dSF_chooseGrant_53 : decode bSF_chooseGrant 53 = .ok (.invokevirtual 214, 3) := by decide +kernel
theorem dSF_chooseGrant_56 : decode bSF_chooseGrant 56 = .ok (.ifCond .eq 6, 3) := by decide +kernel
theorem dSF_chooseGrant_59 : decode bSF_chooseGrant 59 = .ok (.aload 5, 2) := by decide +kernel
theorem dSF_chooseGrant_61 : decode bSF_chooseGrant 61 = .ok (.astore_n 1, 1) := by decide +kernel
theorem dSF_chooseGrant_62 : decode bSF_chooseGrant 62 = .ok (.iinc 4 1, 3) := by decide +kernel
theorem dSF_chooseGrant_65 : decode bSF_chooseGrant 65 = .ok (.goto (-44), 3) := by decide +kernel
theorem dSF_chooseGrant_68 : decode bSF_chooseGrant 68 = .ok (.iinc 2 1, 3) := by decide +kernel
theorem dSF_chooseGrant_71 : decode bSF_chooseGrant 71 = .ok (.goto (-67), 3) := by decide +kernel
theorem dSF_chooseGrant_74 : decode bSF_chooseGrant 74 = .ok (.aload_n 1, 1) := by decide +kernel
theorem dSF_chooseGrant_75 : decode bSF_chooseGrant 75 = .ok (.areturn, 1) := by decide +kernel
theorem dSF_tagOf_0 : decode bSF_tagOf 0 = .ok (.aload_n 0, 1) := by decide +kernel
theorem dSF_tagOf_1 : decode bSF_tagOf 1 = .ok (.getfield 11, 3) := by decide +kernel
theorem dSF_tagOf_4 : decode bSF_tagOf 4 = .ok (.iconst 4, 1) := by decide +kernel
theorem dSF_tagOf_5 : decode bSF_tagOf 5 = .ok (.iload_n 1, 1) := by decide +kernel
theorem dSF_tagOf_6 : decode bSF_tagOf 6 = .ok (.imul, 1) := by decide +kernel
theorem dSF_tagOf_7 : decode bSF_tagOf 7 = .ok (.iload_n 2, 1) := by decide +kernel
theorem dSF_tagOf_8 : decode bSF_tagOf 8 = .ok (.iadd, 1) := by decide +kernel
theorem dSF_tagOf_9 : decode bSF_tagOf 9 = .ok (.aaload, 1) := by decide +kernel
theorem dSF_tagOf_10 : decode bSF_tagOf 10 = .ok (.areturn, 1) := by decide +kernel
theorem dSF_isEligible_0 : decode bSF_isEligible 0 = .ok (.aload_n 1, 1) := by decide +kernel
theorem dSF_isEligible_1 : decode bSF_isEligible 1 = .ok (.getfield 68, 3) := by decide +kernel
theorem dSF_isEligible_4 : decode bSF_isEligible 4 = .ok (.iconst 1, 1) := by decide +kernel
theorem dSF_isEligible_5 : decode bSF_isEligible 5 = .ok (.if_icmp .eq 5, 3) := by decide +kernel
theorem dSF_isEligible_8 : decode bSF_isEligible 8 = .ok (.iconst 0, 1) := by decide +kernel
theorem dSF_isEligible_9 : decode bSF_isEligible 9 = .ok (.ireturn, 1) := by decide +kernel
theorem dSF_isEligible_10 : decode bSF_isEligible 10 = .ok (.iconst 0, 1) := by decide +kernel
theorem dSF_isEligible_11 : decode bSF_isEligible 11 = .ok (.istore_n 2, 1) := by decide +kernel
theorem dSF_isEligible_12 : decode bSF_isEligible 12 = .ok (.iload_n 2, 1) := by decide +kernel
theorem dSF_isEligible_13 : decode bSF_isEligible 13 = .ok (.iconst 4, 1) := by decide +kernel
theorem dSF_isEligible_14 : decode bSF_isEligible 14 = .ok (.if_icmp .ge 37, 3) := by decide +kernel
theorem dSF_isEligible_17 : decode bSF_isEligible 17 = .ok (.aload_n 0, 1) := by decide +kernel
theorem dSF_isEligible_18 : decode bSF_isEligible 18 = .ok (.aload_n 1, 1) := by decide +kernel
theorem dSF_isEligible_19 : decode bSF_isEligible 19 = .ok (.getfield 115, 3) := by decide +kernel
theorem dSF_isEligible_22 : decode bSF_isEligible 22 = .ok (.iload_n 2, 1) := by decide +kernel
theorem dSF_isEligible_23 : decode bSF_isEligible 23 = .ok (.invokevirtual 64, 3) := by decide +kernel
theorem dSF_isEligible_26 : decode bSF_isEligible 26 = .ok (.astore_n 3, 1) := by decide +kernel
theorem dSF_isEligible_27 : decode bSF_isEligible 27 = .ok (.aload_n 3, 1) := by decide +kernel
theorem dSF_isEligible_28 : decode bSF_isEligible 28 = .ok (.aload_n 1, 1) := by decide +kernel
theorem dSF_isEligible_29 : decode bSF_isEligible 29 = .ok (.invokevirtual 135, 3) := by decide +kernel
theorem dSF_isEligible_32 : decode bSF_isEligible 32 = .ok (.ifCond .eq 13, 3) := by decide +kernel
theorem dSF_isEligible_35 : decode bSF_isEligible 35 = .ok (.aload_n 3, 1) := by decide +kernel
theorem dSF_isEligible_36 : decode bSF_isEligible 36 = .ok (.aload_n 1, 1) := by decide +kernel
theorem dSF_isEligible_37 : decode bSF_isEligible 37 = .ok (.invokestatic 228, 3) := by decide +kernel
theorem dSF_isEligible_40 : decode bSF_isEligible 40 = .ok (.ifCond .eq 5, 3) := by decide +kernel
theorem dSF_isEligible_43 : decode bSF_isEligible 43 = .ok (.iconst 0, 1) := by decide +kernel
theorem dSF_isEligible_44 : decode bSF_isEligible 44 = .ok (.ireturn, 1) := by decide +kernel
theorem dSF_isEligible_45 : decode bSF_isEligible 45 = .ok (.iinc 2 1, 3) := by decide +kernel
theorem dSF_isEligible_48 : decode bSF_isEligible 48 = .ok (.goto (-36), 3) := by decide +kernel
theorem dSF_isEligible_51 : decode bSF_isEligible 51 = .ok (.aload_n 1, 1) := by decide +kernel
theorem dSF_isEligible_52 : decode bSF_isEligible 52 = .ok (.getfield 173, 3) := by decide +kernel
theorem dSF_isEligible_55 : decode bSF_isEligible 55 = .ok (.iconst 4, 1) := by decide +kernel
theorem dSF_isEligible_56 : decode bSF_isEligible 56 = .ok (.if_icmp .eq 18, 3) := by decide +kernel
theorem dSF_isEligible_59 : decode bSF_isEligible 59 = .ok (.aload_n 1, 1) := by decide +kernel
theorem dSF_isEligible_60 : decode bSF_isEligible 60 = .ok (.invokevirtual 231, 3) := by decide +kernel
theorem dSF_isEligible_63 : decode bSF_isEligible 63 = .ok (.ifCond .ne 11, 3) := by decide +kernel
theorem dSF_isEligible_66 : decode bSF_isEligible 66 = .ok (.aload_n 0, 1) := by decide +kernel
theorem dSF_isEligible_67 : decode bSF_isEligible 67 = .ok (.aload_n 1, 1) := by decide +kernel
theorem dSF_isEligible_68 : decode bSF_isEligible 68 = .ok (.invokevirtual 234, 3) := by decide +kernel
theorem dSF_isEligible_71 : decode bSF_isEligible 71 = .ok (.ifCond .eq 7, 3) := by decide +kernel
theorem dSF_isEligible_74 : decode bSF_isEligible 74 = .ok (.iconst 1, 1) := by decide +kernel
theorem dSF_isEligible_75 : decode bSF_isEligible 75 = .ok (.goto 4, 3) := by decide +kernel
theorem dSF_isEligible_78 : decode bSF_isEligible 78 = .ok (.iconst 0, 1) := by decide +kernel
theorem dSF_isEligible_79 : decode bSF_isEligible 79 = .ok (.ireturn, 1) := by decide +kernel
theorem dSF_holdsBack_0 : decode bSF_holdsBack 0 = .ok (.aload_n 0, 1) := by decide +kernel
theorem dSF_holdsBack_1 : decode bSF_holdsBack 1 = .ok (.getfield 173, 3) := by decide +kernel
theorem dSF_holdsBack_4 : decode bSF_holdsBack 4 = .ok (.iconst 4, 1) := by decide +kernel
theorem dSF_holdsBack_5 : decode bSF_holdsBack 5 = .ok (.if_icmp .eq 11, 3) := by decide +kernel
theorem dSF_holdsBack_8 : decode bSF_holdsBack 8 = .ok (.aload_n 1, 1) := by decide +kernel
theorem dSF_holdsBack_9 : decode bSF_holdsBack 9 = .ok (.getfield 173, 3) := by decide +kernel
theorem dSF_holdsBack_12 : decode bSF_holdsBack 12 = .ok (.iconst 4, 1) := by decide +kernel
theorem dSF_holdsBack_13 : decode bSF_holdsBack 13 = .ok (.if_icmp .ne 8, 3) := by decide +kernel
theorem dSF_holdsBack_16 : decode bSF_holdsBack 16 = .ok (.aload_n 0, 1) := by decide +kernel
theorem dSF_holdsBack_17 : decode bSF_holdsBack 17 = .ok (.invokevirtual 237, 3) := by decide +kernel
theorem dSF_holdsBack_20 : decode bSF_holdsBack 20 = .ok (.ireturn, 1) := by decide +kernel
theorem dSF_holdsBack_21 : decode bSF_holdsBack 21 = .ok (.aload_n 0, 1) := by decide +kernel
theorem dSF_holdsBack_22 : decode bSF_holdsBack 22 = .ok (.getfield 68, 3) := by decide +kernel
theorem dSF_holdsBack_25 : decode bSF_holdsBack 25 = .ok (.iconst 1, 1) := by decide +kernel
theorem dSF_holdsBack_26 : decode bSF_holdsBack 26 = .ok (.if_icmp .ne 15, 3) := by decide +kernel
theorem dSF_holdsBack_29 : decode bSF_holdsBack 29 = .ok (.aload_n 0, 1) := by decide +kernel
theorem dSF_holdsBack_30 : decode bSF_holdsBack 30 = .ok (.aload_n 1, 1) := by decide +kernel
theorem dSF_holdsBack_31 : decode bSF_holdsBack 31 = .ok (.invokevirtual 240, 3) := by decide +kernel
theorem dSF_holdsBack_34 : decode bSF_holdsBack 34 = .ok (.ifCond .eq 7, 3) := by decide +kernel
theorem dSF_holdsBack_37 : decode bSF_holdsBack 37 = .ok (.iconst 1, 1) := by decide +kernel
theorem dSF_holdsBack_38 : decode bSF_holdsBack 38 = .ok (.goto 4, 3) := by decide +kernel
theorem dSF_holdsBack_41 : decode bSF_holdsBack 41 = .ok (.iconst 0, 1) := by decide +kernel
theorem dSF_holdsBack_42 : decode bSF_holdsBack 42 = .ok (.ireturn, 1) := by decide +kernel
theorem dSF_isAdmitted_0 : decode bSF_isAdmitted 0 = .ok (.aload_n 0, 1) := by decide +kernel
theorem dSF_isAdmitted_1 : decode bSF_isAdmitted 1 = .ok (.aload_n 1, 1) := by decide +kernel
theorem dSF_isAdmitted_2 : decode bSF_isAdmitted 2 = .ok (.invokevirtual 204, 3) := by decide +kernel
theorem dSF_isAdmitted_5 : decode bSF_isAdmitted 5 = .ok (.astore_n 2, 1) := by decide +kernel
theorem dSF_isAdmitted_6 : decode bSF_isAdmitted 6 = .ok (.aload_n 1, 1) := by decide +kernel
theorem dSF_isAdmitted_7 : decode bSF_isAdmitted 7 = .ok (.getfield 173, 3) := by decide +kernel
theorem dSF_isAdmitted_10 : decode bSF_isAdmitted 10 = .ok (.iconst 3, 1) := by decide +kernel
theorem dSF_isAdmitted_11 : decode bSF_isAdmitted 11 = .ok (.if_icmp .ne 18, 3) := by decide +kernel
theorem dSF_isAdmitted_14 : decode bSF_isAdmitted 14 = .ok (.aload_n 2, 1) := by decide +kernel
theorem dSF_isAdmitted_15 : decode bSF_isAdmitted 15 = .ok (.getfield 142, 3) := by decide +kernel
theorem dSF_isAdmitted_18 : decode bSF_isAdmitted 18 = .ok (.aload_n 1, 1) := by decide +kernel
theorem dSF_isAdmitted_19 : decode bSF_isAdmitted 19 = .ok (.getfield 115, 3) := by decide +kernel
theorem dSF_isAdmitted_22 : decode bSF_isAdmitted 22 = .ok (.if_icmp .ne 7, 3) := by decide +kernel
theorem dSF_isAdmitted_25 : decode bSF_isAdmitted 25 = .ok (.iconst 1, 1) := by decide +kernel
theorem dSF_isAdmitted_26 : decode bSF_isAdmitted 26 = .ok (.goto 4, 3) := by decide +kernel
theorem dSF_isAdmitted_29 : decode bSF_isAdmitted 29 = .ok (.iconst 0, 1) := by decide +kernel
theorem dSF_isAdmitted_30 : decode bSF_isAdmitted 30 = .ok (.istore_n 3, 1) := by decide +kernel
theorem dSF_isAdmitted_31 : decode bSF_isAdmitted 31 = .ok (.aload_n 2, 1) := by decide +kernel
theorem dSF_isAdmitted_32 : decode bSF_isAdmitted 32 = .ok (.getfield 145, 3) := by decide +kernel
theorem dSF_isAdmitted_35 : decode bSF_isAdmitted 35 = .ok (.ifCond .le 19, 3) := by decide +kernel
theorem dSF_isAdmitted_38 : decode bSF_isAdmitted 38 = .ok (.aload_n 2, 1) := by decide +kernel
theorem dSF_isAdmitted_39 : decode bSF_isAdmitted 39 = .ok (.getfield 142, 3) := by decide +kernel
theorem dSF_isAdmitted_42 : decode bSF_isAdmitted 42 = .ok (.iconst (-1), 1) := by decide +kernel
theorem dSF_isAdmitted_43 : decode bSF_isAdmitted 43 = .ok (.if_icmp .eq 7, 3) := by decide +kernel
theorem dSF_isAdmitted_46 : decode bSF_isAdmitted 46 = .ok (.iload_n 3, 1) := by decide +kernel
theorem dSF_isAdmitted_47 : decode bSF_isAdmitted 47 = .ok (.ifCond .eq 7, 3) := by decide +kernel
theorem dSF_isAdmitted_50 : decode bSF_isAdmitted 50 = .ok (.iconst 1, 1) := by decide +kernel
theorem dSF_isAdmitted_51 : decode bSF_isAdmitted 51 = .ok (.goto 4, 3) := by decide +kernel
theorem dSF_isAdmitted_54 : decode bSF_isAdmitted 54 = .ok (.iconst 0, 1) := by decide +kernel
theorem dSF_isAdmitted_55 : decode bSF_isAdmitted 55 = .ok (.ireturn, 1) := by decide +kernel
theorem dSF_goesBefore_0 : decode bSF_goesBefore 0 = .ok (.aload_n 0, 1) := by decide +kernel
theorem dSF_goesBefore_1 : decode bSF_goesBefore 1 = .ok (.aload_n 1, 1) := by decide +kernel
theorem dSF_goesBefore_2 : decode bSF_goesBefore 2 = .ok (.invokevirtual 218, 3) := by decide +kernel
theorem dSF_goesBefore_5 : decode bSF_goesBefore 5 = .ok (.aload_n 0, 1) := by decide +kernel
theorem dSF_goesBefore_6 : decode bSF_goesBefore 6 = .ok (.aload_n 2, 1) := by decide +kernel
theorem dSF_goesBefore_7 : decode bSF_goesBefore 7 = .ok (.invokevirtual 218, 3) := by decide +kernel
theorem dSF_goesBefore_10 : decode bSF_goesBefore 10 = .ok (.isub, 1) := by decide +kernel
theorem dSF_goesBefore_11 : decode bSF_goesBefore 11 = .ok (.istore_n 3, 1) := by decide +kernel
theorem dSF_goesBefore_12 : decode bSF_goesBefore 12 = .ok (.iload_n 3, 1) := by decide +kernel
theorem dSF_goesBefore_13 : decode bSF_goesBefore 13 = .ok (.ifCond .gt 26, 3) := by decide +kernel
theorem dSF_goesBefore_16 : decode bSF_goesBefore 16 = .ok (.iload_n 3, 1) := by decide +kernel
theorem dSF_goesBefore_17 : decode bSF_goesBefore 17 = .ok (.ifCond .ne 26, 3) := by decide +kernel
theorem dSF_goesBefore_20 : decode bSF_goesBefore 20 = .ok (.aload_n 1, 1) := by decide +kernel
theorem dSF_goesBefore_21 : decode bSF_goesBefore 21 = .ok (.getfield 115, 3) := by decide +kernel
theorem dSF_goesBefore_24 : decode bSF_goesBefore 24 = .ok (.aload_n 2, 1) := by decide +kernel
theorem dSF_goesBefore_25 : decode bSF_goesBefore 25 = .ok (.getfield 115, 3) := by decide +kernel
theorem dSF_goesBefore_28 : decode bSF_goesBefore 28 = .ok (.if_icmp .ne 15, 3) := by decide +kernel
theorem dSF_goesBefore_31 : decode bSF_goesBefore 31 = .ok (.aload_n 1, 1) := by decide +kernel
theorem dSF_goesBefore_32 : decode bSF_goesBefore 32 = .ok (.aload_n 2, 1) := by decide +kernel
theorem dSF_goesBefore_33 : decode bSF_goesBefore 33 = .ok (.invokevirtual 135, 3) := by decide +kernel
theorem dSF_goesBefore_36 : decode bSF_goesBefore 36 = .ok (.ifCond .eq 7, 3) := by decide +kernel
theorem dSF_goesBefore_39 : decode bSF_goesBefore 39 = .ok (.iconst 1, 1) := by decide +kernel
theorem dSF_goesBefore_40 : decode bSF_goesBefore 40 = .ok (.goto 4, 3) := by decide +kernel
theorem dSF_goesBefore_43 : decode bSF_goesBefore 43 = .ok (.iconst 0, 1) := by decide +kernel
theorem dSF_goesBefore_44 : decode bSF_goesBefore 44 = .ok (.ireturn, 1) := by decide +kernel
theorem dSF_classOf_0 : decode bSF_classOf 0 = .ok (.aload_n 0, 1) := by decide +kernel
theorem dSF_classOf_1 : decode bSF_classOf 1 = .ok (.getfield 30, 3) := by decide +kernel
theorem dSF_classOf_4 : decode bSF_classOf 4 = .ok (.aload_n 1, 1) := by decide +kernel
theorem dSF_classOf_5 : decode bSF_classOf 5 = .ok (.getfield 115, 3) := by decide +kernel
theorem dSF_classOf_8 : decode bSF_classOf 8 = .ok (.iaload, 1) := by decide +kernel
theorem dSF_classOf_9 : decode bSF_classOf 9 = .ok (.aload_n 1, 1) := by decide +kernel
theorem dSF_classOf_10 : decode bSF_classOf 10 = .ok (.getfield 139, 3) := by decide +kernel
theorem dSF_classOf_13 : decode bSF_classOf 13 = .ok (.bipush 16, 2) := by decide +kernel
theorem dSF_classOf_15 : decode bSF_classOf 15 = .ok (.idiv, 1) := by decide +kernel
theorem dSF_classOf_16 : decode bSF_classOf 16 = .ok (.iadd, 1) := by decide +kernel
theorem dSF_classOf_17 : decode bSF_classOf 17 = .ok (.iconst 2, 1) := by decide +kernel
theorem dSF_classOf_18 : decode bSF_classOf 18 = .ok (.invokestatic 222, 3) := by decide +kernel
theorem dSF_classOf_21 : decode bSF_classOf 21 = .ok (.ireturn, 1) := by decide +kernel
theorem dSF_grant_0 : decode bSF_grant 0 = .ok (.aload_n 0, 1) := by decide +kernel
theorem dSF_grant_1 : decode bSF_grant 1 = .ok (.aload_n 1, 1) := by decide +kernel
theorem dSF_grant_2 : decode bSF_grant 2 = .ok (.getfield 115, 3) := by decide +kernel
theorem dSF_grant_5 : decode bSF_grant 5 = .ok (.putfield 47, 3) := by decide +kernel
theorem dSF_grant_8 : decode bSF_grant 8 = .ok (.aload_n 1, 1) := by decide +kernel
theorem dSF_grant_9 : decode bSF_grant 9 = .ok (.getfield 173, 3) := by decide +kernel
theorem dSF_grant_12 : decode bSF_grant 12 = .ok (.iconst 4, 1) := by decide +kernel
theorem dSF_grant_13 : decode bSF_grant 13 = .ok (.if_icmp .ne 11, 3) := by decide +kernel
theorem dSF_grant_16 : decode bSF_grant 16 = .ok (.aload_n 1, 1) := by decide +kernel
theorem dSF_grant_17 : decode bSF_grant 17 = .ok (.iconst 3, 1) := by decide +kernel
theorem dSF_grant_18 : decode bSF_grant 18 = .ok (.putfield 68, 3) := by decide +kernel
theorem dSF_grant_21 : decode bSF_grant 21 = .ok (.goto 32, 3) := by decide +kernel
theorem dSF_grant_24 : decode bSF_grant 24 = .ok (.aload_n 1, 1) := by decide +kernel
theorem dSF_grant_25 : decode bSF_grant 25 = .ok (.invokevirtual 231, 3) := by decide +kernel
theorem dSF_grant_28 : decode bSF_grant 28 = .ok (.ifCond .eq 11, 3) := by decide +kernel
theorem dSF_grant_31 : decode bSF_grant 31 = .ok (.aload_n 1, 1) := by decide +kernel
theorem dSF_grant_32 : decode bSF_grant 32 = .ok (.iconst 4, 1) := by decide +kernel
theorem dSF_grant_33 : decode bSF_grant 33 = .ok (.putfield 68, 3) := by decide +kernel
theorem dSF_grant_36 : decode bSF_grant 36 = .ok (.goto 17, 3) := by decide +kernel
theorem dSF_grant_39 : decode bSF_grant 39 = .ok (.aload_n 1, 1) := by decide +kernel
theorem dSF_grant_40 : decode bSF_grant 40 = .ok (.iconst 2, 1) := by decide +kernel
theorem dSF_grant_41 : decode bSF_grant 41 = .ok (.putfield 68, 3) := by decide +kernel
theorem dSF_grant_44 : decode bSF_grant 44 = .ok (.aload_n 1, 1) := by decide +kernel
theorem dSF_grant_45 : decode bSF_grant 45 = .ok (.aload_n 0, 1) := by decide +kernel
theorem dSF_grant_46 : decode bSF_grant 46 = .ok (.aload_n 1, 1) := by decide +kernel
theorem dSF_grant_47 : decode bSF_grant 47 = .ok (.invokevirtual 204, 3) := by decide +kernel
theorem dSF_grant_50 : decode bSF_grant 50 = .ok (.invokestatic 243, 3) := by decide +kernel
theorem dSF_grant_53 : decode bSF_grant 53 = .ok (.return_, 1) := by decide +kernel
theorem dSF_enter_0 : decode bSF_enter 0 = .ok (.aload_n 1, 1) := by decide +kernel
theorem dSF_enter_1 : decode bSF_enter 1 = .ok (.dup, 1) := by decide +kernel
theorem dSF_enter_2 : decode bSF_enter 2 = .ok (.getfield 145, 3) := by decide +kernel
theorem dSF_enter_5 : decode bSF_enter 5 = .ok (.iconst 1, 1) := by decide +kernel
theorem dSF_enter_6 : decode bSF_enter 6 = .ok (.isub, 1) := by decide +kernel
theorem dSF_enter_7 : decode bSF_enter 7 = .ok (.putfield 145, 3) := by decide +kernel
theorem dSF_enter_10 : decode bSF_enter 10 = .ok (.aload_n 1, 1) := by decide +kernel
theorem dSF_enter_11 : decode bSF_enter 11 = .ok (.iconst 4, 1) := by decide +kernel
theorem dSF_enter_12 : decode bSF_enter 12 = .ok (.aload_n 0, 1) := by decide +kernel
theorem dSF_enter_13 : decode bSF_enter 13 = .ok (.getfield 115, 3) := by decide +kernel
theorem dSF_enter_16 : decode bSF_enter 16 = .ok (.imul, 1) := by decide +kernel
theorem dSF_enter_17 : decode bSF_enter 17 = .ok (.aload_n 0, 1) := by decide +kernel
theorem dSF_enter_18 : decode bSF_enter 18 = .ok (.getfield 247, 3) := by decide +kernel
theorem dSF_enter_21 : decode bSF_enter 21 = .ok (.iadd, 1) := by decide +kernel
theorem dSF_enter_22 : decode bSF_enter 22 = .ok (.invokevirtual 250, 3) := by decide +kernel
theorem dSF_enter_25 : decode bSF_enter 25 = .ok (.aload_n 0, 1) := by decide +kernel
theorem dSF_enter_26 : decode bSF_enter 26 = .ok (.getfield 173, 3) := by decide +kernel
theorem dSF_enter_29 : decode bSF_enter 29 = .ok (.iconst 2, 1) := by decide +kernel
theorem dSF_enter_30 : decode bSF_enter 30 = .ok (.if_icmp .ne 11, 3) := by decide +kernel
theorem dSF_enter_33 : decode bSF_enter 33 = .ok (.aload_n 1, 1) := by decide +kernel
theorem dSF_enter_34 : decode bSF_enter 34 = .ok (.aload_n 0, 1) := by decide +kernel
theorem dSF_enter_35 : decode bSF_enter 35 = .ok (.getfield 115, 3) := by decide +kernel
theorem dSF_enter_38 : decode bSF_enter 38 = .ok (.putfield 142, 3) := by decide +kernel
theorem dSF_enter_41 : decode bSF_enter 41 = .ok (.aload_n 0, 1) := by decide +kernel
theorem dSF_enter_42 : decode bSF_enter 42 = .ok (.getfield 173, 3) := by decide +kernel
theorem dSF_enter_45 : decode bSF_enter 45 = .ok (.iconst 3, 1) := by decide +kernel
theorem dSF_enter_46 : decode bSF_enter 46 = .ok (.if_icmp .ne 8, 3) := by decide +kernel
theorem dSF_enter_49 : decode bSF_enter 49 = .ok (.aload_n 1, 1) := by decide +kernel
theorem dSF_enter_50 : decode bSF_enter 50 = .ok (.iconst (-1), 1) := by decide +kernel
theorem dSF_enter_51 : decode bSF_enter 51 = .ok (.putfield 142, 3) := by decide +kernel
theorem dSF_enter_54 : decode bSF_enter 54 = .ok (.return_, 1) := by decide +kernel
theorem dSF_ageWaiting_0 : decode bSF_ageWaiting 0 = .ok (.iconst 0, 1) := by decide +kernel
theorem dSF_ageWaiting_1 : decode bSF_ageWaiting 1 = .ok (.istore_n 1, 1) := by decide +kernel
theorem dSF_ageWaiting_2 : decode bSF_ageWaiting 2 = .ok (.iload_n 1, 1) := by decide +kernel
theorem dSF_ageWaiting_3 : decode bSF_ageWaiting 3 = .ok (.bipush 16, 2) := by decide +kernel
theorem dSF_ageWaiting_5 : decode bSF_ageWaiting 5 = .ok (.if_icmp .ge 37, 3) := by decide +kernel
theorem dSF_ageWaiting_8 : decode bSF_ageWaiting 8 = .ok (.aload_n 0, 1) := by decide +kernel
theorem dSF_ageWaiting_9 : decode bSF_ageWaiting 9 = .ok (.getfield 11, 3) := by decide +kernel
theorem dSF_ageWaiting_12 : decode bSF_ageWaiting 12 = .ok (.iload_n 1, 1) := by decide +kernel
theorem dSF_ageWaiting_13 : decode bSF_ageWaiting 13 = .ok (.aaload, 1) := by decide +kernel
theorem dSF_ageWaiting_14 : decode bSF_ageWaiting 14 = .ok (.getfield 68, 3) := by decide +kernel
theorem dSF_ageWaiting_17 : decode bSF_ageWaiting 17 = .ok (.iconst 1, 1) := by decide +kernel
theorem dSF_ageWaiting_18 : decode bSF_ageWaiting 18 = .ok (.if_icmp .ne 18, 3) := by decide +kernel
theorem dSF_ageWaiting_21 : decode bSF_ageWaiting 21 = .ok (.aload_n 0, 1) := by decide +kernel
theorem dSF_ageWaiting_22 : decode bSF_ageWaiting 22 = .ok (.getfield 11, 3) := by decide +kernel
theorem dSF_ageWaiting_25 : decode bSF_ageWaiting 25 = .ok (.iload_n 1, 1) := by decide +kernel
theorem dSF_ageWaiting_26 : decode bSF_ageWaiting 26 = .ok (.aaload, 1) := by decide +kernel
theorem dSF_ageWaiting_27 : decode bSF_ageWaiting 27 = .ok (.dup, 1) := by decide +kernel
theorem dSF_ageWaiting_28 : decode bSF_ageWaiting 28 = .ok (.getfield 139, 3) := by decide +kernel
theorem dSF_ageWaiting_31 : decode bSF_ageWaiting 31 = .ok (.iconst 1, 1) := by decide +kernel
theorem dSF_ageWaiting_32 : decode bSF_ageWaiting 32 = .ok (.iadd, 1) := by decide +kernel
theorem dSF_ageWaiting_33 : decode bSF_ageWaiting 33 = .ok (.putfield 139, 3) := by decide +kernel
theorem dSF_ageWaiting_36 : decode bSF_ageWaiting 36 = .ok (.iinc 1 1, 3) := by decide +kernel
theorem dSF_ageWaiting_39 : decode bSF_ageWaiting 39 = .ok (.goto (-37), 3) := by decide +kernel
theorem dSF_ageWaiting_42 : decode bSF_ageWaiting 42 = .ok (.return_, 1) := by decide +kernel
theorem dSF_time_0 : decode bSF_time 0 = .ok (.aload_n 0, 1) := by decide +kernel
theorem dSF_time_1 : decode bSF_time 1 = .ok (.getfield 40, 3) := by decide +kernel
theorem dSF_time_4 : decode bSF_time 4 = .ok (.ireturn, 1) := by decide +kernel
theorem dSF_served_0 : decode bSF_served 0 = .ok (.aload_n 0, 1) := by decide +kernel
theorem dSF_served_1 : decode bSF_served 1 = .ok (.getfield 36, 3) := by decide +kernel
theorem dSF_served_4 : decode bSF_served 4 = .ok (.invokevirtual 148, 3) := by decide +kernel
theorem dSF_served_7 : decode bSF_served 7 = .ok (.ireturn, 1) := by decide +kernel
theorem dSF_data_0 : decode bSF_data 0 = .ok (.iload_n 1, 1) := by decide +kernel
theorem dSF_data_1 : decode bSF_data 1 = .ok (.iconst 4, 1) := by decide +kernel
theorem dSF_data_2 : decode bSF_data 2 = .ok (.invokestatic 57, 3) := by decide +kernel
theorem dSF_data_5 : decode bSF_data 5 = .ok (.iload_n 2, 1) := by decide +kernel
theorem dSF_data_6 : decode bSF_data 6 = .ok (.iconst 4, 1) := by decide +kernel
theorem dSF_data_7 : decode bSF_data 7 = .ok (.invokestatic 57, 3) := by decide +kernel
theorem dSF_data_10 : decode bSF_data 10 = .ok (.aload_n 0, 1) := by decide +kernel
theorem dSF_data_11 : decode bSF_data 11 = .ok (.getfield 27, 3) := by decide +kernel
theorem dSF_data_14 : decode bSF_data 14 = .ok (.iload_n 1, 1) := by decide +kernel
theorem dSF_data_15 : decode bSF_data 15 = .ok (.aaload, 1) := by decide +kernel
theorem dSF_data_16 : decode bSF_data 16 = .ok (.iload_n 2, 1) := by decide +kernel
theorem dSF_data_17 : decode bSF_data 17 = .ok (.iload_n 3, 1) := by decide +kernel
theorem dSF_data_18 : decode bSF_data 18 = .ok (.iastore, 1) := by decide +kernel
theorem dSF_data_19 : decode bSF_data 19 = .ok (.return_, 1) := by decide +kernel
theorem dSF_checkIndex_0 : decode bSF_checkIndex 0 = .ok (.iload_n 0, 1) := by decide +kernel
theorem dSF_checkIndex_1 : decode bSF_checkIndex 1 = .ok (.ifCond .lt 8, 3) := by decide +kernel
theorem dSF_checkIndex_4 : decode bSF_checkIndex 4 = .ok (.iload_n 0, 1) := by decide +kernel
theorem dSF_checkIndex_5 : decode bSF_checkIndex 5 = .ok (.iload_n 1, 1) := by decide +kernel
theorem dSF_checkIndex_6 : decode bSF_checkIndex 6 = .ok (.if_icmp .lt 11, 3) := by decide +kernel
theorem dSF_checkIndex_9 : decode bSF_checkIndex 9 = .ok (.new 161, 3) := by decide +kernel
theorem dSF_checkIndex_12 : decode bSF_checkIndex 12 = .ok (.dup, 1) := by decide +kernel
theorem dSF_checkIndex_13 : decode bSF_checkIndex 13 = .ok (.invokespecial 163, 3) := by decide +kernel
theorem dSF_checkIndex_16 : decode bSF_checkIndex 16 = .ok (.athrow, 1) := by decide +kernel
theorem dSF_checkIndex_17 : decode bSF_checkIndex 17 = .ok (.return_, 1) := by decide +kernel
theorem dSF_issue_0 : decode bSF_issue 0 = .ok (.iload_n 1, 1) := by decide +kernel
theorem dSF_issue_1 : decode bSF_issue 1 = .ok (.iconst 4, 1) := by decide +kernel
theorem dSF_issue_2 : decode bSF_issue 2 = .ok (.invokestatic 57, 3) := by decide +kernel
theorem dSF_issue_5 : decode bSF_issue 5 = .ok (.iload 5, 2) := by decide +kernel
theorem dSF_issue_7 : decode bSF_issue 7 = .ok (.iconst 4, 1) := by decide +kernel
theorem dSF_issue_8 : decode bSF_issue 8 = .ok (.invokestatic 57, 3) := by decide +kernel
theorem dSF_issue_11 : decode bSF_issue 11 = .ok (.iload_n 2, 1) := by decide +kernel
theorem dSF_issue_12 : decode bSF_issue 12 = .ok (.iload_n 3, 1) := by decide +kernel
theorem dSF_issue_13 : decode bSF_issue 13 = .ok (.iload 4, 2) := by decide +kernel
theorem dSF_issue_15 : decode bSF_issue 15 = .ok (.invokestatic 60, 3) := by decide +kernel
theorem dSF_issue_18 : decode bSF_issue 18 = .ok (.aload_n 0, 1) := by decide +kernel
theorem dSF_issue_19 : decode bSF_issue 19 = .ok (.iload_n 1, 1) := by decide +kernel
theorem dSF_issue_20 : decode bSF_issue 20 = .ok (.iload 5, 2) := by decide +kernel
theorem dSF_issue_22 : decode bSF_issue 22 = .ok (.invokevirtual 64, 3) := by decide +kernel
theorem dSF_issue_25 : decode bSF_issue 25 = .ok (.astore 6, 2) := by decide +kernel
theorem dSF_issue_27 : decode bSF_issue 27 = .ok (.aload 6, 2) := by decide +kernel
theorem dSF_issue_29 : decode bSF_issue 29 = .ok (.getfield 68, 3) := by decide +kernel
theorem dSF_issue_32 : decode bSF_issue 32 = .ok (.ifCond .ne 7, 3) := by decide +kernel
theorem dSF_issue_35 : decode bSF_issue 35 = .ok (.iconst 1, 1) := by decide +kernel
theorem dSF_issue_36 : decode bSF_issue 36 = .ok (.goto 4, 3) := by decide +kernel
theorem dSF_issue_39 : decode bSF_issue 39 = .ok (.iconst 0, 1) := by decide +kernel
theorem dSF_issue_40 : decode bSF_issue 40 = .ok (.invokestatic 71, 3) := by decide +kernel
theorem dSF_issue_43 : decode bSF_issue 43 = .ok (.iload_n 2, 1) := by decide +kernel
theorem dSF_issue_44 : decode bSF_issue 44 = .ok (.iconst 2, 1) := by decide +kernel
theorem dSF_issue_45 : decode bSF_issue 45 = .ok (.if_icmp .ne 28, 3) := by decide +kernel
theorem dSF_issue_48 : decode bSF_issue 48 = .ok (.aload_n 0, 1) := by decide +kernel
theorem dSF_issue_49 : decode bSF_issue 49 = .ok (.iload_n 1, 1) := by decide +kernel
theorem dSF_issue_50 : decode bSF_issue 50 = .ok (.invokevirtual 75, 3) := by decide +kernel
theorem dSF_issue_53 : decode bSF_issue 53 = .ok (.ifCond .ne 16, 3) := by decide +kernel
theorem dSF_issue_56 : decode bSF_issue 56 = .ok (.aload_n 0, 1) := by decide +kernel
theorem dSF_issue_57 : decode bSF_issue 57 = .ok (.iload_n 1, 1) := by decide +kernel
theorem dSF_issue_58 : decode bSF_issue 58 = .ok (.iconst 2, 1) := by decide +kernel
theorem dSF_issue_59 : decode bSF_issue 59 = .ok (.invokevirtual 79, 3) := by decide +kernel
theorem dSF_issue_62 : decode bSF_issue 62 = .ok (.ifCond .ne 7, 3) := by decide +kernel
theorem dSF_issue_65 : decode bSF_issue 65 = .ok (.iconst 1, 1) := by decide +kernel
theorem dSF_issue_66 : decode bSF_issue 66 = .ok (.goto 4, 3) := by decide +kernel
theorem dSF_issue_69 : decode bSF_issue 69 = .ok (.iconst 0, 1) := by decide +kernel
theorem dSF_issue_70 : decode bSF_issue 70 = .ok (.invokestatic 71, 3) := by decide +kernel
theorem dSF_issue_73 : decode bSF_issue 73 = .ok (.iload_n 2, 1) := by decide +kernel
theorem dSF_issue_74 : decode bSF_issue 74 = .ok (.iconst 3, 1) := by decide +kernel
theorem dSF_issue_75 : decode bSF_issue 75 = .ok (.if_icmp .ne 29, 3) := by decide +kernel
theorem dSF_issue_78 : decode bSF_issue 78 = .ok (.aload_n 0, 1) := by decide +kernel
theorem dSF_issue_79 : decode bSF_issue 79 = .ok (.iload_n 1, 1) := by decide +kernel
theorem dSF_issue_80 : decode bSF_issue 80 = .ok (.iload_n 3, 1) := by decide +kernel
theorem dSF_issue_81 : decode bSF_issue 81 = .ok (.invokevirtual 83, 3) := by decide +kernel
theorem dSF_issue_84 : decode bSF_issue 84 = .ok (.ifCond .eq 16, 3) := by decide +kernel
theorem dSF_issue_87 : decode bSF_issue 87 = .ok (.aload_n 0, 1) := by decide +kernel
theorem dSF_issue_88 : decode bSF_issue 88 = .ok (.iload_n 1, 1) := by decide +kernel
theorem dSF_issue_89 : decode bSF_issue 89 = .ok (.iconst 3, 1) := by decide +kernel
theorem dSF_issue_90 : decode bSF_issue 90 = .ok (.invokevirtual 79, 3) := by decide +kernel
theorem dSF_issue_93 : decode bSF_issue 93 = .ok (.ifCond .ne 7, 3) := by decide +kernel
theorem dSF_issue_96 : decode bSF_issue 96 = .ok (.iconst 1, 1) := by decide +kernel
theorem dSF_issue_97 : decode bSF_issue 97 = .ok (.goto 4, 3) := by decide +kernel
theorem dSF_issue_100 : decode bSF_issue 100 = .ok (.iconst 0, 1) := by decide +kernel
theorem dSF_issue_101 : decode bSF_issue 101 = .ok (.invokestatic 71, 3) := by decide +kernel
theorem dSF_issue_104 : decode bSF_issue 104 = .ok (.iload_n 2, 1) := by decide +kernel
theorem dSF_issue_105 : decode bSF_issue 105 = .ok (.iconst 4, 1) := by decide +kernel
theorem dSF_issue_106 : decode bSF_issue 106 = .ok (.if_icmp .ne 18, 3) := by decide +kernel
theorem dSF_issue_109 : decode bSF_issue 109 = .ok (.aload 6, 2) := by decide +kernel
theorem dSF_issue_111 : decode bSF_issue 111 = .ok (.iload_n 2, 1) := by decide +kernel
theorem dSF_issue_112 : decode bSF_issue 112 = .ok (.iconst 0, 1) := by decide +kernel
theorem dSF_issue_113 : decode bSF_issue 113 = .ok (.iconst 0, 1) := by decide +kernel
theorem dSF_issue_114 : decode bSF_issue 114 = .ok (.aload_n 0, 1) := by decide +kernel
theorem dSF_issue_115 : decode bSF_issue 115 = .ok (.getfield 44, 3) := by decide +kernel
theorem dSF_issue_118 : decode bSF_issue 118 = .ok (.invokevirtual 86, 3) := by decide +kernel
theorem dSF_issue_121 : decode bSF_issue 121 = .ok (.goto 28, 3) := by decide +kernel
theorem dSF_issue_124 : decode bSF_issue 124 = .ok (.aload 6, 2) := by decide +kernel
theorem dSF_issue_126 : decode bSF_issue 126 = .ok (.iload_n 2, 1) := by decide +kernel
theorem dSF_issue_127 : decode bSF_issue 127 = .ok (.iload_n 3, 1) := by decide +kernel
theorem dSF_issue_128 : decode bSF_issue 128 = .ok (.iload 4, 2) := by decide +kernel
theorem dSF_issue_130 : decode bSF_issue 130 = .ok (.aload_n 0, 1) := by decide +kernel
theorem dSF_issue_131 : decode bSF_issue 131 = .ok (.getfield 44, 3) := by decide +kernel
theorem dSF_issue_134 : decode bSF_issue 134 = .ok (.invokevirtual 86, 3) := by decide +kernel
theorem dSF_issue_137 : decode bSF_issue 137 = .ok (.aload 6, 2) := by decide +kernel
theorem dSF_issue_139 : decode bSF_issue 139 = .ok (.aload_n 0, 1) := by decide +kernel
theorem dSF_issue_140 : decode bSF_issue 140 = .ok (.getfield 27, 3) := by decide +kernel
theorem dSF_issue_143 : decode bSF_issue 143 = .ok (.iload_n 1, 1) := by decide +kernel
theorem dSF_issue_144 : decode bSF_issue 144 = .ok (.aaload, 1) := by decide +kernel
theorem dSF_issue_145 : decode bSF_issue 145 = .ok (.iconst 0, 1) := by decide +kernel
theorem dSF_issue_146 : decode bSF_issue 146 = .ok (.invokevirtual 90, 3) := by decide +kernel
theorem dSF_issue_149 : decode bSF_issue 149 = .ok (.aload_n 0, 1) := by decide +kernel
theorem dSF_issue_150 : decode bSF_issue 150 = .ok (.dup, 1) := by decide +kernel
theorem dSF_issue_151 : decode bSF_issue 151 = .ok (.getfield 44, 3) := by decide +kernel
theorem dSF_issue_154 : decode bSF_issue 154 = .ok (.iconst 1, 1) := by decide +kernel
theorem dSF_issue_155 : decode bSF_issue 155 = .ok (.iadd, 1) := by decide +kernel
theorem dSF_issue_156 : decode bSF_issue 156 = .ok (.putfield 44, 3) := by decide +kernel
theorem dSF_issue_159 : decode bSF_issue 159 = .ok (.return_, 1) := by decide +kernel
theorem dSF_checkRequest_0 : decode bSF_checkRequest 0 = .ok (.iload_n 0, 1) := by decide +kernel
theorem dSF_checkRequest_1 : decode bSF_checkRequest 1 = .ok (.ifCond .lt 12, 3) := by decide +kernel
theorem dSF_checkRequest_4 : decode bSF_checkRequest 4 = .ok (.iload_n 0, 1) := by decide +kernel
theorem dSF_checkRequest_5 : decode bSF_checkRequest 5 = .ok (.iconst 4, 1) := by decide +kernel
theorem dSF_checkRequest_6 : decode bSF_checkRequest 6 = .ok (.if_icmp .gt 7, 3) := by decide +kernel
theorem dSF_checkRequest_9 : decode bSF_checkRequest 9 = .ok (.iconst 1, 1) := by decide +kernel
theorem dSF_checkRequest_10 : decode bSF_checkRequest 10 = .ok (.goto 4, 3) := by decide +kernel
theorem dSF_checkRequest_13 : decode bSF_checkRequest 13 = .ok (.iconst 0, 1) := by decide +kernel
theorem dSF_checkRequest_14 : decode bSF_checkRequest 14 = .ok (.invokestatic 118, 3) := by decide +kernel
theorem dSF_checkRequest_17 : decode bSF_checkRequest 17 = .ok (.iload_n 0, 1) := by decide +kernel
theorem dSF_checkRequest_18 : decode bSF_checkRequest 18 = .ok (.iconst 4, 1) := by decide +kernel
theorem dSF_checkRequest_19 : decode bSF_checkRequest 19 = .ok (.if_icmp .ne 4, 3) := by decide +kernel
theorem dSF_checkRequest_22 : decode bSF_checkRequest 22 = .ok (.return_, 1) := by decide +kernel
theorem dSF_checkRequest_23 : decode bSF_checkRequest 23 = .ok (.iload_n 0, 1) := by decide +kernel
theorem dSF_checkRequest_24 : decode bSF_checkRequest 24 = .ok (.iconst 2, 1) := by decide +kernel
theorem dSF_checkRequest_25 : decode bSF_checkRequest 25 = .ok (.if_icmp .eq 8, 3) := by decide +kernel
theorem dSF_checkRequest_28 : decode bSF_checkRequest 28 = .ok (.iload_n 0, 1) := by decide +kernel
theorem dSF_checkRequest_29 : decode bSF_checkRequest 29 = .ok (.iconst 3, 1) := by decide +kernel
theorem dSF_checkRequest_30 : decode bSF_checkRequest 30 = .ok (.if_icmp .ne 7, 3) := by decide +kernel
theorem dSF_checkRequest_33 : decode bSF_checkRequest 33 = .ok (.iconst 1, 1) := by decide +kernel
theorem dSF_checkRequest_34 : decode bSF_checkRequest 34 = .ok (.goto 4, 3) := by decide +kernel
theorem dSF_checkRequest_37 : decode bSF_checkRequest 37 = .ok (.iconst 4, 1) := by decide +kernel
theorem dSF_checkRequest_38 : decode bSF_checkRequest 38 = .ok (.istore_n 3, 1) := by decide +kernel
theorem dSF_checkRequest_39 : decode bSF_checkRequest 39 = .ok (.iload_n 1, 1) := by decide +kernel
theorem dSF_checkRequest_40 : decode bSF_checkRequest 40 = .ok (.ifCond .lt 13, 3) := by decide +kernel
theorem dSF_checkRequest_43 : decode bSF_checkRequest 43 = .ok (.iload_n 1, 1) := by decide +kernel
theorem dSF_checkRequest_44 : decode bSF_checkRequest 44 = .ok (.bipush 64, 2) := by decide +kernel
theorem dSF_checkRequest_46 : decode bSF_checkRequest 46 = .ok (.if_icmp .ge 7, 3) := by decide +kernel
theorem dSF_checkRequest_49 : decode bSF_checkRequest 49 = .ok (.iconst 1, 1) := by decide +kernel
theorem dSF_checkRequest_50 : decode bSF_checkRequest 50 = .ok (.goto 4, 3) := by decide +kernel
theorem dSF_checkRequest_53 : decode bSF_checkRequest 53 = .ok (.iconst 0, 1) := by decide +kernel
theorem dSF_checkRequest_54 : decode bSF_checkRequest 54 = .ok (.invokestatic 118, 3) := by decide +kernel
theorem dSF_checkRequest_57 : decode bSF_checkRequest 57 = .ok (.iload_n 2, 1) := by decide +kernel
theorem dSF_checkRequest_58 : decode bSF_checkRequest 58 = .ok (.iconst 1, 1) := by decide +kernel
theorem dSF_checkRequest_59 : decode bSF_checkRequest 59 = .ok (.if_icmp .lt 12, 3) := by decide +kernel
theorem dSF_checkRequest_62 : decode bSF_checkRequest 62 = .ok (.iload_n 2, 1) := by decide +kernel
theorem dSF_checkRequest_63 : decode bSF_checkRequest 63 = .ok (.iload_n 3, 1) := by decide +kernel
theorem dSF_checkRequest_64 : decode bSF_checkRequest 64 = .ok (.if_icmp .gt 7, 3) := by decide +kernel
theorem dSF_checkRequest_67 : decode bSF_checkRequest 67 = .ok (.iconst 1, 1) := by decide +kernel
theorem dSF_checkRequest_68 : decode bSF_checkRequest 68 = .ok (.goto 4, 3) := by decide +kernel
theorem dSF_checkRequest_71 : decode bSF_checkRequest 71 = .ok (.iconst 0, 1) := by decide +kernel
theorem dSF_checkRequest_72 : decode bSF_checkRequest 72 = .ok (.invokestatic 118, 3) := by decide +kernel
theorem dSF_checkRequest_75 : decode bSF_checkRequest 75 = .ok (.iload_n 1, 1) := by decide +kernel
theorem dSF_checkRequest_76 : decode bSF_checkRequest 76 = .ok (.bipush 16, 2) := by decide +kernel
theorem dSF_checkRequest_78 : decode bSF_checkRequest 78 = .ok (.idiv, 1) := by decide +kernel
theorem dSF_checkRequest_79 : decode bSF_checkRequest 79 = .ok (.iload_n 1, 1) := by decide +kernel
theorem dSF_checkRequest_80 : decode bSF_checkRequest 80 = .ok (.iload_n 2, 1) := by decide +kernel
theorem dSF_checkRequest_81 : decode bSF_checkRequest 81 = .ok (.iadd, 1) := by decide +kernel
theorem dSF_checkRequest_82 : decode bSF_checkRequest 82 = .ok (.iconst 1, 1) := by decide +kernel
theorem dSF_checkRequest_83 : decode bSF_checkRequest 83 = .ok (.isub, 1) := by decide +kernel
theorem dSF_checkRequest_84 : decode bSF_checkRequest 84 = .ok (.bipush 16, 2) := by decide +kernel
theorem dSF_checkRequest_86 : decode bSF_checkRequest 86 = .ok (.idiv, 1) := by decide +kernel
theorem dSF_checkRequest_87 : decode bSF_checkRequest 87 = .ok (.if_icmp .ne 7, 3) := by decide +kernel
theorem dSF_checkRequest_90 : decode bSF_checkRequest 90 = .ok (.iconst 1, 1) := by decide +kernel
theorem dSF_checkRequest_91 : decode bSF_checkRequest 91 = .ok (.goto 4, 3) := by decide +kernel
theorem dSF_checkRequest_94 : decode bSF_checkRequest 94 = .ok (.iconst 0, 1) := by decide +kernel
theorem dSF_checkRequest_95 : decode bSF_checkRequest 95 = .ok (.invokestatic 118, 3) := by decide +kernel
theorem dSF_checkRequest_98 : decode bSF_checkRequest 98 = .ok (.return_, 1) := by decide +kernel
theorem dSF_checkArgument_0 : decode bSF_checkArgument 0 = .ok (.iload_n 0, 1) := by decide +kernel
theorem dSF_checkArgument_1 : decode bSF_checkArgument 1 = .ok (.ifCond .ne 11, 3) := by decide +kernel
theorem dSF_checkArgument_4 : decode bSF_checkArgument 4 = .ok (.new 164, 3) := by decide +kernel
theorem dSF_checkArgument_7 : decode bSF_checkArgument 7 = .ok (.dup, 1) := by decide +kernel
theorem dSF_checkArgument_8 : decode bSF_checkArgument 8 = .ok (.invokespecial 166, 3) := by decide +kernel
theorem dSF_checkArgument_11 : decode bSF_checkArgument 11 = .ok (.athrow, 1) := by decide +kernel
theorem dSF_checkArgument_12 : decode bSF_checkArgument 12 = .ok (.return_, 1) := by decide +kernel
theorem dSF_checkState_0 : decode bSF_checkState 0 = .ok (.iload_n 0, 1) := by decide +kernel
theorem dSF_checkState_1 : decode bSF_checkState 1 = .ok (.ifCond .ne 11, 3) := by decide +kernel
theorem dSF_checkState_4 : decode bSF_checkState 4 = .ok (.new 167, 3) := by decide +kernel
theorem dSF_checkState_7 : decode bSF_checkState 7 = .ok (.dup, 1) := by decide +kernel
theorem dSF_checkState_8 : decode bSF_checkState 8 = .ok (.invokespecial 169, 3) := by decide +kernel
theorem dSF_checkState_11 : decode bSF_checkState 11 = .ok (.athrow, 1) := by decide +kernel
theorem dSF_checkState_12 : decode bSF_checkState 12 = .ok (.return_, 1) := by decide +kernel
theorem dSF_holdsSome_0 : decode bSF_holdsSome 0 = .ok (.iconst 0, 1) := by decide +kernel
theorem dSF_holdsSome_1 : decode bSF_holdsSome 1 = .ok (.istore_n 2, 1) := by decide +kernel
theorem dSF_holdsSome_2 : decode bSF_holdsSome 2 = .ok (.iload_n 2, 1) := by decide +kernel
theorem dSF_holdsSome_3 : decode bSF_holdsSome 3 = .ok (.iconst 3, 1) := by decide +kernel
theorem dSF_holdsSome_4 : decode bSF_holdsSome 4 = .ok (.if_icmp .ge 24, 3) := by decide +kernel
theorem dSF_holdsSome_7 : decode bSF_holdsSome 7 = .ok (.aload_n 0, 1) := by decide +kernel
theorem dSF_holdsSome_8 : decode bSF_holdsSome 8 = .ok (.getfield 17, 3) := by decide +kernel
theorem dSF_holdsSome_11 : decode bSF_holdsSome 11 = .ok (.iload_n 2, 1) := by decide +kernel
theorem dSF_holdsSome_12 : decode bSF_holdsSome 12 = .ok (.aaload, 1) := by decide +kernel
theorem dSF_holdsSome_13 : decode bSF_holdsSome 13 = .ok (.getfield 142, 3) := by decide +kernel
theorem dSF_holdsSome_16 : decode bSF_holdsSome 16 = .ok (.iload_n 1, 1) := by decide +kernel
theorem dSF_holdsSome_17 : decode bSF_holdsSome 17 = .ok (.if_icmp .ne 5, 3) := by decide +kernel
theorem dSF_holdsSome_20 : decode bSF_holdsSome 20 = .ok (.iconst 1, 1) := by decide +kernel
theorem dSF_holdsSome_21 : decode bSF_holdsSome 21 = .ok (.ireturn, 1) := by decide +kernel
theorem dSF_holdsSome_22 : decode bSF_holdsSome 22 = .ok (.iinc 2 1, 3) := by decide +kernel
theorem dSF_holdsSome_25 : decode bSF_holdsSome 25 = .ok (.goto (-23), 3) := by decide +kernel
theorem dSF_holdsSome_28 : decode bSF_holdsSome 28 = .ok (.iconst 0, 1) := by decide +kernel
theorem dSF_holdsSome_29 : decode bSF_holdsSome 29 = .ok (.ireturn, 1) := by decide +kernel
theorem dSF_hasWaiting_0 : decode bSF_hasWaiting 0 = .ok (.iconst 0, 1) := by decide +kernel
theorem dSF_hasWaiting_1 : decode bSF_hasWaiting 1 = .ok (.istore_n 3, 1) := by decide +kernel
theorem dSF_hasWaiting_2 : decode bSF_hasWaiting 2 = .ok (.iload_n 3, 1) := by decide +kernel
theorem dSF_hasWaiting_3 : decode bSF_hasWaiting 3 = .ok (.iconst 4, 1) := by decide +kernel
theorem dSF_hasWaiting_4 : decode bSF_hasWaiting 4 = .ok (.if_icmp .ge 37, 3) := by decide +kernel
theorem dSF_hasWaiting_7 : decode bSF_hasWaiting 7 = .ok (.aload_n 0, 1) := by decide +kernel
theorem dSF_hasWaiting_8 : decode bSF_hasWaiting 8 = .ok (.iload_n 1, 1) := by decide +kernel
theorem dSF_hasWaiting_9 : decode bSF_hasWaiting 9 = .ok (.iload_n 3, 1) := by decide +kernel
theorem dSF_hasWaiting_10 : decode bSF_hasWaiting 10 = .ok (.invokevirtual 64, 3) := by decide +kernel
theorem dSF_hasWaiting_13 : decode bSF_hasWaiting 13 = .ok (.astore 4, 2) := by decide +kernel
theorem dSF_hasWaiting_15 : decode bSF_hasWaiting 15 = .ok (.aload 4, 2) := by decide +kernel
theorem dSF_hasWaiting_17 : decode bSF_hasWaiting 17 = .ok (.getfield 68, 3) := by decide +kernel
theorem dSF_hasWaiting_20 : decode bSF_hasWaiting 20 = .ok (.iconst 1, 1) := by decide +kernel
theorem dSF_hasWaiting_21 : decode bSF_hasWaiting 21 = .ok (.if_icmp .ne 14, 3) := by decide +kernel
theorem dSF_hasWaiting_24 : decode bSF_hasWaiting 24 = .ok (.aload 4, 2) := by decide +kernel
theorem dSF_hasWaiting_26 : decode bSF_hasWaiting 26 = .ok (.getfield 173, 3) := by decide +kernel
theorem dSF_hasWaiting_29 : decode bSF_hasWaiting 29 = .ok (.iload_n 2, 1) := by decide +kernel
theorem dSF_hasWaiting_30 : decode bSF_hasWaiting 30 = .ok (.if_icmp .ne 5, 3) := by decide +kernel
theorem dSF_hasWaiting_33 : decode bSF_hasWaiting 33 = .ok (.iconst 1, 1) := by decide +kernel
theorem dSF_hasWaiting_34 : decode bSF_hasWaiting 34 = .ok (.ireturn, 1) := by decide +kernel
theorem dSF_hasWaiting_35 : decode bSF_hasWaiting 35 = .ok (.iinc 3 1, 3) := by decide +kernel
theorem dSF_hasWaiting_38 : decode bSF_hasWaiting 38 = .ok (.goto (-36), 3) := by decide +kernel
theorem dSF_hasWaiting_41 : decode bSF_hasWaiting 41 = .ok (.iconst 0, 1) := by decide +kernel
theorem dSF_hasWaiting_42 : decode bSF_hasWaiting 42 = .ok (.ireturn, 1) := by decide +kernel
theorem dSF_holdsTargetOf_0 : decode bSF_holdsTargetOf 0 = .ok (.iload_n 2, 1) := by decide +kernel
theorem dSF_holdsTargetOf_1 : decode bSF_holdsTargetOf 1 = .ok (.bipush 48, 2) := by decide +kernel
theorem dSF_holdsTargetOf_3 : decode bSF_holdsTargetOf 3 = .ok (.if_icmp .ge 23, 3) := by decide +kernel
theorem dSF_holdsTargetOf_6 : decode bSF_holdsTargetOf 6 = .ok (.aload_n 0, 1) := by decide +kernel
theorem dSF_holdsTargetOf_7 : decode bSF_holdsTargetOf 7 = .ok (.getfield 17, 3) := by decide +kernel
theorem dSF_holdsTargetOf_10 : decode bSF_holdsTargetOf 10 = .ok (.iload_n 2, 1) := by decide +kernel
theorem dSF_holdsTargetOf_11 : decode bSF_holdsTargetOf 11 = .ok (.bipush 16, 2) := by decide +kernel
theorem dSF_holdsTargetOf_13 : decode bSF_holdsTargetOf 13 = .ok (.idiv, 1) := by decide +kernel
theorem dSF_holdsTargetOf_14 : decode bSF_holdsTargetOf 14 = .ok (.aaload, 1) := by decide +kernel
theorem dSF_holdsTargetOf_15 : decode bSF_holdsTargetOf 15 = .ok (.getfield 142, 3) := by decide +kernel
theorem dSF_holdsTargetOf_18 : decode bSF_holdsTargetOf 18 = .ok (.iload_n 1, 1) := by decide +kernel
theorem dSF_holdsTargetOf_19 : decode bSF_holdsTargetOf 19 = .ok (.if_icmp .ne 7, 3) := by decide +kernel
theorem dSF_holdsTargetOf_22 : decode bSF_holdsTargetOf 22 = .ok (.iconst 1, 1) := by decide +kernel
theorem dSF_holdsTargetOf_23 : decode bSF_holdsTargetOf 23 = .ok (.goto 4, 3) := by decide +kernel
theorem dSF_holdsTargetOf_26 : decode bSF_holdsTargetOf 26 = .ok (.iconst 0, 1) := by decide +kernel
theorem dSF_holdsTargetOf_27 : decode bSF_holdsTargetOf 27 = .ok (.ireturn, 1) := by decide +kernel
theorem dSF_ready_0 : decode bSF_ready 0 = .ok (.iload_n 1, 1) := by decide +kernel
theorem dSF_ready_1 : decode bSF_ready 1 = .ok (.iconst 3, 1) := by decide +kernel
theorem dSF_ready_2 : decode bSF_ready 2 = .ok (.invokestatic 57, 3) := by decide +kernel
theorem dSF_ready_5 : decode bSF_ready 5 = .ok (.aload_n 0, 1) := by decide +kernel
theorem dSF_ready_6 : decode bSF_ready 6 = .ok (.getfield 17, 3) := by decide +kernel
theorem dSF_ready_9 : decode bSF_ready 9 = .ok (.iload_n 1, 1) := by decide +kernel
theorem dSF_ready_10 : decode bSF_ready 10 = .ok (.aaload, 1) := by decide +kernel
theorem dSF_ready_11 : decode bSF_ready 11 = .ok (.iload_n 2, 1) := by decide +kernel
theorem dSF_ready_12 : decode bSF_ready 12 = .ok (.putfield 94, 3) := by decide +kernel
theorem dSF_ready_15 : decode bSF_ready 15 = .ok (.return_, 1) := by decide +kernel
theorem dSF_cycles_0 : decode bSF_cycles 0 = .ok (.iload_n 1, 1) := by decide +kernel
theorem dSF_cycles_1 : decode bSF_cycles 1 = .ok (.iconst 1, 1) := by decide +kernel
theorem dSF_cycles_2 : decode bSF_cycles 2 = .ok (.if_icmp .lt 13, 3) := by decide +kernel
theorem dSF_cycles_5 : decode bSF_cycles 5 = .ok (.iload_n 1, 1) := by decide +kernel
theorem dSF_cycles_6 : decode bSF_cycles 6 = .ok (.bipush 100, 2) := by decide +kernel
theorem dSF_cycles_8 : decode bSF_cycles 8 = .ok (.if_icmp .gt 7, 3) := by decide +kernel
theorem dSF_cycles_11 : decode bSF_cycles 11 = .ok (.iconst 1, 1) := by decide +kernel
theorem dSF_cycles_12 : decode bSF_cycles 12 = .ok (.goto 4, 3) := by decide +kernel
theorem dSF_cycles_15 : decode bSF_cycles 15 = .ok (.iconst 0, 1) := by decide +kernel
theorem dSF_cycles_16 : decode bSF_cycles 16 = .ok (.invokestatic 118, 3) := by decide +kernel
theorem dSF_cycles_19 : decode bSF_cycles 19 = .ok (.iconst 0, 1) := by decide +kernel
theorem dSF_cycles_20 : decode bSF_cycles 20 = .ok (.istore_n 2, 1) := by decide +kernel
theorem dSF_cycles_21 : decode bSF_cycles 21 = .ok (.iconst 0, 1) := by decide +kernel
theorem dSF_cycles_22 : decode bSF_cycles 22 = .ok (.istore_n 3, 1) := by decide +kernel
theorem dSF_cycles_23 : decode bSF_cycles 23 = .ok (.iload_n 3, 1) := by decide +kernel
theorem dSF_cycles_24 : decode bSF_cycles 24 = .ok (.iload_n 1, 1) := by decide +kernel
theorem dSF_cycles_25 : decode bSF_cycles 25 = .ok (.if_icmp .ge 20, 3) := by decide +kernel
theorem dSF_cycles_28 : decode bSF_cycles 28 = .ok (.aload_n 0, 1) := by decide +kernel
theorem dSF_cycles_29 : decode bSF_cycles 29 = .ok (.invokevirtual 121, 3) := by decide +kernel
theorem dSF_cycles_32 : decode bSF_cycles 32 = .ok (.iconst (-1), 1) := by decide +kernel
theorem dSF_cycles_33 : decode bSF_cycles 33 = .ok (.if_icmp .eq 6, 3) := by decide +kernel
theorem dSF_cycles_36 : decode bSF_cycles 36 = .ok (.iinc 2 1, 3) := by decide +kernel
theorem dSF_cycles_39 : decode bSF_cycles 39 = .ok (.iinc 3 1, 3) := by decide +kernel
theorem dSF_cycles_42 : decode bSF_cycles 42 = .ok (.goto (-19), 3) := by decide +kernel
theorem dSF_cycles_45 : decode bSF_cycles 45 = .ok (.iload_n 2, 1) := by decide +kernel
theorem dSF_cycles_46 : decode bSF_cycles 46 = .ok (.ireturn, 1) := by decide +kernel
theorem dSF_state_0 : decode bSF_state 0 = .ok (.iload_n 1, 1) := by decide +kernel
theorem dSF_state_1 : decode bSF_state 1 = .ok (.iconst 4, 1) := by decide +kernel
theorem dSF_state_2 : decode bSF_state 2 = .ok (.invokestatic 57, 3) := by decide +kernel
theorem dSF_state_5 : decode bSF_state 5 = .ok (.iload_n 2, 1) := by decide +kernel
theorem dSF_state_6 : decode bSF_state 6 = .ok (.iconst 4, 1) := by decide +kernel
theorem dSF_state_7 : decode bSF_state 7 = .ok (.invokestatic 57, 3) := by decide +kernel
theorem dSF_state_10 : decode bSF_state 10 = .ok (.aload_n 0, 1) := by decide +kernel
theorem dSF_state_11 : decode bSF_state 11 = .ok (.iload_n 1, 1) := by decide +kernel
theorem dSF_state_12 : decode bSF_state 12 = .ok (.iload_n 2, 1) := by decide +kernel
theorem dSF_state_13 : decode bSF_state 13 = .ok (.invokevirtual 64, 3) := by decide +kernel
theorem dSF_state_16 : decode bSF_state 16 = .ok (.getfield 68, 3) := by decide +kernel
theorem dSF_state_19 : decode bSF_state 19 = .ok (.ireturn, 1) := by decide +kernel
theorem dSF_word_0 : decode bSF_word 0 = .ok (.iload_n 1, 1) := by decide +kernel
theorem dSF_word_1 : decode bSF_word 1 = .ok (.iconst 4, 1) := by decide +kernel
theorem dSF_word_2 : decode bSF_word 2 = .ok (.invokestatic 57, 3) := by decide +kernel
theorem dSF_word_5 : decode bSF_word 5 = .ok (.iload_n 2, 1) := by decide +kernel
theorem dSF_word_6 : decode bSF_word 6 = .ok (.iconst 4, 1) := by decide +kernel
theorem dSF_word_7 : decode bSF_word 7 = .ok (.invokestatic 57, 3) := by decide +kernel
theorem dSF_word_10 : decode bSF_word 10 = .ok (.iload_n 3, 1) := by decide +kernel
theorem dSF_word_11 : decode bSF_word 11 = .ok (.iconst 4, 1) := by decide +kernel
theorem dSF_word_12 : decode bSF_word 12 = .ok (.invokestatic 57, 3) := by decide +kernel
theorem dSF_word_15 : decode bSF_word 15 = .ok (.aload_n 0, 1) := by decide +kernel
theorem dSF_word_16 : decode bSF_word 16 = .ok (.iload_n 1, 1) := by decide +kernel
theorem dSF_word_17 : decode bSF_word 17 = .ok (.iload_n 2, 1) := by decide +kernel
theorem dSF_word_18 : decode bSF_word 18 = .ok (.invokevirtual 64, 3) := by decide +kernel
theorem dSF_word_21 : decode bSF_word 21 = .ok (.astore 4, 2) := by decide +kernel
theorem dSF_word_23 : decode bSF_word 23 = .ok (.aload 4, 2) := by decide +kernel
theorem dSF_word_25 : decode bSF_word 25 = .ok (.getfield 68, 3) := by decide +kernel
theorem dSF_word_28 : decode bSF_word 28 = .ok (.iconst 3, 1) := by decide +kernel
theorem dSF_word_29 : decode bSF_word 29 = .ok (.if_icmp .ne 24, 3) := by decide +kernel
theorem dSF_word_32 : decode bSF_word 32 = .ok (.aload 4, 2) := by decide +kernel
theorem dSF_word_34 : decode bSF_word 34 = .ok (.invokevirtual 125, 3) := by decide +kernel
theorem dSF_word_37 : decode bSF_word 37 = .ok (.ifCond .eq 16, 3) := by decide +kernel
theorem dSF_word_40 : decode bSF_word 40 = .ok (.iload_n 3, 1) := by decide +kernel
theorem dSF_word_41 : decode bSF_word 41 = .ok (.aload 4, 2) := by decide +kernel
theorem dSF_word_43 : decode bSF_word 43 = .ok (.getfield 129, 3) := by decide +kernel
theorem dSF_word_46 : decode bSF_word 46 = .ok (.if_icmp .ge 7, 3) := by decide +kernel
theorem dSF_word_49 : decode bSF_word 49 = .ok (.iconst 1, 1) := by decide +kernel
theorem dSF_word_50 : decode bSF_word 50 = .ok (.goto 4, 3) := by decide +kernel
theorem dSF_word_53 : decode bSF_word 53 = .ok (.iconst 0, 1) := by decide +kernel
theorem dSF_word_54 : decode bSF_word 54 = .ok (.invokestatic 71, 3) := by decide +kernel
theorem dSF_word_57 : decode bSF_word 57 = .ok (.aload 4, 2) := by decide +kernel
theorem dSF_word_59 : decode bSF_word 59 = .ok (.getfield 132, 3) := by decide +kernel
theorem dSF_word_62 : decode bSF_word 62 = .ok (.iload_n 3, 1) := by decide +kernel
theorem dSF_word_63 : decode bSF_word 63 = .ok (.iaload, 1) := by decide +kernel
theorem dSF_word_64 : decode bSF_word 64 = .ok (.ireturn, 1) := by decide +kernel
theorem dSF_take_0 : decode bSF_take 0 = .ok (.iload_n 1, 1) := by decide +kernel
theorem dSF_take_1 : decode bSF_take 1 = .ok (.iconst 4, 1) := by decide +kernel
theorem dSF_take_2 : decode bSF_take 2 = .ok (.invokestatic 57, 3) := by decide +kernel
theorem dSF_take_5 : decode bSF_take 5 = .ok (.iload_n 2, 1) := by decide +kernel
theorem dSF_take_6 : decode bSF_take 6 = .ok (.iconst 4, 1) := by decide +kernel
theorem dSF_take_7 : decode bSF_take 7 = .ok (.invokestatic 57, 3) := by decide +kernel
theorem dSF_take_10 : decode bSF_take 10 = .ok (.aload_n 0, 1) := by decide +kernel
theorem dSF_take_11 : decode bSF_take 11 = .ok (.iload_n 1, 1) := by decide +kernel
theorem dSF_take_12 : decode bSF_take 12 = .ok (.iload_n 2, 1) := by decide +kernel
theorem dSF_take_13 : decode bSF_take 13 = .ok (.invokevirtual 64, 3) := by decide +kernel
theorem dSF_take_16 : decode bSF_take 16 = .ok (.astore_n 3, 1) := by decide +kernel
theorem dSF_take_17 : decode bSF_take 17 = .ok (.aload_n 3, 1) := by decide +kernel
theorem dSF_take_18 : decode bSF_take 18 = .ok (.getfield 68, 3) := by decide +kernel
theorem dSF_take_21 : decode bSF_take 21 = .ok (.iconst 3, 1) := by decide +kernel
theorem dSF_take_22 : decode bSF_take 22 = .ok (.if_icmp .eq 11, 3) := by decide +kernel
theorem dSF_take_25 : decode bSF_take 25 = .ok (.aload_n 3, 1) := by decide +kernel
theorem dSF_take_26 : decode bSF_take 26 = .ok (.getfield 68, 3) := by decide +kernel
theorem dSF_take_29 : decode bSF_take 29 = .ok (.iconst 4, 1) := by decide +kernel
theorem dSF_take_30 : decode bSF_take 30 = .ok (.if_icmp .ne 7, 3) := by decide +kernel
theorem dSF_take_33 : decode bSF_take 33 = .ok (.iconst 1, 1) := by decide +kernel
theorem dSF_take_34 : decode bSF_take 34 = .ok (.goto 4, 3) := by decide +kernel
theorem dSF_take_37 : decode bSF_take 37 = .ok (.iconst 0, 1) := by decide +kernel
theorem dSF_take_38 : decode bSF_take 38 = .ok (.invokestatic 71, 3) := by decide +kernel
theorem dSF_take_41 : decode bSF_take 41 = .ok (.aload_n 3, 1) := by decide +kernel
theorem dSF_take_42 : decode bSF_take 42 = .ok (.getfield 68, 3) := by decide +kernel
theorem dSF_take_45 : decode bSF_take 45 = .ok (.iconst 3, 1) := by decide +kernel
theorem dSF_take_46 : decode bSF_take 46 = .ok (.if_icmp .ne 7, 3) := by decide +kernel
theorem dSF_take_49 : decode bSF_take 49 = .ok (.iconst 1, 1) := by decide +kernel
theorem dSF_take_50 : decode bSF_take 50 = .ok (.goto 4, 3) := by decide +kernel
theorem dSF_take_53 : decode bSF_take 53 = .ok (.iconst 0, 1) := by decide +kernel
theorem dSF_take_54 : decode bSF_take 54 = .ok (.istore 4, 2) := by decide +kernel
theorem dSF_take_56 : decode bSF_take 56 = .ok (.aload_n 3, 1) := by decide +kernel
theorem dSF_take_57 : decode bSF_take 57 = .ok (.iconst 0, 1) := by decide +kernel
theorem dSF_take_58 : decode bSF_take 58 = .ok (.putfield 68, 3) := by decide +kernel
theorem dSF_take_61 : decode bSF_take 61 = .ok (.iload 4, 2) := by decide +kernel
theorem dSF_take_63 : decode bSF_take 63 = .ok (.ireturn, 1) := by decide +kernel
theorem dSF_base_0 : decode bSF_base 0 = .ok (.iload_n 1, 1) := by decide +kernel
theorem dSF_base_1 : decode bSF_base 1 = .ok (.iconst 4, 1) := by decide +kernel
theorem dSF_base_2 : decode bSF_base 2 = .ok (.invokestatic 57, 3) := by decide +kernel
theorem dSF_base_5 : decode bSF_base 5 = .ok (.iload_n 2, 1) := by decide +kernel
theorem dSF_base_6 : decode bSF_base 6 = .ok (.ifCond .lt 12, 3) := by decide +kernel
theorem dSF_base_9 : decode bSF_base 9 = .ok (.iload_n 2, 1) := by decide +kernel
theorem dSF_base_10 : decode bSF_base 10 = .ok (.iconst 2, 1) := by decide +kernel
theorem dSF_base_11 : decode bSF_base 11 = .ok (.if_icmp .gt 7, 3) := by decide +kernel
theorem dSF_base_14 : decode bSF_base 14 = .ok (.iconst 1, 1) := by decide +kernel
theorem dSF_base_15 : decode bSF_base 15 = .ok (.goto 4, 3) := by decide +kernel
theorem dSF_base_18 : decode bSF_base 18 = .ok (.iconst 0, 1) := by decide +kernel
theorem dSF_base_19 : decode bSF_base 19 = .ok (.invokestatic 118, 3) := by decide +kernel
theorem dSF_base_22 : decode bSF_base 22 = .ok (.aload_n 0, 1) := by decide +kernel
theorem dSF_base_23 : decode bSF_base 23 = .ok (.getfield 30, 3) := by decide +kernel
theorem dSF_base_26 : decode bSF_base 26 = .ok (.iload_n 1, 1) := by decide +kernel
theorem dSF_base_27 : decode bSF_base 27 = .ok (.iload_n 2, 1) := by decide +kernel
theorem dSF_base_28 : decode bSF_base 28 = .ok (.iastore, 1) := by decide +kernel
theorem dSF_base_29 : decode bSF_base 29 = .ok (.return_, 1) := by decide +kernel
theorem dSF_waits_0 : decode bSF_waits 0 = .ok (.iload_n 1, 1) := by decide +kernel
theorem dSF_waits_1 : decode bSF_waits 1 = .ok (.iconst 4, 1) := by decide +kernel
theorem dSF_waits_2 : decode bSF_waits 2 = .ok (.invokestatic 57, 3) := by decide +kernel
theorem dSF_waits_5 : decode bSF_waits 5 = .ok (.aconst_null, 1) := by decide +kernel
theorem dSF_waits_6 : decode bSF_waits 6 = .ok (.astore_n 2, 1) := by decide +kernel
theorem dSF_waits_7 : decode bSF_waits 7 = .ok (.iconst 0, 1) := by decide +kernel
theorem dSF_waits_8 : decode bSF_waits 8 = .ok (.istore_n 3, 1) := by decide +kernel
theorem dSF_waits_9 : decode bSF_waits 9 = .ok (.iload_n 3, 1) := by decide +kernel
theorem dSF_waits_10 : decode bSF_waits 10 = .ok (.iconst 4, 1) := by decide +kernel
theorem dSF_waits_11 : decode bSF_waits 11 = .ok (.if_icmp .ge 42, 3) := by decide +kernel
theorem dSF_waits_14 : decode bSF_waits 14 = .ok (.aload_n 0, 1) := by decide +kernel
theorem dSF_waits_15 : decode bSF_waits 15 = .ok (.iload_n 1, 1) := by decide +kernel
theorem dSF_waits_16 : decode bSF_waits 16 = .ok (.iload_n 3, 1) := by decide +kernel
theorem dSF_waits_17 : decode bSF_waits 17 = .ok (.invokevirtual 64, 3) := by decide +kernel
theorem dSF_waits_20 : decode bSF_waits 20 = .ok (.astore 4, 2) := by decide +kernel
theorem dSF_waits_22 : decode bSF_waits 22 = .ok (.aload 4, 2) := by decide +kernel
theorem dSF_waits_24 : decode bSF_waits 24 = .ok (.getfield 68, 3) := by decide +kernel
theorem dSF_waits_27 : decode bSF_waits 27 = .ok (.iconst 1, 1) := by decide +kernel
theorem dSF_waits_28 : decode bSF_waits 28 = .ok (.if_icmp .ne 19, 3) := by decide +kernel
theorem dSF_waits_31 : decode bSF_waits 31 = .ok (.aload_n 2, 1) := by decide +kernel
theorem dSF_waits_32 : decode bSF_waits 32 = .ok (.ifnull 12, 3) := by decide +kernel
theorem dSF_waits_35 : decode bSF_waits 35 = .ok (.aload 4, 2) := by decide +kernel
theorem dSF_waits_37 : decode bSF_waits 37 = .ok (.aload_n 2, 1) := by decide +kernel
theorem dSF_waits_38 : decode bSF_waits 38 = .ok (.invokevirtual 135, 3) := by decide +kernel
theorem dSF_waits_41 : decode bSF_waits 41 = .ok (.ifCond .eq 6, 3) := by decide +kernel
theorem dSF_waits_44 : decode bSF_waits 44 = .ok (.aload 4, 2) := by decide +kernel
theorem dSF_waits_46 : decode bSF_waits 46 = .ok (.astore_n 2, 1) := by decide +kernel
theorem dSF_waits_47 : decode bSF_waits 47 = .ok (.iinc 3 1, 3) := by decide +kernel
theorem dSF_waits_50 : decode bSF_waits 50 = .ok (.goto (-41), 3) := by decide +kernel
theorem dSF_waits_53 : decode bSF_waits 53 = .ok (.aload_n 2, 1) := by decide +kernel
theorem dSF_waits_54 : decode bSF_waits 54 = .ok (.ifnonnull 7, 3) := by decide +kernel
theorem dSF_waits_57 : decode bSF_waits 57 = .ok (.iconst (-1), 1) := by decide +kernel
theorem dSF_waits_58 : decode bSF_waits 58 = .ok (.goto 7, 3) := by decide +kernel
theorem dSF_waits_61 : decode bSF_waits 61 = .ok (.aload_n 2, 1) := by decide +kernel
theorem dSF_waits_62 : decode bSF_waits 62 = .ok (.getfield 139, 3) := by decide +kernel
theorem dSF_waits_65 : decode bSF_waits 65 = .ok (.ireturn, 1) := by decide +kernel
theorem dSF_reset_0 : decode bSF_reset 0 = .ok (.iload_n 1, 1) := by decide +kernel
theorem dSF_reset_1 : decode bSF_reset 1 = .ok (.iconst 4, 1) := by decide +kernel
theorem dSF_reset_2 : decode bSF_reset 2 = .ok (.invokestatic 57, 3) := by decide +kernel
theorem dSF_reset_5 : decode bSF_reset 5 = .ok (.iconst 0, 1) := by decide +kernel
theorem dSF_reset_6 : decode bSF_reset 6 = .ok (.istore_n 2, 1) := by decide +kernel
theorem dSF_reset_7 : decode bSF_reset 7 = .ok (.iconst 0, 1) := by decide +kernel
theorem dSF_reset_8 : decode bSF_reset 8 = .ok (.istore_n 3, 1) := by decide +kernel
theorem dSF_reset_9 : decode bSF_reset 9 = .ok (.iload_n 3, 1) := by decide +kernel
theorem dSF_reset_10 : decode bSF_reset 10 = .ok (.iconst 4, 1) := by decide +kernel
theorem dSF_reset_11 : decode bSF_reset 11 = .ok (.if_icmp .ge 35, 3) := by decide +kernel
theorem dSF_reset_14 : decode bSF_reset 14 = .ok (.aload_n 0, 1) := by decide +kernel
theorem dSF_reset_15 : decode bSF_reset 15 = .ok (.iload_n 1, 1) := by decide +kernel
theorem dSF_reset_16 : decode bSF_reset 16 = .ok (.iload_n 3, 1) := by decide +kernel
theorem dSF_reset_17 : decode bSF_reset 17 = .ok (.invokevirtual 64, 3) := by decide +kernel
theorem dSF_reset_20 : decode bSF_reset 20 = .ok (.astore 4, 2) := by decide +kernel
theorem dSF_reset_22 : decode bSF_reset 22 = .ok (.aload 4, 2) := by decide +kernel
theorem dSF_reset_24 : decode bSF_reset 24 = .ok (.getfield 68, 3) := by decide +kernel
theorem dSF_reset_27 : decode bSF_reset 27 = .ok (.iconst 1, 1) := by decide +kernel
theorem dSF_reset_28 : decode bSF_reset 28 = .ok (.if_icmp .ne 12, 3) := by decide +kernel
theorem dSF_reset_31 : decode bSF_reset 31 = .ok (.aload 4, 2) := by decide +kernel
theorem dSF_reset_33 : decode bSF_reset 33 = .ok (.iconst 0, 1) := by decide +kernel
theorem dSF_reset_34 : decode bSF_reset 34 = .ok (.putfield 68, 3) := by decide +kernel
theorem dSF_reset_37 : decode bSF_reset 37 = .ok (.iinc 2 1, 3) := by decide +kernel
theorem dSF_reset_40 : decode bSF_reset 40 = .ok (.iinc 3 1, 3) := by decide +kernel
theorem dSF_reset_43 : decode bSF_reset 43 = .ok (.goto (-34), 3) := by decide +kernel
theorem dSF_reset_46 : decode bSF_reset 46 = .ok (.iconst 0, 1) := by decide +kernel
theorem dSF_reset_47 : decode bSF_reset 47 = .ok (.istore_n 3, 1) := by decide +kernel
theorem dSF_reset_48 : decode bSF_reset 48 = .ok (.iload_n 3, 1) := by decide +kernel
theorem dSF_reset_49 : decode bSF_reset 49 = .ok (.iconst 3, 1) := by decide +kernel
theorem dSF_reset_50 : decode bSF_reset 50 = .ok (.if_icmp .ge 32, 3) := by decide +kernel
theorem dSF_reset_53 : decode bSF_reset 53 = .ok (.aload_n 0, 1) := by decide +kernel
theorem dSF_reset_54 : decode bSF_reset 54 = .ok (.getfield 17, 3) := by decide +kernel
theorem dSF_reset_57 : decode bSF_reset 57 = .ok (.iload_n 3, 1) := by decide +kernel
theorem dSF_reset_58 : decode bSF_reset 58 = .ok (.aaload, 1) := by decide +kernel
theorem dSF_reset_59 : decode bSF_reset 59 = .ok (.getfield 142, 3) := by decide +kernel
theorem dSF_reset_62 : decode bSF_reset 62 = .ok (.iload_n 1, 1) := by decide +kernel
theorem dSF_reset_63 : decode bSF_reset 63 = .ok (.if_icmp .ne 13, 3) := by decide +kernel
theorem dSF_reset_66 : decode bSF_reset 66 = .ok (.aload_n 0, 1) := by decide +kernel
theorem dSF_reset_67 : decode bSF_reset 67 = .ok (.getfield 17, 3) := by decide +kernel
theorem dSF_reset_70 : decode bSF_reset 70 = .ok (.iload_n 3, 1) := by decide +kernel
theorem dSF_reset_71 : decode bSF_reset 71 = .ok (.aaload, 1) := by decide +kernel
theorem dSF_reset_72 : decode bSF_reset 72 = .ok (.iconst (-1), 1) := by decide +kernel
theorem dSF_reset_73 : decode bSF_reset 73 = .ok (.putfield 142, 3) := by decide +kernel
theorem dSF_reset_76 : decode bSF_reset 76 = .ok (.iinc 3 1, 3) := by decide +kernel
theorem dSF_reset_79 : decode bSF_reset 79 = .ok (.goto (-31), 3) := by decide +kernel
theorem dSF_reset_82 : decode bSF_reset 82 = .ok (.iload_n 2, 1) := by decide +kernel
theorem dSF_reset_83 : decode bSF_reset 83 = .ok (.ireturn, 1) := by decide +kernel
theorem dSF_credits_0 : decode bSF_credits 0 = .ok (.iload_n 1, 1) := by decide +kernel
theorem dSF_credits_1 : decode bSF_credits 1 = .ok (.iconst 3, 1) := by decide +kernel
theorem dSF_credits_2 : decode bSF_credits 2 = .ok (.invokestatic 57, 3) := by decide +kernel
theorem dSF_credits_5 : decode bSF_credits 5 = .ok (.aload_n 0, 1) := by decide +kernel
theorem dSF_credits_6 : decode bSF_credits 6 = .ok (.getfield 17, 3) := by decide +kernel
theorem dSF_credits_9 : decode bSF_credits 9 = .ok (.iload_n 1, 1) := by decide +kernel
theorem dSF_credits_10 : decode bSF_credits 10 = .ok (.aaload, 1) := by decide +kernel
theorem dSF_credits_11 : decode bSF_credits 11 = .ok (.getfield 145, 3) := by decide +kernel
theorem dSF_credits_14 : decode bSF_credits 14 = .ok (.ireturn, 1) := by decide +kernel
theorem dSF_holder_0 : decode bSF_holder 0 = .ok (.iload_n 1, 1) := by decide +kernel
theorem dSF_holder_1 : decode bSF_holder 1 = .ok (.iconst 3, 1) := by decide +kernel
theorem dSF_holder_2 : decode bSF_holder 2 = .ok (.invokestatic 57, 3) := by decide +kernel
theorem dSF_holder_5 : decode bSF_holder 5 = .ok (.aload_n 0, 1) := by decide +kernel
theorem dSF_holder_6 : decode bSF_holder 6 = .ok (.getfield 17, 3) := by decide +kernel
theorem dSF_holder_9 : decode bSF_holder 9 = .ok (.iload_n 1, 1) := by decide +kernel
theorem dSF_holder_10 : decode bSF_holder 10 = .ok (.aaload, 1) := by decide +kernel
theorem dSF_holder_11 : decode bSF_holder 11 = .ok (.getfield 142, 3) := by decide +kernel
theorem dSF_holder_14 : decode bSF_holder 14 = .ok (.ireturn, 1) := by decide +kernel
theorem dSF_memory_0 : decode bSF_memory 0 = .ok (.iload_n 1, 1) := by decide +kernel
theorem dSF_memory_1 : decode bSF_memory 1 = .ok (.bipush 48, 2) := by decide +kernel
theorem dSF_memory_3 : decode bSF_memory 3 = .ok (.invokestatic 57, 3) := by decide +kernel
theorem dSF_memory_6 : decode bSF_memory 6 = .ok (.aload_n 0, 1) := by decide +kernel
theorem dSF_memory_7 : decode bSF_memory 7 = .ok (.getfield 21, 3) := by decide +kernel
theorem dSF_memory_10 : decode bSF_memory 10 = .ok (.iload_n 1, 1) := by decide +kernel
theorem dSF_memory_11 : decode bSF_memory 11 = .ok (.iaload, 1) := by decide +kernel
theorem dSF_memory_12 : decode bSF_memory 12 = .ok (.ireturn, 1) := by decide +kernel
theorem dSF_service_0 : decode bSF_service 0 = .ok (.iload_n 1, 1) := by decide +kernel
theorem dSF_service_1 : decode bSF_service 1 = .ok (.aload_n 0, 1) := by decide +kernel
theorem dSF_service_2 : decode bSF_service 2 = .ok (.getfield 36, 3) := by decide +kernel
theorem dSF_service_5 : decode bSF_service 5 = .ok (.invokevirtual 148, 3) := by decide +kernel
theorem dSF_service_8 : decode bSF_service 8 = .ok (.invokestatic 57, 3) := by decide +kernel
theorem dSF_service_11 : decode bSF_service 11 = .ok (.iload_n 2, 1) := by decide +kernel
theorem dSF_service_12 : decode bSF_service 12 = .ok (.ifCond .lt 13, 3) := by decide +kernel
theorem dSF_service_15 : decode bSF_service 15 = .ok (.iload_n 2, 1) := by decide +kernel
theorem dSF_service_16 : decode bSF_service 16 = .ok (.bipush 6, 2) := by decide +kernel
theorem dSF_service_18 : decode bSF_service 18 = .ok (.if_icmp .ge 7, 3) := by decide +kernel
theorem dSF_service_21 : decode bSF_service 21 = .ok (.iconst 1, 1) := by decide +kernel
theorem dSF_service_22 : decode bSF_service 22 = .ok (.goto 4, 3) := by decide +kernel
theorem dSF_service_25 : decode bSF_service 25 = .ok (.iconst 0, 1) := by decide +kernel
theorem dSF_service_26 : decode bSF_service 26 = .ok (.invokestatic 118, 3) := by decide +kernel
theorem dSF_service_29 : decode bSF_service 29 = .ok (.aload_n 0, 1) := by decide +kernel
theorem dSF_service_30 : decode bSF_service 30 = .ok (.getfield 36, 3) := by decide +kernel
theorem dSF_service_33 : decode bSF_service 33 = .ok (.iload_n 1, 1) := by decide +kernel
theorem dSF_service_34 : decode bSF_service 34 = .ok (.invokevirtual 151, 3) := by decide +kernel
theorem dSF_service_37 : decode bSF_service 37 = .ok (.checkcast 155, 3) := by decide +kernel
theorem dSF_service_40 : decode bSF_service 40 = .ok (.iload_n 2, 1) := by decide +kernel
theorem dSF_service_41 : decode bSF_service 41 = .ok (.invokevirtual 157, 3) := by decide +kernel
theorem dSF_service_44 : decode bSF_service 44 = .ok (.ireturn, 1) := by decide +kernel
