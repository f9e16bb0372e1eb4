/-! decode rows: SplitFabricModel -/
theorem dMD_init_0 : decode bMD_init 0 = .ok (.aload_n 0, 1) := by decide +kernel
theorem dMD_init_1 : decode bMD_init 1 = .ok (.invokespecial 1, 3) := by decide +kernel
theorem dMD_init_4 : decode bMD_init 4 = .ok (.aload_n 0, 1) := by decide +kernel
theorem dMD_init_5 : decode bMD_init 5 = .ok (.bipush 48, 2) := by decide +kernel
theorem dMD_init_7 : decode bMD_init 7 = .ok (.newarray .int, 2) := by decide +kernel
theorem dMD_init_9 : decode bMD_init 9 = .ok (.putfield 7, 3) := by decide +kernel
theorem dMD_init_12 : decode bMD_init 12 = .ok (.aload_n 0, 1) := by decide +kernel
theorem dMD_init_13 : decode bMD_init 13 = .ok (.bipush 16, 2) := by decide +kernel
theorem dMD_init_15 : decode bMD_init 15 = .ok (.newarray .int, 2) := by decide +kernel
theorem dMD_init_17 : decode bMD_init 17 = .ok (.putfield 13, 3) := by decide +kernel
theorem dMD_init_20 : decode bMD_init 20 = .ok (.aload_n 0, 1) := by decide +kernel
theorem dMD_init_21 : decode bMD_init 21 = .ok (.iconst 4, 1) := by decide +kernel
theorem dMD_init_22 : decode bMD_init 22 = .ok (.newarray .int, 2) := by decide +kernel
theorem dMD_init_24 : decode bMD_init 24 = .ok (.putfield 16, 3) := by decide +kernel
theorem dMD_init_27 : decode bMD_init 27 = .ok (.aload_n 0, 1) := by decide +kernel
theorem dMD_init_28 : decode bMD_init 28 = .ok (.iconst 3, 1) := by decide +kernel
theorem dMD_init_29 : decode bMD_init 29 = .ok (.newarray .boolean, 2) := by decide +kernel
theorem dMD_init_31 : decode bMD_init 31 = .ok (.putfield 19, 3) := by decide +kernel
theorem dMD_init_34 : decode bMD_init 34 = .ok (.aload_n 0, 1) := by decide +kernel
theorem dMD_init_35 : decode bMD_init 35 = .ok (.iconst 3, 1) := by decide +kernel
theorem dMD_init_36 : decode bMD_init 36 = .ok (.newarray .int, 2) := by decide +kernel
theorem dMD_init_38 : decode bMD_init 38 = .ok (.putfield 23, 3) := by decide +kernel
theorem dMD_init_41 : decode bMD_init 41 = .ok (.aload_n 0, 1) := by decide +kernel
theorem dMD_init_42 : decode bMD_init 42 = .ok (.bipush 16, 2) := by decide +kernel
theorem dMD_init_44 : decode bMD_init 44 = .ok (.newarray .int, 2) := by decide +kernel
theorem dMD_init_46 : decode bMD_init 46 = .ok (.putfield 26, 3) := by decide +kernel
theorem dMD_init_49 : decode bMD_init 49 = .ok (.aload_n 0, 1) := by decide +kernel
theorem dMD_init_50 : decode bMD_init 50 = .ok (.bipush 16, 2) := by decide +kernel
theorem dMD_init_52 : decode bMD_init 52 = .ok (.newarray .int, 2) := by decide +kernel
theorem dMD_init_54 : decode bMD_init 54 = .ok (.putfield 29, 3) := by decide +kernel
theorem dMD_init_57 : decode bMD_init 57 = .ok (.aload_n 0, 1) := by decide +kernel
theorem dMD_init_58 : decode bMD_init 58 = .ok (.bipush 16, 2) := by decide +kernel
theorem dMD_init_60 : decode bMD_init 60 = .ok (.newarray .int, 2) := by decide +kernel
theorem dMD_init_62 : decode bMD_init 62 = .ok (.putfield 32, 3) := by decide +kernel
theorem dMD_init_65 : decode bMD_init 65 = .ok (.aload_n 0, 1) := by decide +kernel
theorem dMD_init_66 : decode bMD_init 66 = .ok (.bipush 16, 2) := by decide +kernel
theorem dMD_init_68 : decode bMD_init 68 = .ok (.newarray .int, 2) := by decide +kernel
theorem dMD_init_70 : decode bMD_init 70 = .ok (.putfield 35, 3) := by decide +kernel
theorem dMD_init_73 : decode bMD_init 73 = .ok (.aload_n 0, 1) := by decide +kernel
theorem dMD_init_74 : decode bMD_init 74 = .ok (.bipush 16, 2) := by decide +kernel
theorem dMD_init_76 : decode bMD_init 76 = .ok (.newarray .int, 2) := by decide +kernel
theorem dMD_init_78 : decode bMD_init 78 = .ok (.putfield 38, 3) := by decide +kernel
theorem dMD_init_81 : decode bMD_init 81 = .ok (.aload_n 0, 1) := by decide +kernel
theorem dMD_init_82 : decode bMD_init 82 = .ok (.bipush 16, 2) := by decide +kernel
theorem dMD_init_84 : decode bMD_init 84 = .ok (.newarray .int, 2) := by decide +kernel
theorem dMD_init_86 : decode bMD_init 86 = .ok (.putfield 41, 3) := by decide +kernel
theorem dMD_init_89 : decode bMD_init 89 = .ok (.aload_n 0, 1) := by decide +kernel
theorem dMD_init_90 : decode bMD_init 90 = .ok (.bipush 16, 2) := by decide +kernel
theorem dMD_init_92 : decode bMD_init 92 = .ok (.newarray .int, 2) := by decide +kernel
theorem dMD_init_94 : decode bMD_init 94 = .ok (.putfield 44, 3) := by decide +kernel
theorem dMD_init_97 : decode bMD_init 97 = .ok (.aload_n 0, 1) := by decide +kernel
theorem dMD_init_98 : decode bMD_init 98 = .ok (.bipush 64, 2) := by decide +kernel
theorem dMD_init_100 : decode bMD_init 100 = .ok (.newarray .int, 2) := by decide +kernel
theorem dMD_init_102 : decode bMD_init 102 = .ok (.putfield 47, 3) := by decide +kernel
theorem dMD_init_105 : decode bMD_init 105 = .ok (.aload_n 0, 1) := by decide +kernel
theorem dMD_init_106 : decode bMD_init 106 = .ok (.bipush 64, 2) := by decide +kernel
theorem dMD_init_108 : decode bMD_init 108 = .ok (.newarray .int, 2) := by decide +kernel
theorem dMD_init_110 : decode bMD_init 110 = .ok (.putfield 50, 3) := by decide +kernel
theorem dMD_init_113 : decode bMD_init 113 = .ok (.aload_n 0, 1) := by decide +kernel
theorem dMD_init_114 : decode bMD_init 114 = .ok (.bipush 16, 2) := by decide +kernel
theorem dMD_init_116 : decode bMD_init 116 = .ok (.newarray .int, 2) := by decide +kernel
theorem dMD_init_118 : decode bMD_init 118 = .ok (.putfield 53, 3) := by decide +kernel
theorem dMD_init_121 : decode bMD_init 121 = .ok (.aload_n 0, 1) := by decide +kernel
theorem dMD_init_122 : decode bMD_init 122 = .ok (.bipush 15, 2) := by decide +kernel
theorem dMD_init_124 : decode bMD_init 124 = .ok (.putfield 56, 3) := by decide +kernel
theorem dMD_init_127 : decode bMD_init 127 = .ok (.aload_n 0, 1) := by decide +kernel
theorem dMD_init_128 : decode bMD_init 128 = .ok (.iconst 3, 1) := by decide +kernel
theorem dMD_init_129 : decode bMD_init 129 = .ok (.putfield 60, 3) := by decide +kernel
theorem dMD_init_132 : decode bMD_init 132 = .ok (.aload_n 0, 1) := by decide +kernel
theorem dMD_init_133 : decode bMD_init 133 = .ok (.sipush 3600, 3) := by decide +kernel
theorem dMD_init_136 : decode bMD_init 136 = .ok (.newarray .int, 2) := by decide +kernel
theorem dMD_init_138 : decode bMD_init 138 = .ok (.putfield 63, 3) := by decide +kernel
theorem dMD_init_141 : decode bMD_init 141 = .ok (.iconst 0, 1) := by decide +kernel
theorem dMD_init_142 : decode bMD_init 142 = .ok (.istore_n 1, 1) := by decide +kernel
theorem dMD_init_143 : decode bMD_init 143 = .ok (.iload_n 1, 1) := by decide +kernel
theorem dMD_init_144 : decode bMD_init 144 = .ok (.iconst 3, 1) := by decide +kernel
theorem dMD_init_145 : decode bMD_init 145 = .ok (.if_icmp .ge 16, 3) := by decide +kernel
theorem dMD_init_148 : decode bMD_init 148 = .ok (.aload_n 0, 1) := by decide +kernel
theorem dMD_init_149 : decode bMD_init 149 = .ok (.getfield 23, 3) := by decide +kernel
theorem dMD_init_152 : decode bMD_init 152 = .ok (.iload_n 1, 1) := by decide +kernel
theorem dMD_init_153 : decode bMD_init 153 = .ok (.iconst (-1), 1) := by decide +kernel
theorem dMD_init_154 : decode bMD_init 154 = .ok (.iastore, 1) := by decide +kernel
theorem dMD_init_155 : decode bMD_init 155 = .ok (.iinc 1 1, 3) := by decide +kernel
theorem dMD_init_158 : decode bMD_init 158 = .ok (.goto (-15), 3) := by decide +kernel
theorem dMD_init_161 : decode bMD_init 161 = .ok (.return_, 1) := by decide +kernel
theorem dMD_thrown_0 : decode bMD_thrown 0 = .ok (.aload_n 0, 1) := by decide +kernel
theorem dMD_thrown_1 : decode bMD_thrown 1 = .ok (.getfield 66, 3) := by decide +kernel
theorem dMD_thrown_4 : decode bMD_thrown 4 = .ok (.ireturn, 1) := by decide +kernel
theorem dMD_data_0 : decode bMD_data 0 = .ok (.aload_n 0, 1) := by decide +kernel
theorem dMD_data_1 : decode bMD_data 1 = .ok (.iload_n 1, 1) := by decide +kernel
theorem dMD_data_2 : decode bMD_data 2 = .ok (.iconst 4, 1) := by decide +kernel
theorem dMD_data_3 : decode bMD_data 3 = .ok (.invokestatic 69, 3) := by decide +kernel
theorem dMD_data_6 : decode bMD_data 6 = .ok (.ifCond .eq 15, 3) := by decide +kernel
theorem dMD_data_9 : decode bMD_data 9 = .ok (.iload_n 2, 1) := by decide +kernel
theorem dMD_data_10 : decode bMD_data 10 = .ok (.iconst 4, 1) := by decide +kernel
theorem dMD_data_11 : decode bMD_data 11 = .ok (.invokestatic 69, 3) := by decide +kernel
theorem dMD_data_14 : decode bMD_data 14 = .ok (.ifCond .eq 7, 3) := by decide +kernel
theorem dMD_data_17 : decode bMD_data 17 = .ok (.iconst 0, 1) := by decide +kernel
theorem dMD_data_18 : decode bMD_data 18 = .ok (.goto 4, 3) := by decide +kernel
theorem dMD_data_21 : decode bMD_data 21 = .ok (.iconst 1, 1) := by decide +kernel
theorem dMD_data_22 : decode bMD_data 22 = .ok (.invokevirtual 73, 3) := by decide +kernel
theorem dMD_data_25 : decode bMD_data 25 = .ok (.ifCond .ne 14, 3) := by decide +kernel
theorem dMD_data_28 : decode bMD_data 28 = .ok (.aload_n 0, 1) := by decide +kernel
theorem dMD_data_29 : decode bMD_data 29 = .ok (.getfield 13, 3) := by decide +kernel
theorem dMD_data_32 : decode bMD_data 32 = .ok (.iconst 4, 1) := by decide +kernel
theorem dMD_data_33 : decode bMD_data 33 = .ok (.iload_n 1, 1) := by decide +kernel
theorem dMD_data_34 : decode bMD_data 34 = .ok (.imul, 1) := by decide +kernel
theorem dMD_data_35 : decode bMD_data 35 = .ok (.iload_n 2, 1) := by decide +kernel
theorem dMD_data_36 : decode bMD_data 36 = .ok (.iadd, 1) := by decide +kernel
theorem dMD_data_37 : decode bMD_data 37 = .ok (.iload_n 3, 1) := by decide +kernel
theorem dMD_data_38 : decode bMD_data 38 = .ok (.iastore, 1) := by decide +kernel
theorem dMD_data_39 : decode bMD_data 39 = .ok (.return_, 1) := by decide +kernel
theorem dMD_isIn_0 : decode bMD_isIn 0 = .ok (.iload_n 0, 1) := by decide +kernel
theorem dMD_isIn_1 : decode bMD_isIn 1 = .ok (.ifCond .lt 12, 3) := by decide +kernel
theorem dMD_isIn_4 : decode bMD_isIn 4 = .ok (.iload_n 0, 1) := by decide +kernel
theorem dMD_isIn_5 : decode bMD_isIn 5 = .ok (.iload_n 1, 1) := by decide +kernel
theorem dMD_isIn_6 : decode bMD_isIn 6 = .ok (.if_icmp .ge 7, 3) := by decide +kernel
theorem dMD_isIn_9 : decode bMD_isIn 9 = .ok (.iconst 1, 1) := by decide +kernel
theorem dMD_isIn_10 : decode bMD_isIn 10 = .ok (.goto 4, 3) := by decide +kernel
theorem dMD_isIn_13 : decode bMD_isIn 13 = .ok (.iconst 0, 1) := by decide +kernel
theorem dMD_isIn_14 : decode bMD_isIn 14 = .ok (.ireturn, 1) := by decide +kernel
theorem dMD_refused_0 : decode bMD_refused 0 = .ok (.aload_n 0, 1) := by decide +kernel
theorem dMD_refused_1 : decode bMD_refused 1 = .ok (.iload_n 1, 1) := by decide +kernel
theorem dMD_refused_2 : decode bMD_refused 2 = .ok (.putfield 66, 3) := by decide +kernel
theorem dMD_refused_5 : decode bMD_refused 5 = .ok (.iload_n 1, 1) := by decide +kernel
theorem dMD_refused_6 : decode bMD_refused 6 = .ok (.ifCond .le 7, 3) := by decide +kernel
theorem dMD_refused_9 : decode bMD_refused 9 = .ok (.iconst 1, 1) := by decide +kernel
theorem dMD_refused_10 : decode bMD_refused 10 = .ok (.goto 4, 3) := by decide +kernel
theorem dMD_refused_13 : decode bMD_refused 13 = .ok (.iconst 0, 1) := by decide +kernel
theorem dMD_refused_14 : decode bMD_refused 14 = .ok (.ireturn, 1) := by decide +kernel
theorem dMD_issue_0 : decode bMD_issue 0 = .ok (.iload_n 1, 1) := by decide +kernel
theorem dMD_issue_1 : decode bMD_issue 1 = .ok (.iconst 4, 1) := by decide +kernel
theorem dMD_issue_2 : decode bMD_issue 2 = .ok (.invokestatic 69, 3) := by decide +kernel
theorem dMD_issue_5 : decode bMD_issue 5 = .ok (.ifCond .eq 16, 3) := by decide +kernel
theorem dMD_issue_8 : decode bMD_issue 8 = .ok (.iload 5, 2) := by decide +kernel
theorem dMD_issue_10 : decode bMD_issue 10 = .ok (.iconst 4, 1) := by decide +kernel
theorem dMD_issue_11 : decode bMD_issue 11 = .ok (.invokestatic 69, 3) := by decide +kernel
theorem dMD_issue_14 : decode bMD_issue 14 = .ok (.ifCond .eq 7, 3) := by decide +kernel
theorem dMD_issue_17 : decode bMD_issue 17 = .ok (.iconst 1, 1) := by decide +kernel
theorem dMD_issue_18 : decode bMD_issue 18 = .ok (.goto 4, 3) := by decide +kernel
theorem dMD_issue_21 : decode bMD_issue 21 = .ok (.iconst 0, 1) := by decide +kernel
theorem dMD_issue_22 : decode bMD_issue 22 = .ok (.istore 6, 2) := by decide +kernel
theorem dMD_issue_24 : decode bMD_issue 24 = .ok (.iload_n 2, 1) := by decide +kernel
theorem dMD_issue_25 : decode bMD_issue 25 = .ok (.iload_n 3, 1) := by decide +kernel
theorem dMD_issue_26 : decode bMD_issue 26 = .ok (.iload 4, 2) := by decide +kernel
theorem dMD_issue_28 : decode bMD_issue 28 = .ok (.invokestatic 80, 3) := by decide +kernel
theorem dMD_issue_31 : decode bMD_issue 31 = .ok (.istore 7, 2) := by decide +kernel
theorem dMD_issue_33 : decode bMD_issue 33 = .ok (.aload_n 0, 1) := by decide +kernel
theorem dMD_issue_34 : decode bMD_issue 34 = .ok (.iload 6, 2) := by decide +kernel
theorem dMD_issue_36 : decode bMD_issue 36 = .ok (.ifCond .ne 7, 3) := by decide +kernel
theorem dMD_issue_39 : decode bMD_issue 39 = .ok (.iconst 1, 1) := by decide +kernel
theorem dMD_issue_40 : decode bMD_issue 40 = .ok (.goto 29, 3) := by decide +kernel
theorem dMD_issue_43 : decode bMD_issue 43 = .ok (.iload 7, 2) := by decide +kernel
theorem dMD_issue_45 : decode bMD_issue 45 = .ok (.ifCond .ne 7, 3) := by decide +kernel
theorem dMD_issue_48 : decode bMD_issue 48 = .ok (.iconst 2, 1) := by decide +kernel
theorem dMD_issue_49 : decode bMD_issue 49 = .ok (.goto 20, 3) := by decide +kernel
theorem dMD_issue_52 : decode bMD_issue 52 = .ok (.aload_n 0, 1) := by decide +kernel
theorem dMD_issue_53 : decode bMD_issue 53 = .ok (.iload_n 1, 1) := by decide +kernel
theorem dMD_issue_54 : decode bMD_issue 54 = .ok (.iload_n 2, 1) := by decide +kernel
theorem dMD_issue_55 : decode bMD_issue 55 = .ok (.iload_n 3, 1) := by decide +kernel
theorem dMD_issue_56 : decode bMD_issue 56 = .ok (.iload 5, 2) := by decide +kernel
theorem dMD_issue_58 : decode bMD_issue 58 = .ok (.invokevirtual 84, 3) := by decide +kernel
theorem dMD_issue_61 : decode bMD_issue 61 = .ok (.ifCond .ne 7, 3) := by decide +kernel
theorem dMD_issue_64 : decode bMD_issue 64 = .ok (.iconst 3, 1) := by decide +kernel
theorem dMD_issue_65 : decode bMD_issue 65 = .ok (.goto 4, 3) := by decide +kernel
theorem dMD_issue_68 : decode bMD_issue 68 = .ok (.iconst 0, 1) := by decide +kernel
theorem dMD_issue_69 : decode bMD_issue 69 = .ok (.invokevirtual 73, 3) := by decide +kernel
theorem dMD_issue_72 : decode bMD_issue 72 = .ok (.ifCond .eq 4, 3) := by decide +kernel
theorem dMD_issue_75 : decode bMD_issue 75 = .ok (.return_, 1) := by decide +kernel
theorem dMD_issue_76 : decode bMD_issue 76 = .ok (.iconst 4, 1) := by decide +kernel
theorem dMD_issue_77 : decode bMD_issue 77 = .ok (.iload_n 1, 1) := by decide +kernel
theorem dMD_issue_78 : decode bMD_issue 78 = .ok (.imul, 1) := by decide +kernel
theorem dMD_issue_79 : decode bMD_issue 79 = .ok (.iload 5, 2) := by decide +kernel
theorem dMD_issue_81 : decode bMD_issue 81 = .ok (.iadd, 1) := by decide +kernel
theorem dMD_issue_82 : decode bMD_issue 82 = .ok (.istore 8, 2) := by decide +kernel
theorem dMD_issue_84 : decode bMD_issue 84 = .ok (.aload_n 0, 1) := by decide +kernel
theorem dMD_issue_85 : decode bMD_issue 85 = .ok (.dup, 1) := by decide +kernel
theorem dMD_issue_86 : decode bMD_issue 86 = .ok (.getfield 88, 3) := by decide +kernel
theorem dMD_issue_89 : decode bMD_issue 89 = .ok (.iconst 1, 1) := by decide +kernel
theorem dMD_issue_90 : decode bMD_issue 90 = .ok (.iadd, 1) := by decide +kernel
theorem dMD_issue_91 : decode bMD_issue 91 = .ok (.putfield 88, 3) := by decide +kernel
theorem dMD_issue_94 : decode bMD_issue 94 = .ok (.aload_n 0, 1) := by decide +kernel
theorem dMD_issue_95 : decode bMD_issue 95 = .ok (.getfield 26, 3) := by decide +kernel
theorem dMD_issue_98 : decode bMD_issue 98 = .ok (.iload 8, 2) := by decide +kernel
theorem dMD_issue_100 : decode bMD_issue 100 = .ok (.iconst 1, 1) := by decide +kernel
theorem dMD_issue_101 : decode bMD_issue 101 = .ok (.iastore, 1) := by decide +kernel
theorem dMD_issue_102 : decode bMD_issue 102 = .ok (.aload_n 0, 1) := by decide +kernel
theorem dMD_issue_103 : decode bMD_issue 103 = .ok (.getfield 29, 3) := by decide +kernel
theorem dMD_issue_106 : decode bMD_issue 106 = .ok (.iload 8, 2) := by decide +kernel
theorem dMD_issue_108 : decode bMD_issue 108 = .ok (.iload_n 2, 1) := by decide +kernel
theorem dMD_issue_109 : decode bMD_issue 109 = .ok (.iastore, 1) := by decide +kernel
theorem dMD_issue_110 : decode bMD_issue 110 = .ok (.aload_n 0, 1) := by decide +kernel
theorem dMD_issue_111 : decode bMD_issue 111 = .ok (.getfield 32, 3) := by decide +kernel
theorem dMD_issue_114 : decode bMD_issue 114 = .ok (.iload 8, 2) := by decide +kernel
theorem dMD_issue_116 : decode bMD_issue 116 = .ok (.iload_n 3, 1) := by decide +kernel
theorem dMD_issue_117 : decode bMD_issue 117 = .ok (.iastore, 1) := by decide +kernel
theorem dMD_issue_118 : decode bMD_issue 118 = .ok (.aload_n 0, 1) := by decide +kernel
theorem dMD_issue_119 : decode bMD_issue 119 = .ok (.getfield 35, 3) := by decide +kernel
theorem dMD_issue_122 : decode bMD_issue 122 = .ok (.iload 8, 2) := by decide +kernel
theorem dMD_issue_124 : decode bMD_issue 124 = .ok (.iload_n 2, 1) := by decide +kernel
theorem dMD_issue_125 : decode bMD_issue 125 = .ok (.iconst 4, 1) := by decide +kernel
theorem dMD_issue_126 : decode bMD_issue 126 = .ok (.if_icmp .ne 7, 3) := by decide +kernel
theorem dMD_issue_129 : decode bMD_issue 129 = .ok (.iconst 0, 1) := by decide +kernel
theorem dMD_issue_130 : decode bMD_issue 130 = .ok (.goto 5, 3) := by decide +kernel
theorem dMD_issue_133 : decode bMD_issue 133 = .ok (.iload 4, 2) := by decide +kernel
theorem dMD_issue_135 : decode bMD_issue 135 = .ok (.iastore, 1) := by decide +kernel
theorem dMD_issue_136 : decode bMD_issue 136 = .ok (.aload_n 0, 1) := by decide +kernel
theorem dMD_issue_137 : decode bMD_issue 137 = .ok (.getfield 38, 3) := by decide +kernel
theorem dMD_issue_140 : decode bMD_issue 140 = .ok (.iload 8, 2) := by decide +kernel
theorem dMD_issue_142 : decode bMD_issue 142 = .ok (.iconst 0, 1) := by decide +kernel
theorem dMD_issue_143 : decode bMD_issue 143 = .ok (.iastore, 1) := by decide +kernel
theorem dMD_issue_144 : decode bMD_issue 144 = .ok (.aload_n 0, 1) := by decide +kernel
theorem dMD_issue_145 : decode bMD_issue 145 = .ok (.getfield 41, 3) := by decide +kernel
theorem dMD_issue_148 : decode bMD_issue 148 = .ok (.iload 8, 2) := by decide +kernel
theorem dMD_issue_150 : decode bMD_issue 150 = .ok (.aload_n 0, 1) := by decide +kernel
theorem dMD_issue_151 : decode bMD_issue 151 = .ok (.getfield 88, 3) := by decide +kernel
theorem dMD_issue_154 : decode bMD_issue 154 = .ok (.iastore, 1) := by decide +kernel
theorem dMD_issue_155 : decode bMD_issue 155 = .ok (.aload_n 0, 1) := by decide +kernel
theorem dMD_issue_156 : decode bMD_issue 156 = .ok (.getfield 44, 3) := by decide +kernel
theorem dMD_issue_159 : decode bMD_issue 159 = .ok (.iload 8, 2) := by decide +kernel
theorem dMD_issue_161 : decode bMD_issue 161 = .ok (.iconst 0, 1) := by decide +kernel
theorem dMD_issue_162 : decode bMD_issue 162 = .ok (.iastore, 1) := by decide +kernel
theorem dMD_issue_163 : decode bMD_issue 163 = .ok (.aload_n 0, 1) := by decide +kernel
theorem dMD_issue_164 : decode bMD_issue 164 = .ok (.getfield 53, 3) := by decide +kernel
theorem dMD_issue_167 : decode bMD_issue 167 = .ok (.iload 8, 2) := by decide +kernel
theorem dMD_issue_169 : decode bMD_issue 169 = .ok (.iconst 0, 1) := by decide +kernel
theorem dMD_issue_170 : decode bMD_issue 170 = .ok (.iastore, 1) := by decide +kernel
theorem dMD_issue_171 : decode bMD_issue 171 = .ok (.iconst 0, 1) := by decide +kernel
theorem dMD_issue_172 : decode bMD_issue 172 = .ok (.istore 9, 2) := by decide +kernel
theorem dMD_issue_174 : decode bMD_issue 174 = .ok (.iload 9, 2) := by decide +kernel
theorem dMD_issue_176 : decode bMD_issue 176 = .ok (.iconst 4, 1) := by decide +kernel
theorem dMD_issue_177 : decode bMD_issue 177 = .ok (.if_icmp .ge 32, 3) := by decide +kernel
theorem dMD_issue_180 : decode bMD_issue 180 = .ok (.aload_n 0, 1) := by decide +kernel
theorem dMD_issue_181 : decode bMD_issue 181 = .ok (.getfield 47, 3) := by decide +kernel
theorem dMD_issue_184 : decode bMD_issue 184 = .ok (.iconst 4, 1) := by decide +kernel
theorem dMD_issue_185 : decode bMD_issue 185 = .ok (.iload 8, 2) := by decide +kernel
theorem dMD_issue_187 : decode bMD_issue 187 = .ok (.imul, 1) := by decide +kernel
theorem dMD_issue_188 : decode bMD_issue 188 = .ok (.iload 9, 2) := by decide +kernel
theorem dMD_issue_190 : decode bMD_issue 190 = .ok (.iadd, 1) := by decide +kernel
theorem dMD_issue_191 : decode bMD_issue 191 = .ok (.aload_n 0, 1) := by decide +kernel
theorem dMD_issue_192 : decode bMD_issue 192 = .ok (.getfield 13, 3) := by decide +kernel
theorem dMD_issue_195 : decode bMD_issue 195 = .ok (.iconst 4, 1) := by decide +kernel
theorem dMD_issue_196 : decode bMD_issue 196 = .ok (.iload_n 1, 1) := by decide +kernel
theorem dMD_issue_197 : decode bMD_issue 197 = .ok (.imul, 1) := by decide +kernel
theorem dMD_issue_198 : decode bMD_issue 198 = .ok (.iload 9, 2) := by decide +kernel
theorem dMD_issue_200 : decode bMD_issue 200 = .ok (.iadd, 1) := by decide +kernel
theorem dMD_issue_201 : decode bMD_issue 201 = .ok (.iaload, 1) := by decide +kernel
theorem dMD_issue_202 : decode bMD_issue 202 = .ok (.iastore, 1) := by decide +kernel
theorem dMD_issue_203 : decode bMD_issue 203 = .ok (.iinc 9 1, 3) := by decide +kernel
theorem dMD_issue_206 : decode bMD_issue 206 = .ok (.goto (-32), 3) := by decide +kernel
theorem dMD_issue_209 : decode bMD_issue 209 = .ok (.return_, 1) := by decide +kernel
theorem dMD_isSound_0 : decode bMD_isSound 0 = .ok (.iload_n 0, 1) := by decide +kernel
theorem dMD_isSound_1 : decode bMD_isSound 1 = .ok (.ifCond .lt 8, 3) := by decide +kernel
theorem dMD_isSound_4 : decode bMD_isSound 4 = .ok (.iload_n 0, 1) := by decide +kernel
theorem dMD_isSound_5 : decode bMD_isSound 5 = .ok (.iconst 4, 1) := by decide +kernel
theorem dMD_isSound_6 : decode bMD_isSound 6 = .ok (.if_icmp .le 5, 3) := by decide +kernel
theorem dMD_isSound_9 : decode bMD_isSound 9 = .ok (.iconst 0, 1) := by decide +kernel
theorem dMD_isSound_10 : decode bMD_isSound 10 = .ok (.ireturn, 1) := by decide +kernel
theorem dMD_isSound_11 : decode bMD_isSound 11 = .ok (.iload_n 0, 1) := by decide +kernel
theorem dMD_isSound_12 : decode bMD_isSound 12 = .ok (.iconst 2, 1) := by decide +kernel
theorem dMD_isSound_13 : decode bMD_isSound 13 = .ok (.if_icmp .eq 8, 3) := by decide +kernel
theorem dMD_isSound_16 : decode bMD_isSound 16 = .ok (.iload_n 0, 1) := by decide +kernel
theorem dMD_isSound_17 : decode bMD_isSound 17 = .ok (.iconst 3, 1) := by decide +kernel
theorem dMD_isSound_18 : decode bMD_isSound 18 = .ok (.if_icmp .ne 7, 3) := by decide +kernel
theorem dMD_isSound_21 : decode bMD_isSound 21 = .ok (.iconst 1, 1) := by decide +kernel
theorem dMD_isSound_22 : decode bMD_isSound 22 = .ok (.goto 4, 3) := by decide +kernel
theorem dMD_isSound_25 : decode bMD_isSound 25 = .ok (.iconst 0, 1) := by decide +kernel
theorem dMD_isSound_26 : decode bMD_isSound 26 = .ok (.istore_n 3, 1) := by decide +kernel
theorem dMD_isSound_27 : decode bMD_isSound 27 = .ok (.iload_n 0, 1) := by decide +kernel
theorem dMD_isSound_28 : decode bMD_isSound 28 = .ok (.iconst 4, 1) := by decide +kernel
theorem dMD_isSound_29 : decode bMD_isSound 29 = .ok (.if_icmp .eq 46, 3) := by decide +kernel
theorem dMD_isSound_32 : decode bMD_isSound 32 = .ok (.iload_n 1, 1) := by decide +kernel
theorem dMD_isSound_33 : decode bMD_isSound 33 = .ok (.ifCond .lt 46, 3) := by decide +kernel
theorem dMD_isSound_36 : decode bMD_isSound 36 = .ok (.iload_n 1, 1) := by decide +kernel
theorem dMD_isSound_37 : decode bMD_isSound 37 = .ok (.bipush 63, 2) := by decide +kernel
theorem dMD_isSound_39 : decode bMD_isSound 39 = .ok (.if_icmp .gt 40, 3) := by decide +kernel
theorem dMD_isSound_42 : decode bMD_isSound 42 = .ok (.iload_n 2, 1) := by decide +kernel
theorem dMD_isSound_43 : decode bMD_isSound 43 = .ok (.iconst 1, 1) := by decide +kernel
theorem dMD_isSound_44 : decode bMD_isSound 44 = .ok (.if_icmp .lt 35, 3) := by decide +kernel
theorem dMD_isSound_47 : decode bMD_isSound 47 = .ok (.iload_n 2, 1) := by decide +kernel
theorem dMD_isSound_48 : decode bMD_isSound 48 = .ok (.iload_n 3, 1) := by decide +kernel
theorem dMD_isSound_49 : decode bMD_isSound 49 = .ok (.ifCond .eq 7, 3) := by decide +kernel
theorem dMD_isSound_52 : decode bMD_isSound 52 = .ok (.iconst 1, 1) := by decide +kernel
theorem dMD_isSound_53 : decode bMD_isSound 53 = .ok (.goto 4, 3) := by decide +kernel
theorem dMD_isSound_56 : decode bMD_isSound 56 = .ok (.iconst 4, 1) := by decide +kernel
theorem dMD_isSound_57 : decode bMD_isSound 57 = .ok (.if_icmp .gt 22, 3) := by decide +kernel
theorem dMD_isSound_60 : decode bMD_isSound 60 = .ok (.iload_n 1, 1) := by decide +kernel
theorem dMD_isSound_61 : decode bMD_isSound 61 = .ok (.bipush 16, 2) := by decide +kernel
theorem dMD_isSound_63 : decode bMD_isSound 63 = .ok (.idiv, 1) := by decide +kernel
theorem dMD_isSound_64 : decode bMD_isSound 64 = .ok (.iload_n 1, 1) := by decide +kernel
theorem dMD_isSound_65 : decode bMD_isSound 65 = .ok (.iload_n 2, 1) := by decide +kernel
theorem dMD_isSound_66 : decode bMD_isSound 66 = .ok (.iadd, 1) := by decide +kernel
theorem dMD_isSound_67 : decode bMD_isSound 67 = .ok (.iconst 1, 1) := by decide +kernel
theorem dMD_isSound_68 : decode bMD_isSound 68 = .ok (.isub, 1) := by decide +kernel
theorem dMD_isSound_69 : decode bMD_isSound 69 = .ok (.bipush 16, 2) := by decide +kernel
theorem dMD_isSound_71 : decode bMD_isSound 71 = .ok (.idiv, 1) := by decide +kernel
theorem dMD_isSound_72 : decode bMD_isSound 72 = .ok (.if_icmp .ne 7, 3) := by decide +kernel
theorem dMD_isSound_75 : decode bMD_isSound 75 = .ok (.iconst 1, 1) := by decide +kernel
theorem dMD_isSound_76 : decode bMD_isSound 76 = .ok (.goto 4, 3) := by decide +kernel
theorem dMD_isSound_79 : decode bMD_isSound 79 = .ok (.iconst 0, 1) := by decide +kernel
theorem dMD_isSound_80 : decode bMD_isSound 80 = .ok (.ireturn, 1) := by decide +kernel
theorem dMD_isAllowed_0 : decode bMD_isAllowed 0 = .ok (.aload_n 0, 1) := by decide +kernel
theorem dMD_isAllowed_1 : decode bMD_isAllowed 1 = .ok (.getfield 26, 3) := by decide +kernel
theorem dMD_isAllowed_4 : decode bMD_isAllowed 4 = .ok (.iconst 4, 1) := by decide +kernel
theorem dMD_isAllowed_5 : decode bMD_isAllowed 5 = .ok (.iload_n 1, 1) := by decide +kernel
theorem dMD_isAllowed_6 : decode bMD_isAllowed 6 = .ok (.imul, 1) := by decide +kernel
theorem dMD_isAllowed_7 : decode bMD_isAllowed 7 = .ok (.iload 4, 2) := by decide +kernel
theorem dMD_isAllowed_9 : decode bMD_isAllowed 9 = .ok (.iadd, 1) := by decide +kernel
theorem dMD_isAllowed_10 : decode bMD_isAllowed 10 = .ok (.iaload, 1) := by decide +kernel
theorem dMD_isAllowed_11 : decode bMD_isAllowed 11 = .ok (.ifCond .eq 5, 3) := by decide +kernel
theorem dMD_isAllowed_14 : decode bMD_isAllowed 14 = .ok (.iconst 0, 1) := by decide +kernel
theorem dMD_isAllowed_15 : decode bMD_isAllowed 15 = .ok (.ireturn, 1) := by decide +kernel
theorem dMD_isAllowed_16 : decode bMD_isAllowed 16 = .ok (.iload_n 2, 1) := by decide +kernel
theorem dMD_isAllowed_17 : decode bMD_isAllowed 17 = .ok (.iconst 2, 1) := by decide +kernel
theorem dMD_isAllowed_18 : decode bMD_isAllowed 18 = .ok (.if_icmp .ne 48, 3) := by decide +kernel
theorem dMD_isAllowed_21 : decode bMD_isAllowed 21 = .ok (.aload_n 0, 1) := by decide +kernel
theorem dMD_isAllowed_22 : decode bMD_isAllowed 22 = .ok (.getfield 23, 3) := by decide +kernel
theorem dMD_isAllowed_25 : decode bMD_isAllowed 25 = .ok (.iconst 0, 1) := by decide +kernel
theorem dMD_isAllowed_26 : decode bMD_isAllowed 26 = .ok (.iaload, 1) := by decide +kernel
theorem dMD_isAllowed_27 : decode bMD_isAllowed 27 = .ok (.iload_n 1, 1) := by decide +kernel
theorem dMD_isAllowed_28 : decode bMD_isAllowed 28 = .ok (.if_icmp .eq 36, 3) := by decide +kernel
theorem dMD_isAllowed_31 : decode bMD_isAllowed 31 = .ok (.aload_n 0, 1) := by decide +kernel
theorem dMD_isAllowed_32 : decode bMD_isAllowed 32 = .ok (.getfield 23, 3) := by decide +kernel
theorem dMD_isAllowed_35 : decode bMD_isAllowed 35 = .ok (.iconst 1, 1) := by decide +kernel
theorem dMD_isAllowed_36 : decode bMD_isAllowed 36 = .ok (.iaload, 1) := by decide +kernel
theorem dMD_isAllowed_37 : decode bMD_isAllowed 37 = .ok (.iload_n 1, 1) := by decide +kernel
theorem dMD_isAllowed_38 : decode bMD_isAllowed 38 = .ok (.if_icmp .eq 26, 3) := by decide +kernel
theorem dMD_isAllowed_41 : decode bMD_isAllowed 41 = .ok (.aload_n 0, 1) := by decide +kernel
theorem dMD_isAllowed_42 : decode bMD_isAllowed 42 = .ok (.getfield 23, 3) := by decide +kernel
theorem dMD_isAllowed_45 : decode bMD_isAllowed 45 = .ok (.iconst 2, 1) := by decide +kernel
theorem dMD_isAllowed_46 : decode bMD_isAllowed 46 = .ok (.iaload, 1) := by decide +kernel
theorem dMD_isAllowed_47 : decode bMD_isAllowed 47 = .ok (.iload_n 1, 1) := by decide +kernel
theorem dMD_isAllowed_48 : decode bMD_isAllowed 48 = .ok (.if_icmp .eq 16, 3) := by decide +kernel
theorem dMD_isAllowed_51 : decode bMD_isAllowed 51 = .ok (.aload_n 0, 1) := by decide +kernel
theorem dMD_isAllowed_52 : decode bMD_isAllowed 52 = .ok (.iload_n 1, 1) := by decide +kernel
theorem dMD_isAllowed_53 : decode bMD_isAllowed 53 = .ok (.iconst 2, 1) := by decide +kernel
theorem dMD_isAllowed_54 : decode bMD_isAllowed 54 = .ok (.invokevirtual 77, 3) := by decide +kernel
theorem dMD_isAllowed_57 : decode bMD_isAllowed 57 = .ok (.ifCond .ne 7, 3) := by decide +kernel
theorem dMD_isAllowed_60 : decode bMD_isAllowed 60 = .ok (.iconst 1, 1) := by decide +kernel
theorem dMD_isAllowed_61 : decode bMD_isAllowed 61 = .ok (.goto 4, 3) := by decide +kernel
theorem dMD_isAllowed_64 : decode bMD_isAllowed 64 = .ok (.iconst 0, 1) := by decide +kernel
theorem dMD_isAllowed_65 : decode bMD_isAllowed 65 = .ok (.ireturn, 1) := by decide +kernel
theorem dMD_isAllowed_66 : decode bMD_isAllowed 66 = .ok (.iload_n 2, 1) := by decide +kernel
theorem dMD_isAllowed_67 : decode bMD_isAllowed 67 = .ok (.iconst 3, 1) := by decide +kernel
theorem dMD_isAllowed_68 : decode bMD_isAllowed 68 = .ok (.if_icmp .ne 31, 3) := by decide +kernel
theorem dMD_isAllowed_71 : decode bMD_isAllowed 71 = .ok (.iload_n 3, 1) := by decide +kernel
theorem dMD_isAllowed_72 : decode bMD_isAllowed 72 = .ok (.bipush 48, 2) := by decide +kernel
theorem dMD_isAllowed_74 : decode bMD_isAllowed 74 = .ok (.if_icmp .ge 29, 3) := by decide +kernel
theorem dMD_isAllowed_77 : decode bMD_isAllowed 77 = .ok (.aload_n 0, 1) := by decide +kernel
theorem dMD_isAllowed_78 : decode bMD_isAllowed 78 = .ok (.getfield 23, 3) := by decide +kernel
theorem dMD_isAllowed_81 : decode bMD_isAllowed 81 = .ok (.iload_n 3, 1) := by decide +kernel
theorem dMD_isAllowed_82 : decode bMD_isAllowed 82 = .ok (.bipush 16, 2) := by decide +kernel
theorem dMD_isAllowed_84 : decode bMD_isAllowed 84 = .ok (.idiv, 1) := by decide +kernel
theorem dMD_isAllowed_85 : decode bMD_isAllowed 85 = .ok (.iaload, 1) := by decide +kernel
theorem dMD_isAllowed_86 : decode bMD_isAllowed 86 = .ok (.iload_n 1, 1) := by decide +kernel
theorem dMD_isAllowed_87 : decode bMD_isAllowed 87 = .ok (.if_icmp .ne 16, 3) := by decide +kernel
theorem dMD_isAllowed_90 : decode bMD_isAllowed 90 = .ok (.aload_n 0, 1) := by decide +kernel
theorem dMD_isAllowed_91 : decode bMD_isAllowed 91 = .ok (.iload_n 1, 1) := by decide +kernel
theorem dMD_isAllowed_92 : decode bMD_isAllowed 92 = .ok (.iconst 3, 1) := by decide +kernel
theorem dMD_isAllowed_93 : decode bMD_isAllowed 93 = .ok (.invokevirtual 77, 3) := by decide +kernel
theorem dMD_isAllowed_96 : decode bMD_isAllowed 96 = .ok (.ifCond .ne 7, 3) := by decide +kernel
theorem dMD_isAllowed_99 : decode bMD_isAllowed 99 = .ok (.iconst 1, 1) := by decide +kernel
theorem dMD_isAllowed_100 : decode bMD_isAllowed 100 = .ok (.goto 4, 3) := by decide +kernel
theorem dMD_isAllowed_103 : decode bMD_isAllowed 103 = .ok (.iconst 0, 1) := by decide +kernel
theorem dMD_isAllowed_104 : decode bMD_isAllowed 104 = .ok (.ireturn, 1) := by decide +kernel
theorem dMD_hasWaiting_0 : decode bMD_hasWaiting 0 = .ok (.iconst 0, 1) := by decide +kernel
theorem dMD_hasWaiting_1 : decode bMD_hasWaiting 1 = .ok (.istore_n 3, 1) := by decide +kernel
theorem dMD_hasWaiting_2 : decode bMD_hasWaiting 2 = .ok (.iconst 0, 1) := by decide +kernel
theorem dMD_hasWaiting_3 : decode bMD_hasWaiting 3 = .ok (.istore 4, 2) := by decide +kernel
theorem dMD_hasWaiting_5 : decode bMD_hasWaiting 5 = .ok (.iload 4, 2) := by decide +kernel
theorem dMD_hasWaiting_7 : decode bMD_hasWaiting 7 = .ok (.iconst 4, 1) := by decide +kernel
theorem dMD_hasWaiting_8 : decode bMD_hasWaiting 8 = .ok (.if_icmp .ge 49, 3) := by decide +kernel
theorem dMD_hasWaiting_11 : decode bMD_hasWaiting 11 = .ok (.iconst 4, 1) := by decide +kernel
theorem dMD_hasWaiting_12 : decode bMD_hasWaiting 12 = .ok (.iload_n 1, 1) := by decide +kernel
theorem dMD_hasWaiting_13 : decode bMD_hasWaiting 13 = .ok (.imul, 1) := by decide +kernel
theorem dMD_hasWaiting_14 : decode bMD_hasWaiting 14 = .ok (.iload 4, 2) := by decide +kernel
theorem dMD_hasWaiting_16 : decode bMD_hasWaiting 16 = .ok (.iadd, 1) := by decide +kernel
theorem dMD_hasWaiting_17 : decode bMD_hasWaiting 17 = .ok (.istore 5, 2) := by decide +kernel
theorem dMD_hasWaiting_19 : decode bMD_hasWaiting 19 = .ok (.iload_n 3, 1) := by decide +kernel
theorem dMD_hasWaiting_20 : decode bMD_hasWaiting 20 = .ok (.ifCond .ne 25, 3) := by decide +kernel
theorem dMD_hasWaiting_23 : decode bMD_hasWaiting 23 = .ok (.aload_n 0, 1) := by decide +kernel
theorem dMD_hasWaiting_24 : decode bMD_hasWaiting 24 = .ok (.getfield 26, 3) := by decide +kernel
theorem dMD_hasWaiting_27 : decode bMD_hasWaiting 27 = .ok (.iload 5, 2) := by decide +kernel
theorem dMD_hasWaiting_29 : decode bMD_hasWaiting 29 = .ok (.iaload, 1) := by decide +kernel
theorem dMD_hasWaiting_30 : decode bMD_hasWaiting 30 = .ok (.iconst 1, 1) := by decide +kernel
theorem dMD_hasWaiting_31 : decode bMD_hasWaiting 31 = .ok (.if_icmp .ne 18, 3) := by decide +kernel
theorem dMD_hasWaiting_34 : decode bMD_hasWaiting 34 = .ok (.aload_n 0, 1) := by decide +kernel
theorem dMD_hasWaiting_35 : decode bMD_hasWaiting 35 = .ok (.getfield 29, 3) := by decide +kernel
theorem dMD_hasWaiting_38 : decode bMD_hasWaiting 38 = .ok (.iload 5, 2) := by decide +kernel
theorem dMD_hasWaiting_40 : decode bMD_hasWaiting 40 = .ok (.iaload, 1) := by decide +kernel
theorem dMD_hasWaiting_41 : decode bMD_hasWaiting 41 = .ok (.iload_n 2, 1) := by decide +kernel
theorem dMD_hasWaiting_42 : decode bMD_hasWaiting 42 = .ok (.if_icmp .ne 7, 3) := by decide +kernel
theorem dMD_hasWaiting_45 : decode bMD_hasWaiting 45 = .ok (.iconst 1, 1) := by decide +kernel
theorem dMD_hasWaiting_46 : decode bMD_hasWaiting 46 = .ok (.goto 4, 3) := by decide +kernel
theorem dMD_hasWaiting_49 : decode bMD_hasWaiting 49 = .ok (.iconst 0, 1) := by decide +kernel
theorem dMD_hasWaiting_50 : decode bMD_hasWaiting 50 = .ok (.istore_n 3, 1) := by decide +kernel
theorem dMD_hasWaiting_51 : decode bMD_hasWaiting 51 = .ok (.iinc 4 1, 3) := by decide +kernel
theorem dMD_hasWaiting_54 : decode bMD_hasWaiting 54 = .ok (.goto (-49), 3) := by decide +kernel
theorem dMD_hasWaiting_57 : decode bMD_hasWaiting 57 = .ok (.iload_n 3, 1) := by decide +kernel
theorem dMD_hasWaiting_58 : decode bMD_hasWaiting 58 = .ok (.ireturn, 1) := by decide +kernel
theorem dMD_ready_0 : decode bMD_ready 0 = .ok (.aload_n 0, 1) := by decide +kernel
theorem dMD_ready_1 : decode bMD_ready 1 = .ok (.iload_n 1, 1) := by decide +kernel
theorem dMD_ready_2 : decode bMD_ready 2 = .ok (.iconst 3, 1) := by decide +kernel
theorem dMD_ready_3 : decode bMD_ready 3 = .ok (.invokestatic 69, 3) := by decide +kernel
theorem dMD_ready_6 : decode bMD_ready 6 = .ok (.ifCond .eq 7, 3) := by decide +kernel
theorem dMD_ready_9 : decode bMD_ready 9 = .ok (.iconst 0, 1) := by decide +kernel
theorem dMD_ready_10 : decode bMD_ready 10 = .ok (.goto 4, 3) := by decide +kernel
theorem dMD_ready_13 : decode bMD_ready 13 = .ok (.iconst 1, 1) := by decide +kernel
theorem dMD_ready_14 : decode bMD_ready 14 = .ok (.invokevirtual 73, 3) := by decide +kernel
theorem dMD_ready_17 : decode bMD_ready 17 = .ok (.ifCond .ne 10, 3) := by decide +kernel
theorem dMD_ready_20 : decode bMD_ready 20 = .ok (.aload_n 0, 1) := by decide +kernel
theorem dMD_ready_21 : decode bMD_ready 21 = .ok (.getfield 19, 3) := by decide +kernel
theorem dMD_ready_24 : decode bMD_ready 24 = .ok (.iload_n 1, 1) := by decide +kernel
theorem dMD_ready_25 : decode bMD_ready 25 = .ok (.iload_n 2, 1) := by decide +kernel
theorem dMD_ready_26 : decode bMD_ready 26 = .ok (.bastore, 1) := by decide +kernel
theorem dMD_ready_27 : decode bMD_ready 27 = .ok (.return_, 1) := by decide +kernel
theorem dMD_cycle_0 : decode bMD_cycle 0 = .ok (.aload_n 0, 1) := by decide +kernel
theorem dMD_cycle_1 : decode bMD_cycle 1 = .ok (.iconst 0, 1) := by decide +kernel
theorem dMD_cycle_2 : decode bMD_cycle 2 = .ok (.putfield 66, 3) := by decide +kernel
theorem dMD_cycle_5 : decode bMD_cycle 5 = .ok (.aload_n 0, 1) := by decide +kernel
theorem dMD_cycle_6 : decode bMD_cycle 6 = .ok (.invokevirtual 139, 3) := by decide +kernel
theorem dMD_cycle_9 : decode bMD_cycle 9 = .ok (.ireturn, 1) := by decide +kernel
theorem dMD_one_0 : decode bMD_one 0 = .ok (.iconst 0, 1) := by decide +kernel
theorem dMD_one_1 : decode bMD_one 1 = .ok (.istore_n 1, 1) := by decide +kernel
theorem dMD_one_2 : decode bMD_one 2 = .ok (.iload_n 1, 1) := by decide +kernel
theorem dMD_one_3 : decode bMD_one 3 = .ok (.iconst 3, 1) := by decide +kernel
theorem dMD_one_4 : decode bMD_one 4 = .ok (.if_icmp .ge 33, 3) := by decide +kernel
theorem dMD_one_7 : decode bMD_one 7 = .ok (.aload_n 0, 1) := by decide +kernel
theorem dMD_one_8 : decode bMD_one 8 = .ok (.iload_n 1, 1) := by decide +kernel
theorem dMD_one_9 : decode bMD_one 9 = .ok (.invokevirtual 125, 3) := by decide +kernel
theorem dMD_one_12 : decode bMD_one 12 = .ok (.istore_n 2, 1) := by decide +kernel
theorem dMD_one_13 : decode bMD_one 13 = .ok (.aload_n 0, 1) := by decide +kernel
theorem dMD_one_14 : decode bMD_one 14 = .ok (.getfield 19, 3) := by decide +kernel
theorem dMD_one_17 : decode bMD_one 17 = .ok (.iload_n 1, 1) := by decide +kernel
theorem dMD_one_18 : decode bMD_one 18 = .ok (.baload, 1) := by decide +kernel
theorem dMD_one_19 : decode bMD_one 19 = .ok (.ifCond .eq 12, 3) := by decide +kernel
theorem dMD_one_22 : decode bMD_one 22 = .ok (.iload_n 2, 1) := by decide +kernel
theorem dMD_one_23 : decode bMD_one 23 = .ok (.ifCond .lt 8, 3) := by decide +kernel
theorem dMD_one_26 : decode bMD_one 26 = .ok (.aload_n 0, 1) := by decide +kernel
theorem dMD_one_27 : decode bMD_one 27 = .ok (.iload_n 2, 1) := by decide +kernel
theorem dMD_one_28 : decode bMD_one 28 = .ok (.invokevirtual 128, 3) := by decide +kernel
theorem dMD_one_31 : decode bMD_one 31 = .ok (.iinc 1 1, 3) := by decide +kernel
theorem dMD_one_34 : decode bMD_one 34 = .ok (.goto (-32), 3) := by decide +kernel
theorem dMD_one_37 : decode bMD_one 37 = .ok (.aload_n 0, 1) := by decide +kernel
theorem dMD_one_38 : decode bMD_one 38 = .ok (.invokevirtual 132, 3) := by decide +kernel
theorem dMD_one_41 : decode bMD_one 41 = .ok (.aload_n 0, 1) := by decide +kernel
theorem dMD_one_42 : decode bMD_one 42 = .ok (.invokevirtual 135, 3) := by decide +kernel
theorem dMD_one_45 : decode bMD_one 45 = .ok (.istore_n 1, 1) := by decide +kernel
theorem dMD_one_46 : decode bMD_one 46 = .ok (.iconst 0, 1) := by decide +kernel
theorem dMD_one_47 : decode bMD_one 47 = .ok (.istore_n 2, 1) := by decide +kernel
theorem dMD_one_48 : decode bMD_one 48 = .ok (.iload_n 2, 1) := by decide +kernel
theorem dMD_one_49 : decode bMD_one 49 = .ok (.bipush 16, 2) := by decide +kernel
theorem dMD_one_51 : decode bMD_one 51 = .ok (.if_icmp .ge 42, 3) := by decide +kernel
theorem dMD_one_54 : decode bMD_one 54 = .ok (.aload_n 0, 1) := by decide +kernel
theorem dMD_one_55 : decode bMD_one 55 = .ok (.getfield 38, 3) := by decide +kernel
theorem dMD_one_58 : decode bMD_one 58 = .ok (.iload_n 2, 1) := by decide +kernel
theorem dMD_one_59 : decode bMD_one 59 = .ok (.aload_n 0, 1) := by decide +kernel
theorem dMD_one_60 : decode bMD_one 60 = .ok (.getfield 26, 3) := by decide +kernel
theorem dMD_one_63 : decode bMD_one 63 = .ok (.iload_n 2, 1) := by decide +kernel
theorem dMD_one_64 : decode bMD_one 64 = .ok (.iaload, 1) := by decide +kernel
theorem dMD_one_65 : decode bMD_one 65 = .ok (.iconst 1, 1) := by decide +kernel
theorem dMD_one_66 : decode bMD_one 66 = .ok (.if_icmp .ne 14, 3) := by decide +kernel
theorem dMD_one_69 : decode bMD_one 69 = .ok (.aload_n 0, 1) := by decide +kernel
theorem dMD_one_70 : decode bMD_one 70 = .ok (.getfield 38, 3) := by decide +kernel
theorem dMD_one_73 : decode bMD_one 73 = .ok (.iload_n 2, 1) := by decide +kernel
theorem dMD_one_74 : decode bMD_one 74 = .ok (.iaload, 1) := by decide +kernel
theorem dMD_one_75 : decode bMD_one 75 = .ok (.iconst 1, 1) := by decide +kernel
theorem dMD_one_76 : decode bMD_one 76 = .ok (.iadd, 1) := by decide +kernel
theorem dMD_one_77 : decode bMD_one 77 = .ok (.goto 9, 3) := by decide +kernel
theorem dMD_one_80 : decode bMD_one 80 = .ok (.aload_n 0, 1) := by decide +kernel
theorem dMD_one_81 : decode bMD_one 81 = .ok (.getfield 38, 3) := by decide +kernel
theorem dMD_one_84 : decode bMD_one 84 = .ok (.iload_n 2, 1) := by decide +kernel
theorem dMD_one_85 : decode bMD_one 85 = .ok (.iaload, 1) := by decide +kernel
theorem dMD_one_86 : decode bMD_one 86 = .ok (.iastore, 1) := by decide +kernel
theorem dMD_one_87 : decode bMD_one 87 = .ok (.iinc 2 1, 3) := by decide +kernel
theorem dMD_one_90 : decode bMD_one 90 = .ok (.goto (-42), 3) := by decide +kernel
theorem dMD_one_93 : decode bMD_one 93 = .ok (.aload_n 0, 1) := by decide +kernel
theorem dMD_one_94 : decode bMD_one 94 = .ok (.dup, 1) := by decide +kernel
theorem dMD_one_95 : decode bMD_one 95 = .ok (.getfield 98, 3) := by decide +kernel
theorem dMD_one_98 : decode bMD_one 98 = .ok (.iconst 1, 1) := by decide +kernel
theorem dMD_one_99 : decode bMD_one 99 = .ok (.iadd, 1) := by decide +kernel
theorem dMD_one_100 : decode bMD_one 100 = .ok (.putfield 98, 3) := by decide +kernel
theorem dMD_one_103 : decode bMD_one 103 = .ok (.iload_n 1, 1) := by decide +kernel
theorem dMD_one_104 : decode bMD_one 104 = .ok (.ifCond .ge 7, 3) := by decide +kernel
theorem dMD_one_107 : decode bMD_one 107 = .ok (.iconst (-1), 1) := by decide +kernel
theorem dMD_one_108 : decode bMD_one 108 = .ok (.goto 6, 3) := by decide +kernel
theorem dMD_one_111 : decode bMD_one 111 = .ok (.iload_n 1, 1) := by decide +kernel
theorem dMD_one_112 : decode bMD_one 112 = .ok (.iconst 4, 1) := by decide +kernel
theorem dMD_one_113 : decode bMD_one 113 = .ok (.idiv, 1) := by decide +kernel
theorem dMD_one_114 : decode bMD_one 114 = .ok (.ireturn, 1) := by decide +kernel
theorem dMD_firstOf_0 : decode bMD_firstOf 0 = .ok (.iconst (-1), 1) := by decide +kernel
theorem dMD_firstOf_1 : decode bMD_firstOf 1 = .ok (.istore_n 2, 1) := by decide +kernel
theorem dMD_firstOf_2 : decode bMD_firstOf 2 = .ok (.iconst 0, 1) := by decide +kernel
theorem dMD_firstOf_3 : decode bMD_firstOf 3 = .ok (.istore_n 3, 1) := by decide +kernel
theorem dMD_firstOf_4 : decode bMD_firstOf 4 = .ok (.iload_n 3, 1) := by decide +kernel
theorem dMD_firstOf_5 : decode bMD_firstOf 5 = .ok (.bipush 16, 2) := by decide +kernel
theorem dMD_firstOf_7 : decode bMD_firstOf 7 = .ok (.if_icmp .ge 74, 3) := by decide +kernel
theorem dMD_firstOf_10 : decode bMD_firstOf 10 = .ok (.aload_n 0, 1) := by decide +kernel
theorem dMD_firstOf_11 : decode bMD_firstOf 11 = .ok (.getfield 26, 3) := by decide +kernel
theorem dMD_firstOf_14 : decode bMD_firstOf 14 = .ok (.iload_n 3, 1) := by decide +kernel
theorem dMD_firstOf_15 : decode bMD_firstOf 15 = .ok (.iaload, 1) := by decide +kernel
theorem dMD_firstOf_16 : decode bMD_firstOf 16 = .ok (.iconst 2, 1) := by decide +kernel
theorem dMD_firstOf_17 : decode bMD_firstOf 17 = .ok (.if_icmp .ne 25, 3) := by decide +kernel
theorem dMD_firstOf_20 : decode bMD_firstOf 20 = .ok (.aload_n 0, 1) := by decide +kernel
theorem dMD_firstOf_21 : decode bMD_firstOf 21 = .ok (.getfield 44, 3) := by decide +kernel
theorem dMD_firstOf_24 : decode bMD_firstOf 24 = .ok (.iload_n 3, 1) := by decide +kernel
theorem dMD_firstOf_25 : decode bMD_firstOf 25 = .ok (.iaload, 1) := by decide +kernel
theorem dMD_firstOf_26 : decode bMD_firstOf 26 = .ok (.ifCond .le 16, 3) := by decide +kernel
theorem dMD_firstOf_29 : decode bMD_firstOf 29 = .ok (.aload_n 0, 1) := by decide +kernel
theorem dMD_firstOf_30 : decode bMD_firstOf 30 = .ok (.iload_n 3, 1) := by decide +kernel
theorem dMD_firstOf_31 : decode bMD_firstOf 31 = .ok (.invokevirtual 91, 3) := by decide +kernel
theorem dMD_firstOf_34 : decode bMD_firstOf 34 = .ok (.iload_n 1, 1) := by decide +kernel
theorem dMD_firstOf_35 : decode bMD_firstOf 35 = .ok (.if_icmp .ne 7, 3) := by decide +kernel
theorem dMD_firstOf_38 : decode bMD_firstOf 38 = .ok (.iconst 1, 1) := by decide +kernel
theorem dMD_firstOf_39 : decode bMD_firstOf 39 = .ok (.goto 4, 3) := by decide +kernel
theorem dMD_firstOf_42 : decode bMD_firstOf 42 = .ok (.iconst 0, 1) := by decide +kernel
theorem dMD_firstOf_43 : decode bMD_firstOf 43 = .ok (.istore 4, 2) := by decide +kernel
theorem dMD_firstOf_45 : decode bMD_firstOf 45 = .ok (.iload 4, 2) := by decide +kernel
theorem dMD_firstOf_47 : decode bMD_firstOf 47 = .ok (.ifCond .eq 26, 3) := by decide +kernel
theorem dMD_firstOf_50 : decode bMD_firstOf 50 = .ok (.iload_n 2, 1) := by decide +kernel
theorem dMD_firstOf_51 : decode bMD_firstOf 51 = .ok (.ifCond .lt 18, 3) := by decide +kernel
theorem dMD_firstOf_54 : decode bMD_firstOf 54 = .ok (.aload_n 0, 1) := by decide +kernel
theorem dMD_firstOf_55 : decode bMD_firstOf 55 = .ok (.getfield 44, 3) := by decide +kernel
theorem dMD_firstOf_58 : decode bMD_firstOf 58 = .ok (.iload_n 3, 1) := by decide +kernel
theorem dMD_firstOf_59 : decode bMD_firstOf 59 = .ok (.iaload, 1) := by decide +kernel
theorem dMD_firstOf_60 : decode bMD_firstOf 60 = .ok (.aload_n 0, 1) := by decide +kernel
theorem dMD_firstOf_61 : decode bMD_firstOf 61 = .ok (.getfield 44, 3) := by decide +kernel
theorem dMD_firstOf_64 : decode bMD_firstOf 64 = .ok (.iload_n 2, 1) := by decide +kernel
theorem dMD_firstOf_65 : decode bMD_firstOf 65 = .ok (.iaload, 1) := by decide +kernel
theorem dMD_firstOf_66 : decode bMD_firstOf 66 = .ok (.if_icmp .ge 7, 3) := by decide +kernel
theorem dMD_firstOf_69 : decode bMD_firstOf 69 = .ok (.iload_n 3, 1) := by decide +kernel
theorem dMD_firstOf_70 : decode bMD_firstOf 70 = .ok (.goto 4, 3) := by decide +kernel
theorem dMD_firstOf_73 : decode bMD_firstOf 73 = .ok (.iload_n 2, 1) := by decide +kernel
theorem dMD_firstOf_74 : decode bMD_firstOf 74 = .ok (.istore_n 2, 1) := by decide +kernel
theorem dMD_firstOf_75 : decode bMD_firstOf 75 = .ok (.iinc 3 1, 3) := by decide +kernel
theorem dMD_firstOf_78 : decode bMD_firstOf 78 = .ok (.goto (-74), 3) := by decide +kernel
theorem dMD_firstOf_81 : decode bMD_firstOf 81 = .ok (.iload_n 2, 1) := by decide +kernel
theorem dMD_firstOf_82 : decode bMD_firstOf 82 = .ok (.ireturn, 1) := by decide +kernel
theorem dMD_target_0 : decode bMD_target 0 = .ok (.aload_n 0, 1) := by decide +kernel
theorem dMD_target_1 : decode bMD_target 1 = .ok (.getfield 32, 3) := by decide +kernel
theorem dMD_target_4 : decode bMD_target 4 = .ok (.iload_n 1, 1) := by decide +kernel
theorem dMD_target_5 : decode bMD_target 5 = .ok (.iaload, 1) := by decide +kernel
theorem dMD_target_6 : decode bMD_target 6 = .ok (.bipush 16, 2) := by decide +kernel
theorem dMD_target_8 : decode bMD_target 8 = .ok (.idiv, 1) := by decide +kernel
theorem dMD_target_9 : decode bMD_target 9 = .ok (.ireturn, 1) := by decide +kernel
theorem dMD_serve_0 : decode bMD_serve 0 = .ok (.aload_n 0, 1) := by decide +kernel
theorem dMD_serve_1 : decode bMD_serve 1 = .ok (.getfield 44, 3) := by decide +kernel
theorem dMD_serve_4 : decode bMD_serve 4 = .ok (.iload_n 1, 1) := by decide +kernel
theorem dMD_serve_5 : decode bMD_serve 5 = .ok (.iconst 0, 1) := by decide +kernel
theorem dMD_serve_6 : decode bMD_serve 6 = .ok (.iastore, 1) := by decide +kernel
theorem dMD_serve_7 : decode bMD_serve 7 = .ok (.aload_n 0, 1) := by decide +kernel
theorem dMD_serve_8 : decode bMD_serve 8 = .ok (.getfield 29, 3) := by decide +kernel
theorem dMD_serve_11 : decode bMD_serve 11 = .ok (.iload_n 1, 1) := by decide +kernel
theorem dMD_serve_12 : decode bMD_serve 12 = .ok (.iaload, 1) := by decide +kernel
theorem dMD_serve_13 : decode bMD_serve 13 = .ok (.iconst 1, 1) := by decide +kernel
theorem dMD_serve_14 : decode bMD_serve 14 = .ok (.if_icmp .eq 13, 3) := by decide +kernel
theorem dMD_serve_17 : decode bMD_serve 17 = .ok (.aload_n 0, 1) := by decide +kernel
theorem dMD_serve_18 : decode bMD_serve 18 = .ok (.getfield 29, 3) := by decide +kernel
theorem dMD_serve_21 : decode bMD_serve 21 = .ok (.iload_n 1, 1) := by decide +kernel
theorem dMD_serve_22 : decode bMD_serve 22 = .ok (.iaload, 1) := by decide +kernel
theorem dMD_serve_23 : decode bMD_serve 23 = .ok (.iconst 3, 1) := by decide +kernel
theorem dMD_serve_24 : decode bMD_serve 24 = .ok (.if_icmp .ne 7, 3) := by decide +kernel
theorem dMD_serve_27 : decode bMD_serve 27 = .ok (.iconst 1, 1) := by decide +kernel
theorem dMD_serve_28 : decode bMD_serve 28 = .ok (.goto 4, 3) := by decide +kernel
theorem dMD_serve_31 : decode bMD_serve 31 = .ok (.iconst 0, 1) := by decide +kernel
theorem dMD_serve_32 : decode bMD_serve 32 = .ok (.istore_n 2, 1) := by decide +kernel
theorem dMD_serve_33 : decode bMD_serve 33 = .ok (.iconst 0, 1) := by decide +kernel
theorem dMD_serve_34 : decode bMD_serve 34 = .ok (.istore_n 3, 1) := by decide +kernel
theorem dMD_serve_35 : decode bMD_serve 35 = .ok (.iload_n 3, 1) := by decide +kernel
theorem dMD_serve_36 : decode bMD_serve 36 = .ok (.aload_n 0, 1) := by decide +kernel
theorem dMD_serve_37 : decode bMD_serve 37 = .ok (.getfield 35, 3) := by decide +kernel
theorem dMD_serve_40 : decode bMD_serve 40 = .ok (.iload_n 1, 1) := by decide +kernel
theorem dMD_serve_41 : decode bMD_serve 41 = .ok (.iaload, 1) := by decide +kernel
theorem dMD_serve_42 : decode bMD_serve 42 = .ok (.if_icmp .ge 62, 3) := by decide +kernel
theorem dMD_serve_45 : decode bMD_serve 45 = .ok (.iload_n 2, 1) := by decide +kernel
theorem dMD_serve_46 : decode bMD_serve 46 = .ok (.ifCond .eq 29, 3) := by decide +kernel
theorem dMD_serve_49 : decode bMD_serve 49 = .ok (.aload_n 0, 1) := by decide +kernel
theorem dMD_serve_50 : decode bMD_serve 50 = .ok (.getfield 7, 3) := by decide +kernel
theorem dMD_serve_53 : decode bMD_serve 53 = .ok (.aload_n 0, 1) := by decide +kernel
theorem dMD_serve_54 : decode bMD_serve 54 = .ok (.getfield 32, 3) := by decide +kernel
theorem dMD_serve_57 : decode bMD_serve 57 = .ok (.iload_n 1, 1) := by decide +kernel
theorem dMD_serve_58 : decode bMD_serve 58 = .ok (.iaload, 1) := by decide +kernel
theorem dMD_serve_59 : decode bMD_serve 59 = .ok (.iload_n 3, 1) := by decide +kernel
theorem dMD_serve_60 : decode bMD_serve 60 = .ok (.iadd, 1) := by decide +kernel
theorem dMD_serve_61 : decode bMD_serve 61 = .ok (.aload_n 0, 1) := by decide +kernel
theorem dMD_serve_62 : decode bMD_serve 62 = .ok (.getfield 47, 3) := by decide +kernel
theorem dMD_serve_65 : decode bMD_serve 65 = .ok (.iconst 4, 1) := by decide +kernel
theorem dMD_serve_66 : decode bMD_serve 66 = .ok (.iload_n 1, 1) := by decide +kernel
theorem dMD_serve_67 : decode bMD_serve 67 = .ok (.imul, 1) := by decide +kernel
theorem dMD_serve_68 : decode bMD_serve 68 = .ok (.iload_n 3, 1) := by decide +kernel
theorem dMD_serve_69 : decode bMD_serve 69 = .ok (.iadd, 1) := by decide +kernel
theorem dMD_serve_70 : decode bMD_serve 70 = .ok (.iaload, 1) := by decide +kernel
theorem dMD_serve_71 : decode bMD_serve 71 = .ok (.iastore, 1) := by decide +kernel
theorem dMD_serve_72 : decode bMD_serve 72 = .ok (.goto 26, 3) := by decide +kernel
theorem dMD_serve_75 : decode bMD_serve 75 = .ok (.aload_n 0, 1) := by decide +kernel
theorem dMD_serve_76 : decode bMD_serve 76 = .ok (.getfield 50, 3) := by decide +kernel
theorem dMD_serve_79 : decode bMD_serve 79 = .ok (.iconst 4, 1) := by decide +kernel
theorem dMD_serve_80 : decode bMD_serve 80 = .ok (.iload_n 1, 1) := by decide +kernel
theorem dMD_serve_81 : decode bMD_serve 81 = .ok (.imul, 1) := by decide +kernel
theorem dMD_serve_82 : decode bMD_serve 82 = .ok (.iload_n 3, 1) := by decide +kernel
theorem dMD_serve_83 : decode bMD_serve 83 = .ok (.iadd, 1) := by decide +kernel
theorem dMD_serve_84 : decode bMD_serve 84 = .ok (.aload_n 0, 1) := by decide +kernel
theorem dMD_serve_85 : decode bMD_serve 85 = .ok (.getfield 7, 3) := by decide +kernel
theorem dMD_serve_88 : decode bMD_serve 88 = .ok (.aload_n 0, 1) := by decide +kernel
theorem dMD_serve_89 : decode bMD_serve 89 = .ok (.getfield 32, 3) := by decide +kernel
theorem dMD_serve_92 : decode bMD_serve 92 = .ok (.iload_n 1, 1) := by decide +kernel
theorem dMD_serve_93 : decode bMD_serve 93 = .ok (.iaload, 1) := by decide +kernel
theorem dMD_serve_94 : decode bMD_serve 94 = .ok (.iload_n 3, 1) := by decide +kernel
theorem dMD_serve_95 : decode bMD_serve 95 = .ok (.iadd, 1) := by decide +kernel
theorem dMD_serve_96 : decode bMD_serve 96 = .ok (.iaload, 1) := by decide +kernel
theorem dMD_serve_97 : decode bMD_serve 97 = .ok (.iastore, 1) := by decide +kernel
theorem dMD_serve_98 : decode bMD_serve 98 = .ok (.iinc 3 1, 3) := by decide +kernel
theorem dMD_serve_101 : decode bMD_serve 101 = .ok (.goto (-66), 3) := by decide +kernel
theorem dMD_serve_104 : decode bMD_serve 104 = .ok (.iload_n 2, 1) := by decide +kernel
theorem dMD_serve_105 : decode bMD_serve 105 = .ok (.ifCond .eq 13, 3) := by decide +kernel
theorem dMD_serve_108 : decode bMD_serve 108 = .ok (.aload_n 0, 1) := by decide +kernel
theorem dMD_serve_109 : decode bMD_serve 109 = .ok (.getfield 26, 3) := by decide +kernel
theorem dMD_serve_112 : decode bMD_serve 112 = .ok (.iload_n 1, 1) := by decide +kernel
theorem dMD_serve_113 : decode bMD_serve 113 = .ok (.iconst 3, 1) := by decide +kernel
theorem dMD_serve_114 : decode bMD_serve 114 = .ok (.iastore, 1) := by decide +kernel
theorem dMD_serve_115 : decode bMD_serve 115 = .ok (.goto 15, 3) := by decide +kernel
theorem dMD_serve_118 : decode bMD_serve 118 = .ok (.aload_n 0, 1) := by decide +kernel
theorem dMD_serve_119 : decode bMD_serve 119 = .ok (.getfield 53, 3) := by decide +kernel
theorem dMD_serve_122 : decode bMD_serve 122 = .ok (.iload_n 1, 1) := by decide +kernel
theorem dMD_serve_123 : decode bMD_serve 123 = .ok (.aload_n 0, 1) := by decide +kernel
theorem dMD_serve_124 : decode bMD_serve 124 = .ok (.getfield 35, 3) := by decide +kernel
theorem dMD_serve_127 : decode bMD_serve 127 = .ok (.iload_n 1, 1) := by decide +kernel
theorem dMD_serve_128 : decode bMD_serve 128 = .ok (.iaload, 1) := by decide +kernel
theorem dMD_serve_129 : decode bMD_serve 129 = .ok (.iastore, 1) := by decide +kernel
theorem dMD_serve_130 : decode bMD_serve 130 = .ok (.bipush 6, 2) := by decide +kernel
theorem dMD_serve_132 : decode bMD_serve 132 = .ok (.aload_n 0, 1) := by decide +kernel
theorem dMD_serve_133 : decode bMD_serve 133 = .ok (.getfield 95, 3) := by decide +kernel
theorem dMD_serve_136 : decode bMD_serve 136 = .ok (.imul, 1) := by decide +kernel
theorem dMD_serve_137 : decode bMD_serve 137 = .ok (.istore_n 3, 1) := by decide +kernel
theorem dMD_serve_138 : decode bMD_serve 138 = .ok (.aload_n 0, 1) := by decide +kernel
theorem dMD_serve_139 : decode bMD_serve 139 = .ok (.getfield 63, 3) := by decide +kernel
theorem dMD_serve_142 : decode bMD_serve 142 = .ok (.iload_n 3, 1) := by decide +kernel
theorem dMD_serve_143 : decode bMD_serve 143 = .ok (.iload_n 1, 1) := by decide +kernel
theorem dMD_serve_144 : decode bMD_serve 144 = .ok (.iconst 4, 1) := by decide +kernel
theorem dMD_serve_145 : decode bMD_serve 145 = .ok (.idiv, 1) := by decide +kernel
theorem dMD_serve_146 : decode bMD_serve 146 = .ok (.iastore, 1) := by decide +kernel
theorem dMD_serve_147 : decode bMD_serve 147 = .ok (.aload_n 0, 1) := by decide +kernel
theorem dMD_serve_148 : decode bMD_serve 148 = .ok (.getfield 63, 3) := by decide +kernel
theorem dMD_serve_151 : decode bMD_serve 151 = .ok (.iload_n 3, 1) := by decide +kernel
theorem dMD_serve_152 : decode bMD_serve 152 = .ok (.iconst 1, 1) := by decide +kernel
theorem dMD_serve_153 : decode bMD_serve 153 = .ok (.iadd, 1) := by decide +kernel
theorem dMD_serve_154 : decode bMD_serve 154 = .ok (.iload_n 1, 1) := by decide +kernel
theorem dMD_serve_155 : decode bMD_serve 155 = .ok (.iconst 4, 1) := by decide +kernel
theorem dMD_serve_156 : decode bMD_serve 156 = .ok (.irem, 1) := by decide +kernel
theorem dMD_serve_157 : decode bMD_serve 157 = .ok (.iastore, 1) := by decide +kernel
theorem dMD_serve_158 : decode bMD_serve 158 = .ok (.aload_n 0, 1) := by decide +kernel
theorem dMD_serve_159 : decode bMD_serve 159 = .ok (.getfield 63, 3) := by decide +kernel
theorem dMD_serve_162 : decode bMD_serve 162 = .ok (.iload_n 3, 1) := by decide +kernel
theorem dMD_serve_163 : decode bMD_serve 163 = .ok (.iconst 2, 1) := by decide +kernel
theorem dMD_serve_164 : decode bMD_serve 164 = .ok (.iadd, 1) := by decide +kernel
theorem dMD_serve_165 : decode bMD_serve 165 = .ok (.aload_n 0, 1) := by decide +kernel
theorem dMD_serve_166 : decode bMD_serve 166 = .ok (.getfield 29, 3) := by decide +kernel
theorem dMD_serve_169 : decode bMD_serve 169 = .ok (.iload_n 1, 1) := by decide +kernel
theorem dMD_serve_170 : decode bMD_serve 170 = .ok (.iaload, 1) := by decide +kernel
theorem dMD_serve_171 : decode bMD_serve 171 = .ok (.iastore, 1) := by decide +kernel
theorem dMD_serve_172 : decode bMD_serve 172 = .ok (.aload_n 0, 1) := by decide +kernel
theorem dMD_serve_173 : decode bMD_serve 173 = .ok (.getfield 63, 3) := by decide +kernel
theorem dMD_serve_176 : decode bMD_serve 176 = .ok (.iload_n 3, 1) := by decide +kernel
theorem dMD_serve_177 : decode bMD_serve 177 = .ok (.iconst 3, 1) := by decide +kernel
theorem dMD_serve_178 : decode bMD_serve 178 = .ok (.iadd, 1) := by decide +kernel
theorem dMD_serve_179 : decode bMD_serve 179 = .ok (.aload_n 0, 1) := by decide +kernel
theorem dMD_serve_180 : decode bMD_serve 180 = .ok (.getfield 32, 3) := by decide +kernel
theorem dMD_serve_183 : decode bMD_serve 183 = .ok (.iload_n 1, 1) := by decide +kernel
theorem dMD_serve_184 : decode bMD_serve 184 = .ok (.iaload, 1) := by decide +kernel
theorem dMD_serve_185 : decode bMD_serve 185 = .ok (.iastore, 1) := by decide +kernel
theorem dMD_serve_186 : decode bMD_serve 186 = .ok (.aload_n 0, 1) := by decide +kernel
theorem dMD_serve_187 : decode bMD_serve 187 = .ok (.getfield 63, 3) := by decide +kernel
theorem dMD_serve_190 : decode bMD_serve 190 = .ok (.iload_n 3, 1) := by decide +kernel
theorem dMD_serve_191 : decode bMD_serve 191 = .ok (.iconst 4, 1) := by decide +kernel
theorem dMD_serve_192 : decode bMD_serve 192 = .ok (.iadd, 1) := by decide +kernel
theorem dMD_serve_193 : decode bMD_serve 193 = .ok (.aload_n 0, 1) := by decide +kernel
theorem dMD_serve_194 : decode bMD_serve 194 = .ok (.getfield 35, 3) := by decide +kernel
theorem dMD_serve_197 : decode bMD_serve 197 = .ok (.iload_n 1, 1) := by decide +kernel
theorem dMD_serve_198 : decode bMD_serve 198 = .ok (.iaload, 1) := by decide +kernel
theorem dMD_serve_199 : decode bMD_serve 199 = .ok (.iastore, 1) := by decide +kernel
theorem dMD_serve_200 : decode bMD_serve 200 = .ok (.aload_n 0, 1) := by decide +kernel
theorem dMD_serve_201 : decode bMD_serve 201 = .ok (.getfield 63, 3) := by decide +kernel
theorem dMD_serve_204 : decode bMD_serve 204 = .ok (.iload_n 3, 1) := by decide +kernel
theorem dMD_serve_205 : decode bMD_serve 205 = .ok (.iconst 5, 1) := by decide +kernel
theorem dMD_serve_206 : decode bMD_serve 206 = .ok (.iadd, 1) := by decide +kernel
theorem dMD_serve_207 : decode bMD_serve 207 = .ok (.aload_n 0, 1) := by decide +kernel
theorem dMD_serve_208 : decode bMD_serve 208 = .ok (.getfield 98, 3) := by decide +kernel
theorem dMD_serve_211 : decode bMD_serve 211 = .ok (.iconst 1, 1) := by decide +kernel
theorem dMD_serve_212 : decode bMD_serve 212 = .ok (.iadd, 1) := by decide +kernel
theorem dMD_serve_213 : decode bMD_serve 213 = .ok (.iastore, 1) := by decide +kernel
theorem dMD_serve_214 : decode bMD_serve 214 = .ok (.aload_n 0, 1) := by decide +kernel
theorem dMD_serve_215 : decode bMD_serve 215 = .ok (.dup, 1) := by decide +kernel
theorem dMD_serve_216 : decode bMD_serve 216 = .ok (.getfield 95, 3) := by decide +kernel
theorem dMD_serve_219 : decode bMD_serve 219 = .ok (.iconst 1, 1) := by decide +kernel
theorem dMD_serve_220 : decode bMD_serve 220 = .ok (.iadd, 1) := by decide +kernel
theorem dMD_serve_221 : decode bMD_serve 221 = .ok (.putfield 95, 3) := by decide +kernel
theorem dMD_serve_224 : decode bMD_serve 224 = .ok (.return_, 1) := by decide +kernel
theorem dMD_giveBack_0 : decode bMD_giveBack 0 = .ok (.iconst (-1), 1) := by decide +kernel
theorem dMD_giveBack_1 : decode bMD_giveBack 1 = .ok (.istore_n 1, 1) := by decide +kernel
theorem dMD_giveBack_2 : decode bMD_giveBack 2 = .ok (.bipush 16, 2) := by decide +kernel
theorem dMD_giveBack_4 : decode bMD_giveBack 4 = .ok (.istore_n 2, 1) := by decide +kernel
theorem dMD_giveBack_5 : decode bMD_giveBack 5 = .ok (.iload_n 2, 1) := by decide +kernel
theorem dMD_giveBack_6 : decode bMD_giveBack 6 = .ok (.ifCond .le 34, 3) := by decide +kernel
theorem dMD_giveBack_9 : decode bMD_giveBack 9 = .ok (.aload_n 0, 1) := by decide +kernel
theorem dMD_giveBack_10 : decode bMD_giveBack 10 = .ok (.getfield 56, 3) := by decide +kernel
theorem dMD_giveBack_13 : decode bMD_giveBack 13 = .ok (.iload_n 2, 1) := by decide +kernel
theorem dMD_giveBack_14 : decode bMD_giveBack 14 = .ok (.iadd, 1) := by decide +kernel
theorem dMD_giveBack_15 : decode bMD_giveBack 15 = .ok (.bipush 16, 2) := by decide +kernel
theorem dMD_giveBack_17 : decode bMD_giveBack 17 = .ok (.irem, 1) := by decide +kernel
theorem dMD_giveBack_18 : decode bMD_giveBack 18 = .ok (.istore_n 3, 1) := by decide +kernel
theorem dMD_giveBack_19 : decode bMD_giveBack 19 = .ok (.aload_n 0, 1) := by decide +kernel
theorem dMD_giveBack_20 : decode bMD_giveBack 20 = .ok (.getfield 53, 3) := by decide +kernel
theorem dMD_giveBack_23 : decode bMD_giveBack 23 = .ok (.iload_n 3, 1) := by decide +kernel
theorem dMD_giveBack_24 : decode bMD_giveBack 24 = .ok (.iaload, 1) := by decide +kernel
theorem dMD_giveBack_25 : decode bMD_giveBack 25 = .ok (.ifCond .le 7, 3) := by decide +kernel
theorem dMD_giveBack_28 : decode bMD_giveBack 28 = .ok (.iload_n 3, 1) := by decide +kernel
theorem dMD_giveBack_29 : decode bMD_giveBack 29 = .ok (.goto 4, 3) := by decide +kernel
theorem dMD_giveBack_32 : decode bMD_giveBack 32 = .ok (.iload_n 1, 1) := by decide +kernel
theorem dMD_giveBack_33 : decode bMD_giveBack 33 = .ok (.istore_n 1, 1) := by decide +kernel
theorem dMD_giveBack_34 : decode bMD_giveBack 34 = .ok (.iinc 2 (-1), 3) := by decide +kernel
theorem dMD_giveBack_37 : decode bMD_giveBack 37 = .ok (.goto (-32), 3) := by decide +kernel
theorem dMD_giveBack_40 : decode bMD_giveBack 40 = .ok (.iload_n 1, 1) := by decide +kernel
theorem dMD_giveBack_41 : decode bMD_giveBack 41 = .ok (.ifCond .lt 43, 3) := by decide +kernel
theorem dMD_giveBack_44 : decode bMD_giveBack 44 = .ok (.aload_n 0, 1) := by decide +kernel
theorem dMD_giveBack_45 : decode bMD_giveBack 45 = .ok (.iload_n 1, 1) := by decide +kernel
theorem dMD_giveBack_46 : decode bMD_giveBack 46 = .ok (.putfield 56, 3) := by decide +kernel
theorem dMD_giveBack_49 : decode bMD_giveBack 49 = .ok (.aload_n 0, 1) := by decide +kernel
theorem dMD_giveBack_50 : decode bMD_giveBack 50 = .ok (.getfield 53, 3) := by decide +kernel
theorem dMD_giveBack_53 : decode bMD_giveBack 53 = .ok (.iload_n 1, 1) := by decide +kernel
theorem dMD_giveBack_54 : decode bMD_giveBack 54 = .ok (.dup2, 1) := by decide +kernel
theorem dMD_giveBack_55 : decode bMD_giveBack 55 = .ok (.iaload, 1) := by decide +kernel
theorem dMD_giveBack_56 : decode bMD_giveBack 56 = .ok (.iconst 1, 1) := by decide +kernel
theorem dMD_giveBack_57 : decode bMD_giveBack 57 = .ok (.isub, 1) := by decide +kernel
theorem dMD_giveBack_58 : decode bMD_giveBack 58 = .ok (.iastore, 1) := by decide +kernel
theorem dMD_giveBack_59 : decode bMD_giveBack 59 = .ok (.aload_n 0, 1) := by decide +kernel
theorem dMD_giveBack_60 : decode bMD_giveBack 60 = .ok (.getfield 26, 3) := by decide +kernel
theorem dMD_giveBack_63 : decode bMD_giveBack 63 = .ok (.iload_n 1, 1) := by decide +kernel
theorem dMD_giveBack_64 : decode bMD_giveBack 64 = .ok (.aload_n 0, 1) := by decide +kernel
theorem dMD_giveBack_65 : decode bMD_giveBack 65 = .ok (.getfield 53, 3) := by decide +kernel
theorem dMD_giveBack_68 : decode bMD_giveBack 68 = .ok (.iload_n 1, 1) := by decide +kernel
theorem dMD_giveBack_69 : decode bMD_giveBack 69 = .ok (.iaload, 1) := by decide +kernel
theorem dMD_giveBack_70 : decode bMD_giveBack 70 = .ok (.ifCond .ne 7, 3) := by decide +kernel
theorem dMD_giveBack_73 : decode bMD_giveBack 73 = .ok (.iconst 3, 1) := by decide +kernel
theorem dMD_giveBack_74 : decode bMD_giveBack 74 = .ok (.goto 9, 3) := by decide +kernel
theorem dMD_giveBack_77 : decode bMD_giveBack 77 = .ok (.aload_n 0, 1) := by decide +kernel
theorem dMD_giveBack_78 : decode bMD_giveBack 78 = .ok (.getfield 26, 3) := by decide +kernel
theorem dMD_giveBack_81 : decode bMD_giveBack 81 = .ok (.iload_n 1, 1) := by decide +kernel
theorem dMD_giveBack_82 : decode bMD_giveBack 82 = .ok (.iaload, 1) := by decide +kernel
theorem dMD_giveBack_83 : decode bMD_giveBack 83 = .ok (.iastore, 1) := by decide +kernel
theorem dMD_giveBack_84 : decode bMD_giveBack 84 = .ok (.return_, 1) := by decide +kernel
theorem dMD_grant_0 : decode bMD_grant 0 = .ok (.iconst (-1), 1) := by decide +kernel
theorem dMD_grant_1 : decode bMD_grant 1 = .ok (.istore_n 1, 1) := by decide +kernel
theorem dMD_grant_2 : decode bMD_grant 2 = .ok (.iconst 0, 1) := by decide +kernel
theorem dMD_grant_3 : decode bMD_grant 3 = .ok (.istore_n 2, 1) := by decide +kernel
theorem dMD_grant_4 : decode bMD_grant 4 = .ok (.iload_n 2, 1) := by decide +kernel
theorem dMD_grant_5 : decode bMD_grant 5 = .ok (.bipush 16, 2) := by decide +kernel
theorem dMD_grant_7 : decode bMD_grant 7 = .ok (.if_icmp .ge 36, 3) := by decide +kernel
theorem dMD_grant_10 : decode bMD_grant 10 = .ok (.aload_n 0, 1) := by decide +kernel
theorem dMD_grant_11 : decode bMD_grant 11 = .ok (.iload_n 2, 1) := by decide +kernel
theorem dMD_grant_12 : decode bMD_grant 12 = .ok (.invokevirtual 116, 3) := by decide +kernel
theorem dMD_grant_15 : decode bMD_grant 15 = .ok (.ifCond .eq 20, 3) := by decide +kernel
theorem dMD_grant_18 : decode bMD_grant 18 = .ok (.iload_n 1, 1) := by decide +kernel
theorem dMD_grant_19 : decode bMD_grant 19 = .ok (.ifCond .lt 12, 3) := by decide +kernel
theorem dMD_grant_22 : decode bMD_grant 22 = .ok (.aload_n 0, 1) := by decide +kernel
theorem dMD_grant_23 : decode bMD_grant 23 = .ok (.iload_n 2, 1) := by decide +kernel
theorem dMD_grant_24 : decode bMD_grant 24 = .ok (.iload_n 1, 1) := by decide +kernel
theorem dMD_grant_25 : decode bMD_grant 25 = .ok (.invokevirtual 119, 3) := by decide +kernel
theorem dMD_grant_28 : decode bMD_grant 28 = .ok (.ifCond .eq 7, 3) := by decide +kernel
theorem dMD_grant_31 : decode bMD_grant 31 = .ok (.iload_n 2, 1) := by decide +kernel
theorem dMD_grant_32 : decode bMD_grant 32 = .ok (.goto 4, 3) := by decide +kernel
theorem dMD_grant_35 : decode bMD_grant 35 = .ok (.iload_n 1, 1) := by decide +kernel
theorem dMD_grant_36 : decode bMD_grant 36 = .ok (.istore_n 1, 1) := by decide +kernel
theorem dMD_grant_37 : decode bMD_grant 37 = .ok (.iinc 2 1, 3) := by decide +kernel
theorem dMD_grant_40 : decode bMD_grant 40 = .ok (.goto (-36), 3) := by decide +kernel
theorem dMD_grant_43 : decode bMD_grant 43 = .ok (.iload_n 1, 1) := by decide +kernel
theorem dMD_grant_44 : decode bMD_grant 44 = .ok (.ifCond .ge 5, 3) := by decide +kernel
theorem dMD_grant_47 : decode bMD_grant 47 = .ok (.iconst (-1), 1) := by decide +kernel
theorem dMD_grant_48 : decode bMD_grant 48 = .ok (.ireturn, 1) := by decide +kernel
theorem dMD_grant_49 : decode bMD_grant 49 = .ok (.aload_n 0, 1) := by decide +kernel
theorem dMD_grant_50 : decode bMD_grant 50 = .ok (.dup, 1) := by decide +kernel
theorem dMD_grant_51 : decode bMD_grant 51 = .ok (.getfield 122, 3) := by decide +kernel
theorem dMD_grant_54 : decode bMD_grant 54 = .ok (.iconst 1, 1) := by decide +kernel
theorem dMD_grant_55 : decode bMD_grant 55 = .ok (.iadd, 1) := by decide +kernel
theorem dMD_grant_56 : decode bMD_grant 56 = .ok (.putfield 122, 3) := by decide +kernel
theorem dMD_grant_59 : decode bMD_grant 59 = .ok (.aload_n 0, 1) := by decide +kernel
theorem dMD_grant_60 : decode bMD_grant 60 = .ok (.iload_n 1, 1) := by decide +kernel
theorem dMD_grant_61 : decode bMD_grant 61 = .ok (.iconst 4, 1) := by decide +kernel
theorem dMD_grant_62 : decode bMD_grant 62 = .ok (.idiv, 1) := by decide +kernel
theorem dMD_grant_63 : decode bMD_grant 63 = .ok (.putfield 60, 3) := by decide +kernel
theorem dMD_grant_66 : decode bMD_grant 66 = .ok (.aload_n 0, 1) := by decide +kernel
theorem dMD_grant_67 : decode bMD_grant 67 = .ok (.iload_n 1, 1) := by decide +kernel
theorem dMD_grant_68 : decode bMD_grant 68 = .ok (.invokevirtual 107, 3) := by decide +kernel
theorem dMD_grant_71 : decode bMD_grant 71 = .ok (.ifCond .ne 26, 3) := by decide +kernel
theorem dMD_grant_74 : decode bMD_grant 74 = .ok (.aload_n 0, 1) := by decide +kernel
theorem dMD_grant_75 : decode bMD_grant 75 = .ok (.getfield 26, 3) := by decide +kernel
theorem dMD_grant_78 : decode bMD_grant 78 = .ok (.iload_n 1, 1) := by decide +kernel
theorem dMD_grant_79 : decode bMD_grant 79 = .ok (.aload_n 0, 1) := by decide +kernel
theorem dMD_grant_80 : decode bMD_grant 80 = .ok (.getfield 29, 3) := by decide +kernel
theorem dMD_grant_83 : decode bMD_grant 83 = .ok (.iload_n 1, 1) := by decide +kernel
theorem dMD_grant_84 : decode bMD_grant 84 = .ok (.iaload, 1) := by decide +kernel
theorem dMD_grant_85 : decode bMD_grant 85 = .ok (.iconst 4, 1) := by decide +kernel
theorem dMD_grant_86 : decode bMD_grant 86 = .ok (.if_icmp .ne 7, 3) := by decide +kernel
theorem dMD_grant_89 : decode bMD_grant 89 = .ok (.iconst 3, 1) := by decide +kernel
theorem dMD_grant_90 : decode bMD_grant 90 = .ok (.goto 4, 3) := by decide +kernel
theorem dMD_grant_93 : decode bMD_grant 93 = .ok (.iconst 4, 1) := by decide +kernel
theorem dMD_grant_94 : decode bMD_grant 94 = .ok (.iastore, 1) := by decide +kernel
theorem dMD_grant_95 : decode bMD_grant 95 = .ok (.iload_n 1, 1) := by decide +kernel
theorem dMD_grant_96 : decode bMD_grant 96 = .ok (.ireturn, 1) := by decide +kernel
theorem dMD_grant_97 : decode bMD_grant 97 = .ok (.aload_n 0, 1) := by decide +kernel
theorem dMD_grant_98 : decode bMD_grant 98 = .ok (.getfield 26, 3) := by decide +kernel
theorem dMD_grant_101 : decode bMD_grant 101 = .ok (.iload_n 1, 1) := by decide +kernel
theorem dMD_grant_102 : decode bMD_grant 102 = .ok (.iconst 2, 1) := by decide +kernel
theorem dMD_grant_103 : decode bMD_grant 103 = .ok (.iastore, 1) := by decide +kernel
theorem dMD_grant_104 : decode bMD_grant 104 = .ok (.aload_n 0, 1) := by decide +kernel
theorem dMD_grant_105 : decode bMD_grant 105 = .ok (.getfield 44, 3) := by decide +kernel
theorem dMD_grant_108 : decode bMD_grant 108 = .ok (.iload_n 1, 1) := by decide +kernel
theorem dMD_grant_109 : decode bMD_grant 109 = .ok (.aload_n 0, 1) := by decide +kernel
theorem dMD_grant_110 : decode bMD_grant 110 = .ok (.getfield 122, 3) := by decide +kernel
theorem dMD_grant_113 : decode bMD_grant 113 = .ok (.iastore, 1) := by decide +kernel
theorem dMD_grant_114 : decode bMD_grant 114 = .ok (.aload_n 0, 1) := by decide +kernel
theorem dMD_grant_115 : decode bMD_grant 115 = .ok (.getfield 29, 3) := by decide +kernel
theorem dMD_grant_118 : decode bMD_grant 118 = .ok (.iload_n 1, 1) := by decide +kernel
theorem dMD_grant_119 : decode bMD_grant 119 = .ok (.iaload, 1) := by decide +kernel
theorem dMD_grant_120 : decode bMD_grant 120 = .ok (.iconst 2, 1) := by decide +kernel
theorem dMD_grant_121 : decode bMD_grant 121 = .ok (.if_icmp .ne 16, 3) := by decide +kernel
theorem dMD_grant_124 : decode bMD_grant 124 = .ok (.aload_n 0, 1) := by decide +kernel
theorem dMD_grant_125 : decode bMD_grant 125 = .ok (.getfield 23, 3) := by decide +kernel
theorem dMD_grant_128 : decode bMD_grant 128 = .ok (.aload_n 0, 1) := by decide +kernel
theorem dMD_grant_129 : decode bMD_grant 129 = .ok (.iload_n 1, 1) := by decide +kernel
theorem dMD_grant_130 : decode bMD_grant 130 = .ok (.invokevirtual 91, 3) := by decide +kernel
theorem dMD_grant_133 : decode bMD_grant 133 = .ok (.iload_n 1, 1) := by decide +kernel
theorem dMD_grant_134 : decode bMD_grant 134 = .ok (.iconst 4, 1) := by decide +kernel
theorem dMD_grant_135 : decode bMD_grant 135 = .ok (.idiv, 1) := by decide +kernel
theorem dMD_grant_136 : decode bMD_grant 136 = .ok (.iastore, 1) := by decide +kernel
theorem dMD_grant_137 : decode bMD_grant 137 = .ok (.aload_n 0, 1) := by decide +kernel
theorem dMD_grant_138 : decode bMD_grant 138 = .ok (.getfield 29, 3) := by decide +kernel
theorem dMD_grant_141 : decode bMD_grant 141 = .ok (.iload_n 1, 1) := by decide +kernel
theorem dMD_grant_142 : decode bMD_grant 142 = .ok (.iaload, 1) := by decide +kernel
theorem dMD_grant_143 : decode bMD_grant 143 = .ok (.iconst 3, 1) := by decide +kernel
theorem dMD_grant_144 : decode bMD_grant 144 = .ok (.if_icmp .ne 14, 3) := by decide +kernel
theorem dMD_grant_147 : decode bMD_grant 147 = .ok (.aload_n 0, 1) := by decide +kernel
theorem dMD_grant_148 : decode bMD_grant 148 = .ok (.getfield 23, 3) := by decide +kernel
theorem dMD_grant_151 : decode bMD_grant 151 = .ok (.aload_n 0, 1) := by decide +kernel
theorem dMD_grant_152 : decode bMD_grant 152 = .ok (.iload_n 1, 1) := by decide +kernel
theorem dMD_grant_153 : decode bMD_grant 153 = .ok (.invokevirtual 91, 3) := by decide +kernel
theorem dMD_grant_156 : decode bMD_grant 156 = .ok (.iconst (-1), 1) := by decide +kernel
theorem dMD_grant_157 : decode bMD_grant 157 = .ok (.iastore, 1) := by decide +kernel
theorem dMD_grant_158 : decode bMD_grant 158 = .ok (.iload_n 1, 1) := by decide +kernel
theorem dMD_grant_159 : decode bMD_grant 159 = .ok (.ireturn, 1) := by decide +kernel
theorem dMD_isEligible_0 : decode bMD_isEligible 0 = .ok (.aload_n 0, 1) := by decide +kernel
theorem dMD_isEligible_1 : decode bMD_isEligible 1 = .ok (.getfield 26, 3) := by decide +kernel
theorem dMD_isEligible_4 : decode bMD_isEligible 4 = .ok (.iload_n 1, 1) := by decide +kernel
theorem dMD_isEligible_5 : decode bMD_isEligible 5 = .ok (.iaload, 1) := by decide +kernel
theorem dMD_isEligible_6 : decode bMD_isEligible 6 = .ok (.iconst 1, 1) := by decide +kernel
theorem dMD_isEligible_7 : decode bMD_isEligible 7 = .ok (.if_icmp .eq 5, 3) := by decide +kernel
theorem dMD_isEligible_10 : decode bMD_isEligible 10 = .ok (.iconst 0, 1) := by decide +kernel
theorem dMD_isEligible_11 : decode bMD_isEligible 11 = .ok (.ireturn, 1) := by decide +kernel
theorem dMD_isEligible_12 : decode bMD_isEligible 12 = .ok (.iconst 0, 1) := by decide +kernel
theorem dMD_isEligible_13 : decode bMD_isEligible 13 = .ok (.istore_n 2, 1) := by decide +kernel
theorem dMD_isEligible_14 : decode bMD_isEligible 14 = .ok (.iload_n 2, 1) := by decide +kernel
theorem dMD_isEligible_15 : decode bMD_isEligible 15 = .ok (.iconst 4, 1) := by decide +kernel
theorem dMD_isEligible_16 : decode bMD_isEligible 16 = .ok (.if_icmp .ge 93, 3) := by decide +kernel
theorem dMD_isEligible_19 : decode bMD_isEligible 19 = .ok (.iconst 4, 1) := by decide +kernel
theorem dMD_isEligible_20 : decode bMD_isEligible 20 = .ok (.iload_n 1, 1) := by decide +kernel
theorem dMD_isEligible_21 : decode bMD_isEligible 21 = .ok (.iconst 4, 1) := by decide +kernel
theorem dMD_isEligible_22 : decode bMD_isEligible 22 = .ok (.idiv, 1) := by decide +kernel
theorem dMD_isEligible_23 : decode bMD_isEligible 23 = .ok (.imul, 1) := by decide +kernel
theorem dMD_isEligible_24 : decode bMD_isEligible 24 = .ok (.iload_n 2, 1) := by decide +kernel
theorem dMD_isEligible_25 : decode bMD_isEligible 25 = .ok (.iadd, 1) := by decide +kernel
theorem dMD_isEligible_26 : decode bMD_isEligible 26 = .ok (.istore_n 3, 1) := by decide +kernel
theorem dMD_isEligible_27 : decode bMD_isEligible 27 = .ok (.aload_n 0, 1) := by decide +kernel
theorem dMD_isEligible_28 : decode bMD_isEligible 28 = .ok (.iload_n 3, 1) := by decide +kernel
theorem dMD_isEligible_29 : decode bMD_isEligible 29 = .ok (.invokevirtual 101, 3) := by decide +kernel
theorem dMD_isEligible_32 : decode bMD_isEligible 32 = .ok (.ifCond .eq 71, 3) := by decide +kernel
theorem dMD_isEligible_35 : decode bMD_isEligible 35 = .ok (.aload_n 0, 1) := by decide +kernel
theorem dMD_isEligible_36 : decode bMD_isEligible 36 = .ok (.getfield 41, 3) := by decide +kernel
theorem dMD_isEligible_39 : decode bMD_isEligible 39 = .ok (.iload_n 3, 1) := by decide +kernel
theorem dMD_isEligible_40 : decode bMD_isEligible 40 = .ok (.iaload, 1) := by decide +kernel
theorem dMD_isEligible_41 : decode bMD_isEligible 41 = .ok (.aload_n 0, 1) := by decide +kernel
theorem dMD_isEligible_42 : decode bMD_isEligible 42 = .ok (.getfield 41, 3) := by decide +kernel
theorem dMD_isEligible_45 : decode bMD_isEligible 45 = .ok (.iload_n 1, 1) := by decide +kernel
theorem dMD_isEligible_46 : decode bMD_isEligible 46 = .ok (.iaload, 1) := by decide +kernel
theorem dMD_isEligible_47 : decode bMD_isEligible 47 = .ok (.if_icmp .ge 56, 3) := by decide +kernel
theorem dMD_isEligible_50 : decode bMD_isEligible 50 = .ok (.aload_n 0, 1) := by decide +kernel
theorem dMD_isEligible_51 : decode bMD_isEligible 51 = .ok (.getfield 29, 3) := by decide +kernel
theorem dMD_isEligible_54 : decode bMD_isEligible 54 = .ok (.iload_n 3, 1) := by decide +kernel
theorem dMD_isEligible_55 : decode bMD_isEligible 55 = .ok (.iaload, 1) := by decide +kernel
theorem dMD_isEligible_56 : decode bMD_isEligible 56 = .ok (.iconst 4, 1) := by decide +kernel
theorem dMD_isEligible_57 : decode bMD_isEligible 57 = .ok (.if_icmp .eq 32, 3) := by decide +kernel
theorem dMD_isEligible_60 : decode bMD_isEligible 60 = .ok (.aload_n 0, 1) := by decide +kernel
theorem dMD_isEligible_61 : decode bMD_isEligible 61 = .ok (.getfield 29, 3) := by decide +kernel
theorem dMD_isEligible_64 : decode bMD_isEligible 64 = .ok (.iload_n 1, 1) := by decide +kernel
theorem dMD_isEligible_65 : decode bMD_isEligible 65 = .ok (.iaload, 1) := by decide +kernel
theorem dMD_isEligible_66 : decode bMD_isEligible 66 = .ok (.iconst 4, 1) := by decide +kernel
theorem dMD_isEligible_67 : decode bMD_isEligible 67 = .ok (.if_icmp .eq 22, 3) := by decide +kernel
theorem dMD_isEligible_70 : decode bMD_isEligible 70 = .ok (.aload_n 0, 1) := by decide +kernel
theorem dMD_isEligible_71 : decode bMD_isEligible 71 = .ok (.getfield 26, 3) := by decide +kernel
theorem dMD_isEligible_74 : decode bMD_isEligible 74 = .ok (.iload_n 3, 1) := by decide +kernel
theorem dMD_isEligible_75 : decode bMD_isEligible 75 = .ok (.iaload, 1) := by decide +kernel
theorem dMD_isEligible_76 : decode bMD_isEligible 76 = .ok (.iconst 1, 1) := by decide +kernel
theorem dMD_isEligible_77 : decode bMD_isEligible 77 = .ok (.if_icmp .ne 16, 3) := by decide +kernel
theorem dMD_isEligible_80 : decode bMD_isEligible 80 = .ok (.aload_n 0, 1) := by decide +kernel
theorem dMD_isEligible_81 : decode bMD_isEligible 81 = .ok (.iload_n 1, 1) := by decide +kernel
theorem dMD_isEligible_82 : decode bMD_isEligible 82 = .ok (.iload_n 3, 1) := by decide +kernel
theorem dMD_isEligible_83 : decode bMD_isEligible 83 = .ok (.invokevirtual 104, 3) := by decide +kernel
theorem dMD_isEligible_86 : decode bMD_isEligible 86 = .ok (.ifCond .eq 7, 3) := by decide +kernel
theorem dMD_isEligible_89 : decode bMD_isEligible 89 = .ok (.iconst 1, 1) := by decide +kernel
theorem dMD_isEligible_90 : decode bMD_isEligible 90 = .ok (.goto 4, 3) := by decide +kernel
theorem dMD_isEligible_93 : decode bMD_isEligible 93 = .ok (.iconst 0, 1) := by decide +kernel
theorem dMD_isEligible_94 : decode bMD_isEligible 94 = .ok (.istore 4, 2) := by decide +kernel
theorem dMD_isEligible_96 : decode bMD_isEligible 96 = .ok (.iload 4, 2) := by decide +kernel
theorem dMD_isEligible_98 : decode bMD_isEligible 98 = .ok (.ifCond .eq 5, 3) := by decide +kernel
theorem dMD_isEligible_101 : decode bMD_isEligible 101 = .ok (.iconst 0, 1) := by decide +kernel
theorem dMD_isEligible_102 : decode bMD_isEligible 102 = .ok (.ireturn, 1) := by decide +kernel
theorem dMD_isEligible_103 : decode bMD_isEligible 103 = .ok (.iinc 2 1, 3) := by decide +kernel
theorem dMD_isEligible_106 : decode bMD_isEligible 106 = .ok (.goto (-92), 3) := by decide +kernel
theorem dMD_isEligible_109 : decode bMD_isEligible 109 = .ok (.aload_n 0, 1) := by decide +kernel
theorem dMD_isEligible_110 : decode bMD_isEligible 110 = .ok (.iload_n 1, 1) := by decide +kernel
theorem dMD_isEligible_111 : decode bMD_isEligible 111 = .ok (.invokevirtual 107, 3) := by decide +kernel
theorem dMD_isEligible_114 : decode bMD_isEligible 114 = .ok (.ifCond .ne 5, 3) := by decide +kernel
theorem dMD_isEligible_117 : decode bMD_isEligible 117 = .ok (.iconst 1, 1) := by decide +kernel
theorem dMD_isEligible_118 : decode bMD_isEligible 118 = .ok (.ireturn, 1) := by decide +kernel
theorem dMD_isEligible_119 : decode bMD_isEligible 119 = .ok (.aload_n 0, 1) := by decide +kernel
theorem dMD_isEligible_120 : decode bMD_isEligible 120 = .ok (.getfield 23, 3) := by decide +kernel
theorem dMD_isEligible_123 : decode bMD_isEligible 123 = .ok (.aload_n 0, 1) := by decide +kernel
theorem dMD_isEligible_124 : decode bMD_isEligible 124 = .ok (.iload_n 1, 1) := by decide +kernel
theorem dMD_isEligible_125 : decode bMD_isEligible 125 = .ok (.invokevirtual 91, 3) := by decide +kernel
theorem dMD_isEligible_128 : decode bMD_isEligible 128 = .ok (.iaload, 1) := by decide +kernel
theorem dMD_isEligible_129 : decode bMD_isEligible 129 = .ok (.istore_n 2, 1) := by decide +kernel
theorem dMD_isEligible_130 : decode bMD_isEligible 130 = .ok (.aload_n 0, 1) := by decide +kernel
theorem dMD_isEligible_131 : decode bMD_isEligible 131 = .ok (.aload_n 0, 1) := by decide +kernel
theorem dMD_isEligible_132 : decode bMD_isEligible 132 = .ok (.iload_n 1, 1) := by decide +kernel
theorem dMD_isEligible_133 : decode bMD_isEligible 133 = .ok (.invokevirtual 91, 3) := by decide +kernel
theorem dMD_isEligible_136 : decode bMD_isEligible 136 = .ok (.invokevirtual 110, 3) := by decide +kernel
theorem dMD_isEligible_139 : decode bMD_isEligible 139 = .ok (.ifCond .le 29, 3) := by decide +kernel
theorem dMD_isEligible_142 : decode bMD_isEligible 142 = .ok (.iload_n 2, 1) := by decide +kernel
theorem dMD_isEligible_143 : decode bMD_isEligible 143 = .ok (.iconst (-1), 1) := by decide +kernel
theorem dMD_isEligible_144 : decode bMD_isEligible 144 = .ok (.if_icmp .eq 20, 3) := by decide +kernel
theorem dMD_isEligible_147 : decode bMD_isEligible 147 = .ok (.aload_n 0, 1) := by decide +kernel
theorem dMD_isEligible_148 : decode bMD_isEligible 148 = .ok (.getfield 29, 3) := by decide +kernel
theorem dMD_isEligible_151 : decode bMD_isEligible 151 = .ok (.iload_n 1, 1) := by decide +kernel
theorem dMD_isEligible_152 : decode bMD_isEligible 152 = .ok (.iaload, 1) := by decide +kernel
theorem dMD_isEligible_153 : decode bMD_isEligible 153 = .ok (.iconst 3, 1) := by decide +kernel
theorem dMD_isEligible_154 : decode bMD_isEligible 154 = .ok (.if_icmp .ne 14, 3) := by decide +kernel
theorem dMD_isEligible_157 : decode bMD_isEligible 157 = .ok (.iload_n 2, 1) := by decide +kernel
theorem dMD_isEligible_158 : decode bMD_isEligible 158 = .ok (.iload_n 1, 1) := by decide +kernel
theorem dMD_isEligible_159 : decode bMD_isEligible 159 = .ok (.iconst 4, 1) := by decide +kernel
theorem dMD_isEligible_160 : decode bMD_isEligible 160 = .ok (.idiv, 1) := by decide +kernel
theorem dMD_isEligible_161 : decode bMD_isEligible 161 = .ok (.if_icmp .ne 7, 3) := by decide +kernel
theorem dMD_isEligible_164 : decode bMD_isEligible 164 = .ok (.iconst 1, 1) := by decide +kernel
theorem dMD_isEligible_165 : decode bMD_isEligible 165 = .ok (.goto 4, 3) := by decide +kernel
theorem dMD_isEligible_168 : decode bMD_isEligible 168 = .ok (.iconst 0, 1) := by decide +kernel
theorem dMD_isEligible_169 : decode bMD_isEligible 169 = .ok (.ireturn, 1) := by decide +kernel
theorem dMD_isOpen_0 : decode bMD_isOpen 0 = .ok (.aload_n 0, 1) := by decide +kernel
theorem dMD_isOpen_1 : decode bMD_isOpen 1 = .ok (.getfield 26, 3) := by decide +kernel
theorem dMD_isOpen_4 : decode bMD_isOpen 4 = .ok (.iload_n 1, 1) := by decide +kernel
theorem dMD_isOpen_5 : decode bMD_isOpen 5 = .ok (.iaload, 1) := by decide +kernel
theorem dMD_isOpen_6 : decode bMD_isOpen 6 = .ok (.iconst 1, 1) := by decide +kernel
theorem dMD_isOpen_7 : decode bMD_isOpen 7 = .ok (.if_icmp .eq 13, 3) := by decide +kernel
theorem dMD_isOpen_10 : decode bMD_isOpen 10 = .ok (.aload_n 0, 1) := by decide +kernel
theorem dMD_isOpen_11 : decode bMD_isOpen 11 = .ok (.getfield 26, 3) := by decide +kernel
theorem dMD_isOpen_14 : decode bMD_isOpen 14 = .ok (.iload_n 1, 1) := by decide +kernel
theorem dMD_isOpen_15 : decode bMD_isOpen 15 = .ok (.iaload, 1) := by decide +kernel
theorem dMD_isOpen_16 : decode bMD_isOpen 16 = .ok (.iconst 2, 1) := by decide +kernel
theorem dMD_isOpen_17 : decode bMD_isOpen 17 = .ok (.if_icmp .ne 7, 3) := by decide +kernel
theorem dMD_isOpen_20 : decode bMD_isOpen 20 = .ok (.iconst 1, 1) := by decide +kernel
theorem dMD_isOpen_21 : decode bMD_isOpen 21 = .ok (.goto 4, 3) := by decide +kernel
theorem dMD_isOpen_24 : decode bMD_isOpen 24 = .ok (.iconst 0, 1) := by decide +kernel
theorem dMD_isOpen_25 : decode bMD_isOpen 25 = .ok (.ireturn, 1) := by decide +kernel
theorem dMD_meet_0 : decode bMD_meet 0 = .ok (.aload_n 0, 1) := by decide +kernel
theorem dMD_meet_1 : decode bMD_meet 1 = .ok (.getfield 29, 3) := by decide +kernel
theorem dMD_meet_4 : decode bMD_meet 4 = .ok (.iload_n 1, 1) := by decide +kernel
theorem dMD_meet_5 : decode bMD_meet 5 = .ok (.iaload, 1) := by decide +kernel
theorem dMD_meet_6 : decode bMD_meet 6 = .ok (.iconst 4, 1) := by decide +kernel
theorem dMD_meet_7 : decode bMD_meet 7 = .ok (.if_icmp .eq 61, 3) := by decide +kernel
theorem dMD_meet_10 : decode bMD_meet 10 = .ok (.aload_n 0, 1) := by decide +kernel
theorem dMD_meet_11 : decode bMD_meet 11 = .ok (.getfield 29, 3) := by decide +kernel
theorem dMD_meet_14 : decode bMD_meet 14 = .ok (.iload_n 2, 1) := by decide +kernel
theorem dMD_meet_15 : decode bMD_meet 15 = .ok (.iaload, 1) := by decide +kernel
theorem dMD_meet_16 : decode bMD_meet 16 = .ok (.iconst 4, 1) := by decide +kernel
theorem dMD_meet_17 : decode bMD_meet 17 = .ok (.if_icmp .eq 51, 3) := by decide +kernel
theorem dMD_meet_20 : decode bMD_meet 20 = .ok (.aload_n 0, 1) := by decide +kernel
theorem dMD_meet_21 : decode bMD_meet 21 = .ok (.getfield 32, 3) := by decide +kernel
theorem dMD_meet_24 : decode bMD_meet 24 = .ok (.iload_n 1, 1) := by decide +kernel
theorem dMD_meet_25 : decode bMD_meet 25 = .ok (.iaload, 1) := by decide +kernel
theorem dMD_meet_26 : decode bMD_meet 26 = .ok (.aload_n 0, 1) := by decide +kernel
theorem dMD_meet_27 : decode bMD_meet 27 = .ok (.getfield 32, 3) := by decide +kernel
theorem dMD_meet_30 : decode bMD_meet 30 = .ok (.iload_n 2, 1) := by decide +kernel
theorem dMD_meet_31 : decode bMD_meet 31 = .ok (.iaload, 1) := by decide +kernel
theorem dMD_meet_32 : decode bMD_meet 32 = .ok (.aload_n 0, 1) := by decide +kernel
theorem dMD_meet_33 : decode bMD_meet 33 = .ok (.getfield 35, 3) := by decide +kernel
theorem dMD_meet_36 : decode bMD_meet 36 = .ok (.iload_n 2, 1) := by decide +kernel
theorem dMD_meet_37 : decode bMD_meet 37 = .ok (.iaload, 1) := by decide +kernel
theorem dMD_meet_38 : decode bMD_meet 38 = .ok (.iadd, 1) := by decide +kernel
theorem dMD_meet_39 : decode bMD_meet 39 = .ok (.if_icmp .ge 29, 3) := by decide +kernel
theorem dMD_meet_42 : decode bMD_meet 42 = .ok (.aload_n 0, 1) := by decide +kernel
theorem dMD_meet_43 : decode bMD_meet 43 = .ok (.getfield 32, 3) := by decide +kernel
theorem dMD_meet_46 : decode bMD_meet 46 = .ok (.iload_n 2, 1) := by decide +kernel
theorem dMD_meet_47 : decode bMD_meet 47 = .ok (.iaload, 1) := by decide +kernel
theorem dMD_meet_48 : decode bMD_meet 48 = .ok (.aload_n 0, 1) := by decide +kernel
theorem dMD_meet_49 : decode bMD_meet 49 = .ok (.getfield 32, 3) := by decide +kernel
theorem dMD_meet_52 : decode bMD_meet 52 = .ok (.iload_n 1, 1) := by decide +kernel
theorem dMD_meet_53 : decode bMD_meet 53 = .ok (.iaload, 1) := by decide +kernel
theorem dMD_meet_54 : decode bMD_meet 54 = .ok (.aload_n 0, 1) := by decide +kernel
theorem dMD_meet_55 : decode bMD_meet 55 = .ok (.getfield 35, 3) := by decide +kernel
theorem dMD_meet_58 : decode bMD_meet 58 = .ok (.iload_n 1, 1) := by decide +kernel
theorem dMD_meet_59 : decode bMD_meet 59 = .ok (.iaload, 1) := by decide +kernel
theorem dMD_meet_60 : decode bMD_meet 60 = .ok (.iadd, 1) := by decide +kernel
theorem dMD_meet_61 : decode bMD_meet 61 = .ok (.if_icmp .ge 7, 3) := by decide +kernel
theorem dMD_meet_64 : decode bMD_meet 64 = .ok (.iconst 1, 1) := by decide +kernel
theorem dMD_meet_65 : decode bMD_meet 65 = .ok (.goto 4, 3) := by decide +kernel
theorem dMD_meet_68 : decode bMD_meet 68 = .ok (.iconst 0, 1) := by decide +kernel
theorem dMD_meet_69 : decode bMD_meet 69 = .ok (.ireturn, 1) := by decide +kernel
theorem dMD_isMapped_0 : decode bMD_isMapped 0 = .ok (.aload_n 0, 1) := by decide +kernel
theorem dMD_isMapped_1 : decode bMD_isMapped 1 = .ok (.getfield 29, 3) := by decide +kernel
theorem dMD_isMapped_4 : decode bMD_isMapped 4 = .ok (.iload_n 1, 1) := by decide +kernel
theorem dMD_isMapped_5 : decode bMD_isMapped 5 = .ok (.iaload, 1) := by decide +kernel
theorem dMD_isMapped_6 : decode bMD_isMapped 6 = .ok (.iconst 4, 1) := by decide +kernel
theorem dMD_isMapped_7 : decode bMD_isMapped 7 = .ok (.if_icmp .eq 18, 3) := by decide +kernel
theorem dMD_isMapped_10 : decode bMD_isMapped 10 = .ok (.aload_n 0, 1) := by decide +kernel
theorem dMD_isMapped_11 : decode bMD_isMapped 11 = .ok (.getfield 32, 3) := by decide +kernel
theorem dMD_isMapped_14 : decode bMD_isMapped 14 = .ok (.iload_n 1, 1) := by decide +kernel
theorem dMD_isMapped_15 : decode bMD_isMapped 15 = .ok (.iaload, 1) := by decide +kernel
theorem dMD_isMapped_16 : decode bMD_isMapped 16 = .ok (.bipush 48, 2) := by decide +kernel
theorem dMD_isMapped_18 : decode bMD_isMapped 18 = .ok (.if_icmp .ge 7, 3) := by decide +kernel
theorem dMD_isMapped_21 : decode bMD_isMapped 21 = .ok (.iconst 1, 1) := by decide +kernel
theorem dMD_isMapped_22 : decode bMD_isMapped 22 = .ok (.goto 4, 3) := by decide +kernel
theorem dMD_isMapped_25 : decode bMD_isMapped 25 = .ok (.iconst 0, 1) := by decide +kernel
theorem dMD_isMapped_26 : decode bMD_isMapped 26 = .ok (.ireturn, 1) := by decide +kernel
theorem dMD_creditsOf_0 : decode bMD_creditsOf 0 = .ok (.iconst 4, 1) := by decide +kernel
theorem dMD_creditsOf_1 : decode bMD_creditsOf 1 = .ok (.istore_n 2, 1) := by decide +kernel
theorem dMD_creditsOf_2 : decode bMD_creditsOf 2 = .ok (.iconst 0, 1) := by decide +kernel
theorem dMD_creditsOf_3 : decode bMD_creditsOf 3 = .ok (.istore_n 3, 1) := by decide +kernel
theorem dMD_creditsOf_4 : decode bMD_creditsOf 4 = .ok (.iload_n 3, 1) := by decide +kernel
theorem dMD_creditsOf_5 : decode bMD_creditsOf 5 = .ok (.bipush 16, 2) := by decide +kernel
theorem dMD_creditsOf_7 : decode bMD_creditsOf 7 = .ok (.if_icmp .ge 36, 3) := by decide +kernel
theorem dMD_creditsOf_10 : decode bMD_creditsOf 10 = .ok (.aload_n 0, 1) := by decide +kernel
theorem dMD_creditsOf_11 : decode bMD_creditsOf 11 = .ok (.getfield 26, 3) := by decide +kernel
theorem dMD_creditsOf_14 : decode bMD_creditsOf 14 = .ok (.iload_n 3, 1) := by decide +kernel
theorem dMD_creditsOf_15 : decode bMD_creditsOf 15 = .ok (.iaload, 1) := by decide +kernel
theorem dMD_creditsOf_16 : decode bMD_creditsOf 16 = .ok (.iconst 2, 1) := by decide +kernel
theorem dMD_creditsOf_17 : decode bMD_creditsOf 17 = .ok (.if_icmp .ne 18, 3) := by decide +kernel
theorem dMD_creditsOf_20 : decode bMD_creditsOf 20 = .ok (.aload_n 0, 1) := by decide +kernel
theorem dMD_creditsOf_21 : decode bMD_creditsOf 21 = .ok (.iload_n 3, 1) := by decide +kernel
theorem dMD_creditsOf_22 : decode bMD_creditsOf 22 = .ok (.invokevirtual 91, 3) := by decide +kernel
theorem dMD_creditsOf_25 : decode bMD_creditsOf 25 = .ok (.iload_n 1, 1) := by decide +kernel
theorem dMD_creditsOf_26 : decode bMD_creditsOf 26 = .ok (.if_icmp .ne 9, 3) := by decide +kernel
theorem dMD_creditsOf_29 : decode bMD_creditsOf 29 = .ok (.iload_n 2, 1) := by decide +kernel
theorem dMD_creditsOf_30 : decode bMD_creditsOf 30 = .ok (.iconst 1, 1) := by decide +kernel
theorem dMD_creditsOf_31 : decode bMD_creditsOf 31 = .ok (.isub, 1) := by decide +kernel
theorem dMD_creditsOf_32 : decode bMD_creditsOf 32 = .ok (.goto 4, 3) := by decide +kernel
theorem dMD_creditsOf_35 : decode bMD_creditsOf 35 = .ok (.iload_n 2, 1) := by decide +kernel
theorem dMD_creditsOf_36 : decode bMD_creditsOf 36 = .ok (.istore_n 2, 1) := by decide +kernel
theorem dMD_creditsOf_37 : decode bMD_creditsOf 37 = .ok (.iinc 3 1, 3) := by decide +kernel
theorem dMD_creditsOf_40 : decode bMD_creditsOf 40 = .ok (.goto (-36), 3) := by decide +kernel
theorem dMD_creditsOf_43 : decode bMD_creditsOf 43 = .ok (.iload_n 2, 1) := by decide +kernel
theorem dMD_creditsOf_44 : decode bMD_creditsOf 44 = .ok (.ireturn, 1) := by decide +kernel
theorem dMD_isBefore_0 : decode bMD_isBefore 0 = .ok (.aload_n 0, 1) := by decide +kernel
theorem dMD_isBefore_1 : decode bMD_isBefore 1 = .ok (.iload_n 1, 1) := by decide +kernel
theorem dMD_isBefore_2 : decode bMD_isBefore 2 = .ok (.invokevirtual 113, 3) := by decide +kernel
theorem dMD_isBefore_5 : decode bMD_isBefore 5 = .ok (.aload_n 0, 1) := by decide +kernel
theorem dMD_isBefore_6 : decode bMD_isBefore 6 = .ok (.iload_n 2, 1) := by decide +kernel
theorem dMD_isBefore_7 : decode bMD_isBefore 7 = .ok (.invokevirtual 113, 3) := by decide +kernel
theorem dMD_isBefore_10 : decode bMD_isBefore 10 = .ok (.if_icmp .eq 22, 3) := by decide +kernel
theorem dMD_isBefore_13 : decode bMD_isBefore 13 = .ok (.aload_n 0, 1) := by decide +kernel
theorem dMD_isBefore_14 : decode bMD_isBefore 14 = .ok (.iload_n 1, 1) := by decide +kernel
theorem dMD_isBefore_15 : decode bMD_isBefore 15 = .ok (.invokevirtual 113, 3) := by decide +kernel
theorem dMD_isBefore_18 : decode bMD_isBefore 18 = .ok (.aload_n 0, 1) := by decide +kernel
theorem dMD_isBefore_19 : decode bMD_isBefore 19 = .ok (.iload_n 2, 1) := by decide +kernel
theorem dMD_isBefore_20 : decode bMD_isBefore 20 = .ok (.invokevirtual 113, 3) := by decide +kernel
theorem dMD_isBefore_23 : decode bMD_isBefore 23 = .ok (.if_icmp .le 7, 3) := by decide +kernel
theorem dMD_isBefore_26 : decode bMD_isBefore 26 = .ok (.iconst 1, 1) := by decide +kernel
theorem dMD_isBefore_27 : decode bMD_isBefore 27 = .ok (.goto 4, 3) := by decide +kernel
theorem dMD_isBefore_30 : decode bMD_isBefore 30 = .ok (.iconst 0, 1) := by decide +kernel
theorem dMD_isBefore_31 : decode bMD_isBefore 31 = .ok (.ireturn, 1) := by decide +kernel
theorem dMD_isBefore_32 : decode bMD_isBefore 32 = .ok (.iload_n 1, 1) := by decide +kernel
theorem dMD_isBefore_33 : decode bMD_isBefore 33 = .ok (.iconst 4, 1) := by decide +kernel
theorem dMD_isBefore_34 : decode bMD_isBefore 34 = .ok (.idiv, 1) := by decide +kernel
theorem dMD_isBefore_35 : decode bMD_isBefore 35 = .ok (.iconst 3, 1) := by decide +kernel
theorem dMD_isBefore_36 : decode bMD_isBefore 36 = .ok (.iadd, 1) := by decide +kernel
theorem dMD_isBefore_37 : decode bMD_isBefore 37 = .ok (.aload_n 0, 1) := by decide +kernel
theorem dMD_isBefore_38 : decode bMD_isBefore 38 = .ok (.getfield 60, 3) := by decide +kernel
theorem dMD_isBefore_41 : decode bMD_isBefore 41 = .ok (.isub, 1) := by decide +kernel
theorem dMD_isBefore_42 : decode bMD_isBefore 42 = .ok (.iconst 4, 1) := by decide +kernel
theorem dMD_isBefore_43 : decode bMD_isBefore 43 = .ok (.irem, 1) := by decide +kernel
theorem dMD_isBefore_44 : decode bMD_isBefore 44 = .ok (.istore_n 3, 1) := by decide +kernel
theorem dMD_isBefore_45 : decode bMD_isBefore 45 = .ok (.iload_n 2, 1) := by decide +kernel
theorem dMD_isBefore_46 : decode bMD_isBefore 46 = .ok (.iconst 4, 1) := by decide +kernel
theorem dMD_isBefore_47 : decode bMD_isBefore 47 = .ok (.idiv, 1) := by decide +kernel
theorem dMD_isBefore_48 : decode bMD_isBefore 48 = .ok (.iconst 3, 1) := by decide +kernel
theorem dMD_isBefore_49 : decode bMD_isBefore 49 = .ok (.iadd, 1) := by decide +kernel
theorem dMD_isBefore_50 : decode bMD_isBefore 50 = .ok (.aload_n 0, 1) := by decide +kernel
theorem dMD_isBefore_51 : decode bMD_isBefore 51 = .ok (.getfield 60, 3) := by decide +kernel
theorem dMD_isBefore_54 : decode bMD_isBefore 54 = .ok (.isub, 1) := by decide +kernel
theorem dMD_isBefore_55 : decode bMD_isBefore 55 = .ok (.iconst 4, 1) := by decide +kernel
theorem dMD_isBefore_56 : decode bMD_isBefore 56 = .ok (.irem, 1) := by decide +kernel
theorem dMD_isBefore_57 : decode bMD_isBefore 57 = .ok (.istore 4, 2) := by decide +kernel
theorem dMD_isBefore_59 : decode bMD_isBefore 59 = .ok (.iload_n 3, 1) := by decide +kernel
theorem dMD_isBefore_60 : decode bMD_isBefore 60 = .ok (.iload 4, 2) := by decide +kernel
theorem dMD_isBefore_62 : decode bMD_isBefore 62 = .ok (.if_icmp .eq 17, 3) := by decide +kernel
theorem dMD_isBefore_65 : decode bMD_isBefore 65 = .ok (.iload_n 3, 1) := by decide +kernel
theorem dMD_isBefore_66 : decode bMD_isBefore 66 = .ok (.iload 4, 2) := by decide +kernel
theorem dMD_isBefore_68 : decode bMD_isBefore 68 = .ok (.if_icmp .ge 7, 3) := by decide +kernel
theorem dMD_isBefore_71 : decode bMD_isBefore 71 = .ok (.iconst 1, 1) := by decide +kernel
theorem dMD_isBefore_72 : decode bMD_isBefore 72 = .ok (.goto 27, 3) := by decide +kernel
theorem dMD_isBefore_75 : decode bMD_isBefore 75 = .ok (.iconst 0, 1) := by decide +kernel
theorem dMD_isBefore_76 : decode bMD_isBefore 76 = .ok (.goto 23, 3) := by decide +kernel
theorem dMD_isBefore_79 : decode bMD_isBefore 79 = .ok (.aload_n 0, 1) := by decide +kernel
theorem dMD_isBefore_80 : decode bMD_isBefore 80 = .ok (.getfield 41, 3) := by decide +kernel
theorem dMD_isBefore_83 : decode bMD_isBefore 83 = .ok (.iload_n 1, 1) := by decide +kernel
theorem dMD_isBefore_84 : decode bMD_isBefore 84 = .ok (.iaload, 1) := by decide +kernel
theorem dMD_isBefore_85 : decode bMD_isBefore 85 = .ok (.aload_n 0, 1) := by decide +kernel
theorem dMD_isBefore_86 : decode bMD_isBefore 86 = .ok (.getfield 41, 3) := by decide +kernel
theorem dMD_isBefore_89 : decode bMD_isBefore 89 = .ok (.iload_n 2, 1) := by decide +kernel
theorem dMD_isBefore_90 : decode bMD_isBefore 90 = .ok (.iaload, 1) := by decide +kernel
theorem dMD_isBefore_91 : decode bMD_isBefore 91 = .ok (.if_icmp .ge 7, 3) := by decide +kernel
theorem dMD_isBefore_94 : decode bMD_isBefore 94 = .ok (.iconst 1, 1) := by decide +kernel
theorem dMD_isBefore_95 : decode bMD_isBefore 95 = .ok (.goto 4, 3) := by decide +kernel
theorem dMD_isBefore_98 : decode bMD_isBefore 98 = .ok (.iconst 0, 1) := by decide +kernel
theorem dMD_isBefore_99 : decode bMD_isBefore 99 = .ok (.ireturn, 1) := by decide +kernel
theorem dMD_classOf_0 : decode bMD_classOf 0 = .ok (.aload_n 0, 1) := by decide +kernel
theorem dMD_classOf_1 : decode bMD_classOf 1 = .ok (.getfield 16, 3) := by decide +kernel
theorem dMD_classOf_4 : decode bMD_classOf 4 = .ok (.iload_n 1, 1) := by decide +kernel
theorem dMD_classOf_5 : decode bMD_classOf 5 = .ok (.iconst 4, 1) := by decide +kernel
theorem dMD_classOf_6 : decode bMD_classOf 6 = .ok (.idiv, 1) := by decide +kernel
theorem dMD_classOf_7 : decode bMD_classOf 7 = .ok (.iaload, 1) := by decide +kernel
theorem dMD_classOf_8 : decode bMD_classOf 8 = .ok (.aload_n 0, 1) := by decide +kernel
theorem dMD_classOf_9 : decode bMD_classOf 9 = .ok (.getfield 38, 3) := by decide +kernel
theorem dMD_classOf_12 : decode bMD_classOf 12 = .ok (.iload_n 1, 1) := by decide +kernel
theorem dMD_classOf_13 : decode bMD_classOf 13 = .ok (.iaload, 1) := by decide +kernel
theorem dMD_classOf_14 : decode bMD_classOf 14 = .ok (.bipush 16, 2) := by decide +kernel
theorem dMD_classOf_16 : decode bMD_classOf 16 = .ok (.idiv, 1) := by decide +kernel
theorem dMD_classOf_17 : decode bMD_classOf 17 = .ok (.iadd, 1) := by decide +kernel
theorem dMD_classOf_18 : decode bMD_classOf 18 = .ok (.istore_n 2, 1) := by decide +kernel
theorem dMD_classOf_19 : decode bMD_classOf 19 = .ok (.iload_n 2, 1) := by decide +kernel
theorem dMD_classOf_20 : decode bMD_classOf 20 = .ok (.iconst 2, 1) := by decide +kernel
theorem dMD_classOf_21 : decode bMD_classOf 21 = .ok (.if_icmp .le 7, 3) := by decide +kernel
theorem dMD_classOf_24 : decode bMD_classOf 24 = .ok (.iconst 2, 1) := by decide +kernel
theorem dMD_classOf_25 : decode bMD_classOf 25 = .ok (.goto 4, 3) := by decide +kernel
theorem dMD_classOf_28 : decode bMD_classOf 28 = .ok (.iload_n 2, 1) := by decide +kernel
theorem dMD_classOf_29 : decode bMD_classOf 29 = .ok (.ireturn, 1) := by decide +kernel
theorem dMD_cycles_0 : decode bMD_cycles 0 = .ok (.aload_n 0, 1) := by decide +kernel
theorem dMD_cycles_1 : decode bMD_cycles 1 = .ok (.iload_n 1, 1) := by decide +kernel
theorem dMD_cycles_2 : decode bMD_cycles 2 = .ok (.iconst 1, 1) := by decide +kernel
theorem dMD_cycles_3 : decode bMD_cycles 3 = .ok (.if_icmp .lt 9, 3) := by decide +kernel
theorem dMD_cycles_6 : decode bMD_cycles 6 = .ok (.iload_n 1, 1) := by decide +kernel
theorem dMD_cycles_7 : decode bMD_cycles 7 = .ok (.bipush 100, 2) := by decide +kernel
theorem dMD_cycles_9 : decode bMD_cycles 9 = .ok (.if_icmp .le 7, 3) := by decide +kernel
theorem dMD_cycles_12 : decode bMD_cycles 12 = .ok (.iconst 1, 1) := by decide +kernel
theorem dMD_cycles_13 : decode bMD_cycles 13 = .ok (.goto 4, 3) := by decide +kernel
theorem dMD_cycles_16 : decode bMD_cycles 16 = .ok (.iconst 0, 1) := by decide +kernel
theorem dMD_cycles_17 : decode bMD_cycles 17 = .ok (.invokevirtual 73, 3) := by decide +kernel
theorem dMD_cycles_20 : decode bMD_cycles 20 = .ok (.ifCond .eq 5, 3) := by decide +kernel
theorem dMD_cycles_23 : decode bMD_cycles 23 = .ok (.iconst 0, 1) := by decide +kernel
theorem dMD_cycles_24 : decode bMD_cycles 24 = .ok (.ireturn, 1) := by decide +kernel
theorem dMD_cycles_25 : decode bMD_cycles 25 = .ok (.iconst 0, 1) := by decide +kernel
theorem dMD_cycles_26 : decode bMD_cycles 26 = .ok (.istore_n 2, 1) := by decide +kernel
theorem dMD_cycles_27 : decode bMD_cycles 27 = .ok (.iconst 0, 1) := by decide +kernel
theorem dMD_cycles_28 : decode bMD_cycles 28 = .ok (.istore_n 3, 1) := by decide +kernel
theorem dMD_cycles_29 : decode bMD_cycles 29 = .ok (.iload_n 3, 1) := by decide +kernel
theorem dMD_cycles_30 : decode bMD_cycles 30 = .ok (.iload_n 1, 1) := by decide +kernel
theorem dMD_cycles_31 : decode bMD_cycles 31 = .ok (.if_icmp .ge 24, 3) := by decide +kernel
theorem dMD_cycles_34 : decode bMD_cycles 34 = .ok (.aload_n 0, 1) := by decide +kernel
theorem dMD_cycles_35 : decode bMD_cycles 35 = .ok (.invokevirtual 139, 3) := by decide +kernel
theorem dMD_cycles_38 : decode bMD_cycles 38 = .ok (.ifCond .lt 9, 3) := by decide +kernel
theorem dMD_cycles_41 : decode bMD_cycles 41 = .ok (.iload_n 2, 1) := by decide +kernel
theorem dMD_cycles_42 : decode bMD_cycles 42 = .ok (.iconst 1, 1) := by decide +kernel
theorem dMD_cycles_43 : decode bMD_cycles 43 = .ok (.iadd, 1) := by decide +kernel
theorem dMD_cycles_44 : decode bMD_cycles 44 = .ok (.goto 4, 3) := by decide +kernel
theorem dMD_cycles_47 : decode bMD_cycles 47 = .ok (.iload_n 2, 1) := by decide +kernel
theorem dMD_cycles_48 : decode bMD_cycles 48 = .ok (.istore_n 2, 1) := by decide +kernel
theorem dMD_cycles_49 : decode bMD_cycles 49 = .ok (.iinc 3 1, 3) := by decide +kernel
theorem dMD_cycles_52 : decode bMD_cycles 52 = .ok (.goto (-23), 3) := by decide +kernel
theorem dMD_cycles_55 : decode bMD_cycles 55 = .ok (.iload_n 2, 1) := by decide +kernel
theorem dMD_cycles_56 : decode bMD_cycles 56 = .ok (.ireturn, 1) := by decide +kernel
theorem dMD_time_0 : decode bMD_time 0 = .ok (.aload_n 0, 1) := by decide +kernel
theorem dMD_time_1 : decode bMD_time 1 = .ok (.iconst 0, 1) := by decide +kernel
theorem dMD_time_2 : decode bMD_time 2 = .ok (.putfield 66, 3) := by decide +kernel
theorem dMD_time_5 : decode bMD_time 5 = .ok (.aload_n 0, 1) := by decide +kernel
theorem dMD_time_6 : decode bMD_time 6 = .ok (.getfield 98, 3) := by decide +kernel
theorem dMD_time_9 : decode bMD_time 9 = .ok (.ireturn, 1) := by decide +kernel
theorem dMD_state_0 : decode bMD_state 0 = .ok (.aload_n 0, 1) := by decide +kernel
theorem dMD_state_1 : decode bMD_state 1 = .ok (.iload_n 1, 1) := by decide +kernel
theorem dMD_state_2 : decode bMD_state 2 = .ok (.iconst 4, 1) := by decide +kernel
theorem dMD_state_3 : decode bMD_state 3 = .ok (.invokestatic 69, 3) := by decide +kernel
theorem dMD_state_6 : decode bMD_state 6 = .ok (.ifCond .eq 15, 3) := by decide +kernel
theorem dMD_state_9 : decode bMD_state 9 = .ok (.iload_n 2, 1) := by decide +kernel
theorem dMD_state_10 : decode bMD_state 10 = .ok (.iconst 4, 1) := by decide +kernel
theorem dMD_state_11 : decode bMD_state 11 = .ok (.invokestatic 69, 3) := by decide +kernel
theorem dMD_state_14 : decode bMD_state 14 = .ok (.ifCond .eq 7, 3) := by decide +kernel
theorem dMD_state_17 : decode bMD_state 17 = .ok (.iconst 0, 1) := by decide +kernel
theorem dMD_state_18 : decode bMD_state 18 = .ok (.goto 4, 3) := by decide +kernel
theorem dMD_state_21 : decode bMD_state 21 = .ok (.iconst 1, 1) := by decide +kernel
theorem dMD_state_22 : decode bMD_state 22 = .ok (.invokevirtual 73, 3) := by decide +kernel
theorem dMD_state_25 : decode bMD_state 25 = .ok (.ifCond .eq 7, 3) := by decide +kernel
theorem dMD_state_28 : decode bMD_state 28 = .ok (.iconst 0, 1) := by decide +kernel
theorem dMD_state_29 : decode bMD_state 29 = .ok (.goto 13, 3) := by decide +kernel
theorem dMD_state_32 : decode bMD_state 32 = .ok (.aload_n 0, 1) := by decide +kernel
theorem dMD_state_33 : decode bMD_state 33 = .ok (.getfield 26, 3) := by decide +kernel
theorem dMD_state_36 : decode bMD_state 36 = .ok (.iconst 4, 1) := by decide +kernel
theorem dMD_state_37 : decode bMD_state 37 = .ok (.iload_n 1, 1) := by decide +kernel
theorem dMD_state_38 : decode bMD_state 38 = .ok (.imul, 1) := by decide +kernel
theorem dMD_state_39 : decode bMD_state 39 = .ok (.iload_n 2, 1) := by decide +kernel
theorem dMD_state_40 : decode bMD_state 40 = .ok (.iadd, 1) := by decide +kernel
theorem dMD_state_41 : decode bMD_state 41 = .ok (.iaload, 1) := by decide +kernel
theorem dMD_state_42 : decode bMD_state 42 = .ok (.ireturn, 1) := by decide +kernel
theorem dMD_word_0 : decode bMD_word 0 = .ok (.iload_n 1, 1) := by decide +kernel
theorem dMD_word_1 : decode bMD_word 1 = .ok (.iconst 4, 1) := by decide +kernel
theorem dMD_word_2 : decode bMD_word 2 = .ok (.invokestatic 69, 3) := by decide +kernel
theorem dMD_word_5 : decode bMD_word 5 = .ok (.ifCond .eq 23, 3) := by decide +kernel
theorem dMD_word_8 : decode bMD_word 8 = .ok (.iload_n 2, 1) := by decide +kernel
theorem dMD_word_9 : decode bMD_word 9 = .ok (.iconst 4, 1) := by decide +kernel
theorem dMD_word_10 : decode bMD_word 10 = .ok (.invokestatic 69, 3) := by decide +kernel
theorem dMD_word_13 : decode bMD_word 13 = .ok (.ifCond .eq 15, 3) := by decide +kernel
theorem dMD_word_16 : decode bMD_word 16 = .ok (.iload_n 3, 1) := by decide +kernel
theorem dMD_word_17 : decode bMD_word 17 = .ok (.iconst 4, 1) := by decide +kernel
theorem dMD_word_18 : decode bMD_word 18 = .ok (.invokestatic 69, 3) := by decide +kernel
theorem dMD_word_21 : decode bMD_word 21 = .ok (.ifCond .eq 7, 3) := by decide +kernel
theorem dMD_word_24 : decode bMD_word 24 = .ok (.iconst 1, 1) := by decide +kernel
theorem dMD_word_25 : decode bMD_word 25 = .ok (.goto 4, 3) := by decide +kernel
theorem dMD_word_28 : decode bMD_word 28 = .ok (.iconst 0, 1) := by decide +kernel
theorem dMD_word_29 : decode bMD_word 29 = .ok (.istore 4, 2) := by decide +kernel
theorem dMD_word_31 : decode bMD_word 31 = .ok (.iload 4, 2) := by decide +kernel
theorem dMD_word_33 : decode bMD_word 33 = .ok (.ifCond .eq 11, 3) := by decide +kernel
theorem dMD_word_36 : decode bMD_word 36 = .ok (.iconst 4, 1) := by decide +kernel
theorem dMD_word_37 : decode bMD_word 37 = .ok (.iload_n 1, 1) := by decide +kernel
theorem dMD_word_38 : decode bMD_word 38 = .ok (.imul, 1) := by decide +kernel
theorem dMD_word_39 : decode bMD_word 39 = .ok (.iload_n 2, 1) := by decide +kernel
theorem dMD_word_40 : decode bMD_word 40 = .ok (.iadd, 1) := by decide +kernel
theorem dMD_word_41 : decode bMD_word 41 = .ok (.goto 4, 3) := by decide +kernel
theorem dMD_word_44 : decode bMD_word 44 = .ok (.iconst 0, 1) := by decide +kernel
theorem dMD_word_45 : decode bMD_word 45 = .ok (.istore 5, 2) := by decide +kernel
theorem dMD_word_47 : decode bMD_word 47 = .ok (.aload_n 0, 1) := by decide +kernel
theorem dMD_word_48 : decode bMD_word 48 = .ok (.getfield 26, 3) := by decide +kernel
theorem dMD_word_51 : decode bMD_word 51 = .ok (.iload 5, 2) := by decide +kernel
theorem dMD_word_53 : decode bMD_word 53 = .ok (.iaload, 1) := by decide +kernel
theorem dMD_word_54 : decode bMD_word 54 = .ok (.iconst 3, 1) := by decide +kernel
theorem dMD_word_55 : decode bMD_word 55 = .ok (.if_icmp .ne 39, 3) := by decide +kernel
theorem dMD_word_58 : decode bMD_word 58 = .ok (.aload_n 0, 1) := by decide +kernel
theorem dMD_word_59 : decode bMD_word 59 = .ok (.getfield 29, 3) := by decide +kernel
theorem dMD_word_62 : decode bMD_word 62 = .ok (.iload 5, 2) := by decide +kernel
theorem dMD_word_64 : decode bMD_word 64 = .ok (.iaload, 1) := by decide +kernel
theorem dMD_word_65 : decode bMD_word 65 = .ok (.ifCond .eq 14, 3) := by decide +kernel
theorem dMD_word_68 : decode bMD_word 68 = .ok (.aload_n 0, 1) := by decide +kernel
theorem dMD_word_69 : decode bMD_word 69 = .ok (.getfield 29, 3) := by decide +kernel
theorem dMD_word_72 : decode bMD_word 72 = .ok (.iload 5, 2) := by decide +kernel
theorem dMD_word_74 : decode bMD_word 74 = .ok (.iaload, 1) := by decide +kernel
theorem dMD_word_75 : decode bMD_word 75 = .ok (.iconst 2, 1) := by decide +kernel
theorem dMD_word_76 : decode bMD_word 76 = .ok (.if_icmp .ne 18, 3) := by decide +kernel
theorem dMD_word_79 : decode bMD_word 79 = .ok (.iload_n 3, 1) := by decide +kernel
theorem dMD_word_80 : decode bMD_word 80 = .ok (.aload_n 0, 1) := by decide +kernel
theorem dMD_word_81 : decode bMD_word 81 = .ok (.getfield 35, 3) := by decide +kernel
theorem dMD_word_84 : decode bMD_word 84 = .ok (.iload 5, 2) := by decide +kernel
theorem dMD_word_86 : decode bMD_word 86 = .ok (.iaload, 1) := by decide +kernel
theorem dMD_word_87 : decode bMD_word 87 = .ok (.if_icmp .ge 7, 3) := by decide +kernel
theorem dMD_word_90 : decode bMD_word 90 = .ok (.iconst 1, 1) := by decide +kernel
theorem dMD_word_91 : decode bMD_word 91 = .ok (.goto 4, 3) := by decide +kernel
theorem dMD_word_94 : decode bMD_word 94 = .ok (.iconst 0, 1) := by decide +kernel
theorem dMD_word_95 : decode bMD_word 95 = .ok (.istore 6, 2) := by decide +kernel
theorem dMD_word_97 : decode bMD_word 97 = .ok (.aload_n 0, 1) := by decide +kernel
theorem dMD_word_98 : decode bMD_word 98 = .ok (.iload 4, 2) := by decide +kernel
theorem dMD_word_100 : decode bMD_word 100 = .ok (.ifCond .ne 7, 3) := by decide +kernel
theorem dMD_word_103 : decode bMD_word 103 = .ok (.iconst 1, 1) := by decide +kernel
theorem dMD_word_104 : decode bMD_word 104 = .ok (.goto 13, 3) := by decide +kernel
theorem dMD_word_107 : decode bMD_word 107 = .ok (.iload 6, 2) := by decide +kernel
theorem dMD_word_109 : decode bMD_word 109 = .ok (.ifCond .ne 7, 3) := by decide +kernel
theorem dMD_word_112 : decode bMD_word 112 = .ok (.iconst 2, 1) := by decide +kernel
theorem dMD_word_113 : decode bMD_word 113 = .ok (.goto 4, 3) := by decide +kernel
theorem dMD_word_116 : decode bMD_word 116 = .ok (.iconst 0, 1) := by decide +kernel
theorem dMD_word_117 : decode bMD_word 117 = .ok (.invokevirtual 73, 3) := by decide +kernel
theorem dMD_word_120 : decode bMD_word 120 = .ok (.ifCond .eq 7, 3) := by decide +kernel
theorem dMD_word_123 : decode bMD_word 123 = .ok (.iconst 0, 1) := by decide +kernel
theorem dMD_word_124 : decode bMD_word 124 = .ok (.goto 14, 3) := by decide +kernel
theorem dMD_word_127 : decode bMD_word 127 = .ok (.aload_n 0, 1) := by decide +kernel
theorem dMD_word_128 : decode bMD_word 128 = .ok (.getfield 50, 3) := by decide +kernel
theorem dMD_word_131 : decode bMD_word 131 = .ok (.iconst 4, 1) := by decide +kernel
theorem dMD_word_132 : decode bMD_word 132 = .ok (.iload 5, 2) := by decide +kernel
theorem dMD_word_134 : decode bMD_word 134 = .ok (.imul, 1) := by decide +kernel
theorem dMD_word_135 : decode bMD_word 135 = .ok (.iload_n 3, 1) := by decide +kernel
theorem dMD_word_136 : decode bMD_word 136 = .ok (.iadd, 1) := by decide +kernel
theorem dMD_word_137 : decode bMD_word 137 = .ok (.iaload, 1) := by decide +kernel
theorem dMD_word_138 : decode bMD_word 138 = .ok (.ireturn, 1) := by decide +kernel
theorem dMD_take_0 : decode bMD_take 0 = .ok (.iload_n 1, 1) := by decide +kernel
theorem dMD_take_1 : decode bMD_take 1 = .ok (.iconst 4, 1) := by decide +kernel
theorem dMD_take_2 : decode bMD_take 2 = .ok (.invokestatic 69, 3) := by decide +kernel
theorem dMD_take_5 : decode bMD_take 5 = .ok (.ifCond .eq 15, 3) := by decide +kernel
theorem dMD_take_8 : decode bMD_take 8 = .ok (.iload_n 2, 1) := by decide +kernel
theorem dMD_take_9 : decode bMD_take 9 = .ok (.iconst 4, 1) := by decide +kernel
theorem dMD_take_10 : decode bMD_take 10 = .ok (.invokestatic 69, 3) := by decide +kernel
theorem dMD_take_13 : decode bMD_take 13 = .ok (.ifCond .eq 7, 3) := by decide +kernel
theorem dMD_take_16 : decode bMD_take 16 = .ok (.iconst 1, 1) := by decide +kernel
theorem dMD_take_17 : decode bMD_take 17 = .ok (.goto 4, 3) := by decide +kernel
theorem dMD_take_20 : decode bMD_take 20 = .ok (.iconst 0, 1) := by decide +kernel
theorem dMD_take_21 : decode bMD_take 21 = .ok (.istore_n 3, 1) := by decide +kernel
theorem dMD_take_22 : decode bMD_take 22 = .ok (.iload_n 3, 1) := by decide +kernel
theorem dMD_take_23 : decode bMD_take 23 = .ok (.ifCond .eq 11, 3) := by decide +kernel
theorem dMD_take_26 : decode bMD_take 26 = .ok (.iconst 4, 1) := by decide +kernel
theorem dMD_take_27 : decode bMD_take 27 = .ok (.iload_n 1, 1) := by decide +kernel
theorem dMD_take_28 : decode bMD_take 28 = .ok (.imul, 1) := by decide +kernel
theorem dMD_take_29 : decode bMD_take 29 = .ok (.iload_n 2, 1) := by decide +kernel
theorem dMD_take_30 : decode bMD_take 30 = .ok (.iadd, 1) := by decide +kernel
theorem dMD_take_31 : decode bMD_take 31 = .ok (.goto 4, 3) := by decide +kernel
theorem dMD_take_34 : decode bMD_take 34 = .ok (.iconst 0, 1) := by decide +kernel
theorem dMD_take_35 : decode bMD_take 35 = .ok (.istore 4, 2) := by decide +kernel
theorem dMD_take_37 : decode bMD_take 37 = .ok (.aload_n 0, 1) := by decide +kernel
theorem dMD_take_38 : decode bMD_take 38 = .ok (.iload_n 3, 1) := by decide +kernel
theorem dMD_take_39 : decode bMD_take 39 = .ok (.ifCond .ne 7, 3) := by decide +kernel
theorem dMD_take_42 : decode bMD_take 42 = .ok (.iconst 1, 1) := by decide +kernel
theorem dMD_take_43 : decode bMD_take 43 = .ok (.goto 30, 3) := by decide +kernel
theorem dMD_take_46 : decode bMD_take 46 = .ok (.aload_n 0, 1) := by decide +kernel
theorem dMD_take_47 : decode bMD_take 47 = .ok (.getfield 26, 3) := by decide +kernel
theorem dMD_take_50 : decode bMD_take 50 = .ok (.iload 4, 2) := by decide +kernel
theorem dMD_take_52 : decode bMD_take 52 = .ok (.iaload, 1) := by decide +kernel
theorem dMD_take_53 : decode bMD_take 53 = .ok (.iconst 3, 1) := by decide +kernel
theorem dMD_take_54 : decode bMD_take 54 = .ok (.if_icmp .eq 18, 3) := by decide +kernel
theorem dMD_take_57 : decode bMD_take 57 = .ok (.aload_n 0, 1) := by decide +kernel
theorem dMD_take_58 : decode bMD_take 58 = .ok (.getfield 26, 3) := by decide +kernel
theorem dMD_take_61 : decode bMD_take 61 = .ok (.iload 4, 2) := by decide +kernel
theorem dMD_take_63 : decode bMD_take 63 = .ok (.iaload, 1) := by decide +kernel
theorem dMD_take_64 : decode bMD_take 64 = .ok (.iconst 4, 1) := by decide +kernel
theorem dMD_take_65 : decode bMD_take 65 = .ok (.if_icmp .eq 7, 3) := by decide +kernel
theorem dMD_take_68 : decode bMD_take 68 = .ok (.iconst 2, 1) := by decide +kernel
theorem dMD_take_69 : decode bMD_take 69 = .ok (.goto 4, 3) := by decide +kernel
theorem dMD_take_72 : decode bMD_take 72 = .ok (.iconst 0, 1) := by decide +kernel
theorem dMD_take_73 : decode bMD_take 73 = .ok (.invokevirtual 73, 3) := by decide +kernel
theorem dMD_take_76 : decode bMD_take 76 = .ok (.ifCond .eq 5, 3) := by decide +kernel
theorem dMD_take_79 : decode bMD_take 79 = .ok (.iconst 0, 1) := by decide +kernel
theorem dMD_take_80 : decode bMD_take 80 = .ok (.ireturn, 1) := by decide +kernel
theorem dMD_take_81 : decode bMD_take 81 = .ok (.aload_n 0, 1) := by decide +kernel
theorem dMD_take_82 : decode bMD_take 82 = .ok (.getfield 26, 3) := by decide +kernel
theorem dMD_take_85 : decode bMD_take 85 = .ok (.iload 4, 2) := by decide +kernel
theorem dMD_take_87 : decode bMD_take 87 = .ok (.iaload, 1) := by decide +kernel
theorem dMD_take_88 : decode bMD_take 88 = .ok (.iconst 3, 1) := by decide +kernel
theorem dMD_take_89 : decode bMD_take 89 = .ok (.if_icmp .ne 7, 3) := by decide +kernel
theorem dMD_take_92 : decode bMD_take 92 = .ok (.iconst 1, 1) := by decide +kernel
theorem dMD_take_93 : decode bMD_take 93 = .ok (.goto 4, 3) := by decide +kernel
theorem dMD_take_96 : decode bMD_take 96 = .ok (.iconst 0, 1) := by decide +kernel
theorem dMD_take_97 : decode bMD_take 97 = .ok (.istore 5, 2) := by decide +kernel
theorem dMD_take_99 : decode bMD_take 99 = .ok (.aload_n 0, 1) := by decide +kernel
theorem dMD_take_100 : decode bMD_take 100 = .ok (.getfield 26, 3) := by decide +kernel
theorem dMD_take_103 : decode bMD_take 103 = .ok (.iload 4, 2) := by decide +kernel
theorem dMD_take_105 : decode bMD_take 105 = .ok (.iconst 0, 1) := by decide +kernel
theorem dMD_take_106 : decode bMD_take 106 = .ok (.iastore, 1) := by decide +kernel
theorem dMD_take_107 : decode bMD_take 107 = .ok (.iload 5, 2) := by decide +kernel
theorem dMD_take_109 : decode bMD_take 109 = .ok (.ireturn, 1) := by decide +kernel
theorem dMD_base_0 : decode bMD_base 0 = .ok (.aload_n 0, 1) := by decide +kernel
theorem dMD_base_1 : decode bMD_base 1 = .ok (.iload_n 1, 1) := by decide +kernel
theorem dMD_base_2 : decode bMD_base 2 = .ok (.iconst 4, 1) := by decide +kernel
theorem dMD_base_3 : decode bMD_base 3 = .ok (.invokestatic 69, 3) := by decide +kernel
theorem dMD_base_6 : decode bMD_base 6 = .ok (.ifCond .ne 7, 3) := by decide +kernel
theorem dMD_base_9 : decode bMD_base 9 = .ok (.iconst 1, 1) := by decide +kernel
theorem dMD_base_10 : decode bMD_base 10 = .ok (.goto 16, 3) := by decide +kernel
theorem dMD_base_13 : decode bMD_base 13 = .ok (.iload_n 2, 1) := by decide +kernel
theorem dMD_base_14 : decode bMD_base 14 = .ok (.iconst 3, 1) := by decide +kernel
theorem dMD_base_15 : decode bMD_base 15 = .ok (.invokestatic 69, 3) := by decide +kernel
theorem dMD_base_18 : decode bMD_base 18 = .ok (.ifCond .ne 7, 3) := by decide +kernel
theorem dMD_base_21 : decode bMD_base 21 = .ok (.iconst 2, 1) := by decide +kernel
theorem dMD_base_22 : decode bMD_base 22 = .ok (.goto 4, 3) := by decide +kernel
theorem dMD_base_25 : decode bMD_base 25 = .ok (.iconst 0, 1) := by decide +kernel
theorem dMD_base_26 : decode bMD_base 26 = .ok (.invokevirtual 73, 3) := by decide +kernel
theorem dMD_base_29 : decode bMD_base 29 = .ok (.ifCond .ne 10, 3) := by decide +kernel
theorem dMD_base_32 : decode bMD_base 32 = .ok (.aload_n 0, 1) := by decide +kernel
theorem dMD_base_33 : decode bMD_base 33 = .ok (.getfield 16, 3) := by decide +kernel
theorem dMD_base_36 : decode bMD_base 36 = .ok (.iload_n 1, 1) := by decide +kernel
theorem dMD_base_37 : decode bMD_base 37 = .ok (.iload_n 2, 1) := by decide +kernel
theorem dMD_base_38 : decode bMD_base 38 = .ok (.iastore, 1) := by decide +kernel
theorem dMD_base_39 : decode bMD_base 39 = .ok (.return_, 1) := by decide +kernel
theorem dMD_waits_0 : decode bMD_waits 0 = .ok (.aload_n 0, 1) := by decide +kernel
theorem dMD_waits_1 : decode bMD_waits 1 = .ok (.iload_n 1, 1) := by decide +kernel
theorem dMD_waits_2 : decode bMD_waits 2 = .ok (.iconst 4, 1) := by decide +kernel
theorem dMD_waits_3 : decode bMD_waits 3 = .ok (.invokestatic 69, 3) := by decide +kernel
theorem dMD_waits_6 : decode bMD_waits 6 = .ok (.ifCond .eq 7, 3) := by decide +kernel
theorem dMD_waits_9 : decode bMD_waits 9 = .ok (.iconst 0, 1) := by decide +kernel
theorem dMD_waits_10 : decode bMD_waits 10 = .ok (.goto 4, 3) := by decide +kernel
theorem dMD_waits_13 : decode bMD_waits 13 = .ok (.iconst 1, 1) := by decide +kernel
theorem dMD_waits_14 : decode bMD_waits 14 = .ok (.invokevirtual 73, 3) := by decide +kernel
theorem dMD_waits_17 : decode bMD_waits 17 = .ok (.ifCond .eq 5, 3) := by decide +kernel
theorem dMD_waits_20 : decode bMD_waits 20 = .ok (.iconst 0, 1) := by decide +kernel
theorem dMD_waits_21 : decode bMD_waits 21 = .ok (.ireturn, 1) := by decide +kernel
theorem dMD_waits_22 : decode bMD_waits 22 = .ok (.iconst (-1), 1) := by decide +kernel
theorem dMD_waits_23 : decode bMD_waits 23 = .ok (.istore_n 2, 1) := by decide +kernel
theorem dMD_waits_24 : decode bMD_waits 24 = .ok (.iconst 0, 1) := by decide +kernel
theorem dMD_waits_25 : decode bMD_waits 25 = .ok (.istore_n 3, 1) := by decide +kernel
theorem dMD_waits_26 : decode bMD_waits 26 = .ok (.iload_n 3, 1) := by decide +kernel
theorem dMD_waits_27 : decode bMD_waits 27 = .ok (.iconst 4, 1) := by decide +kernel
theorem dMD_waits_28 : decode bMD_waits 28 = .ok (.if_icmp .ge 54, 3) := by decide +kernel
theorem dMD_waits_31 : decode bMD_waits 31 = .ok (.iconst 4, 1) := by decide +kernel
theorem dMD_waits_32 : decode bMD_waits 32 = .ok (.iload_n 1, 1) := by decide +kernel
theorem dMD_waits_33 : decode bMD_waits 33 = .ok (.imul, 1) := by decide +kernel
theorem dMD_waits_34 : decode bMD_waits 34 = .ok (.iload_n 3, 1) := by decide +kernel
theorem dMD_waits_35 : decode bMD_waits 35 = .ok (.iadd, 1) := by decide +kernel
theorem dMD_waits_36 : decode bMD_waits 36 = .ok (.istore 4, 2) := by decide +kernel
theorem dMD_waits_38 : decode bMD_waits 38 = .ok (.aload_n 0, 1) := by decide +kernel
theorem dMD_waits_39 : decode bMD_waits 39 = .ok (.getfield 26, 3) := by decide +kernel
theorem dMD_waits_42 : decode bMD_waits 42 = .ok (.iload 4, 2) := by decide +kernel
theorem dMD_waits_44 : decode bMD_waits 44 = .ok (.iaload, 1) := by decide +kernel
theorem dMD_waits_45 : decode bMD_waits 45 = .ok (.iconst 1, 1) := by decide +kernel
theorem dMD_waits_46 : decode bMD_waits 46 = .ok (.if_icmp .ne 28, 3) := by decide +kernel
theorem dMD_waits_49 : decode bMD_waits 49 = .ok (.iload_n 2, 1) := by decide +kernel
theorem dMD_waits_50 : decode bMD_waits 50 = .ok (.ifCond .lt 19, 3) := by decide +kernel
theorem dMD_waits_53 : decode bMD_waits 53 = .ok (.aload_n 0, 1) := by decide +kernel
theorem dMD_waits_54 : decode bMD_waits 54 = .ok (.getfield 41, 3) := by decide +kernel
theorem dMD_waits_57 : decode bMD_waits 57 = .ok (.iload 4, 2) := by decide +kernel
theorem dMD_waits_59 : decode bMD_waits 59 = .ok (.iaload, 1) := by decide +kernel
theorem dMD_waits_60 : decode bMD_waits 60 = .ok (.aload_n 0, 1) := by decide +kernel
theorem dMD_waits_61 : decode bMD_waits 61 = .ok (.getfield 41, 3) := by decide +kernel
theorem dMD_waits_64 : decode bMD_waits 64 = .ok (.iload_n 2, 1) := by decide +kernel
theorem dMD_waits_65 : decode bMD_waits 65 = .ok (.iaload, 1) := by decide +kernel
theorem dMD_waits_66 : decode bMD_waits 66 = .ok (.if_icmp .ge 8, 3) := by decide +kernel
theorem dMD_waits_69 : decode bMD_waits 69 = .ok (.iload 4, 2) := by decide +kernel
theorem dMD_waits_71 : decode bMD_waits 71 = .ok (.goto 4, 3) := by decide +kernel
theorem dMD_waits_74 : decode bMD_waits 74 = .ok (.iload_n 2, 1) := by decide +kernel
theorem dMD_waits_75 : decode bMD_waits 75 = .ok (.istore_n 2, 1) := by decide +kernel
theorem dMD_waits_76 : decode bMD_waits 76 = .ok (.iinc 3 1, 3) := by decide +kernel
theorem dMD_waits_79 : decode bMD_waits 79 = .ok (.goto (-53), 3) := by decide +kernel
theorem dMD_waits_82 : decode bMD_waits 82 = .ok (.iload_n 2, 1) := by decide +kernel
theorem dMD_waits_83 : decode bMD_waits 83 = .ok (.ifCond .ge 7, 3) := by decide +kernel
theorem dMD_waits_86 : decode bMD_waits 86 = .ok (.iconst (-1), 1) := by decide +kernel
theorem dMD_waits_87 : decode bMD_waits 87 = .ok (.goto 9, 3) := by decide +kernel
theorem dMD_waits_90 : decode bMD_waits 90 = .ok (.aload_n 0, 1) := by decide +kernel
theorem dMD_waits_91 : decode bMD_waits 91 = .ok (.getfield 38, 3) := by decide +kernel
theorem dMD_waits_94 : decode bMD_waits 94 = .ok (.iload_n 2, 1) := by decide +kernel
theorem dMD_waits_95 : decode bMD_waits 95 = .ok (.iaload, 1) := by decide +kernel
theorem dMD_waits_96 : decode bMD_waits 96 = .ok (.ireturn, 1) := by decide +kernel
theorem dMD_reset_0 : decode bMD_reset 0 = .ok (.aload_n 0, 1) := by decide +kernel
theorem dMD_reset_1 : decode bMD_reset 1 = .ok (.iload_n 1, 1) := by decide +kernel
theorem dMD_reset_2 : decode bMD_reset 2 = .ok (.iconst 4, 1) := by decide +kernel
theorem dMD_reset_3 : decode bMD_reset 3 = .ok (.invokestatic 69, 3) := by decide +kernel
theorem dMD_reset_6 : decode bMD_reset 6 = .ok (.ifCond .eq 7, 3) := by decide +kernel
theorem dMD_reset_9 : decode bMD_reset 9 = .ok (.iconst 0, 1) := by decide +kernel
theorem dMD_reset_10 : decode bMD_reset 10 = .ok (.goto 4, 3) := by decide +kernel
theorem dMD_reset_13 : decode bMD_reset 13 = .ok (.iconst 1, 1) := by decide +kernel
theorem dMD_reset_14 : decode bMD_reset 14 = .ok (.invokevirtual 73, 3) := by decide +kernel
theorem dMD_reset_17 : decode bMD_reset 17 = .ok (.ifCond .eq 5, 3) := by decide +kernel
theorem dMD_reset_20 : decode bMD_reset 20 = .ok (.iconst 0, 1) := by decide +kernel
theorem dMD_reset_21 : decode bMD_reset 21 = .ok (.ireturn, 1) := by decide +kernel
theorem dMD_reset_22 : decode bMD_reset 22 = .ok (.iconst 0, 1) := by decide +kernel
theorem dMD_reset_23 : decode bMD_reset 23 = .ok (.istore_n 2, 1) := by decide +kernel
theorem dMD_reset_24 : decode bMD_reset 24 = .ok (.iconst 0, 1) := by decide +kernel
theorem dMD_reset_25 : decode bMD_reset 25 = .ok (.istore_n 3, 1) := by decide +kernel
theorem dMD_reset_26 : decode bMD_reset 26 = .ok (.iload_n 3, 1) := by decide +kernel
theorem dMD_reset_27 : decode bMD_reset 27 = .ok (.iconst 4, 1) := by decide +kernel
theorem dMD_reset_28 : decode bMD_reset 28 = .ok (.if_icmp .ge 38, 3) := by decide +kernel
theorem dMD_reset_31 : decode bMD_reset 31 = .ok (.iconst 4, 1) := by decide +kernel
theorem dMD_reset_32 : decode bMD_reset 32 = .ok (.iload_n 1, 1) := by decide +kernel
theorem dMD_reset_33 : decode bMD_reset 33 = .ok (.imul, 1) := by decide +kernel
theorem dMD_reset_34 : decode bMD_reset 34 = .ok (.iload_n 3, 1) := by decide +kernel
theorem dMD_reset_35 : decode bMD_reset 35 = .ok (.iadd, 1) := by decide +kernel
theorem dMD_reset_36 : decode bMD_reset 36 = .ok (.istore 4, 2) := by decide +kernel
theorem dMD_reset_38 : decode bMD_reset 38 = .ok (.aload_n 0, 1) := by decide +kernel
theorem dMD_reset_39 : decode bMD_reset 39 = .ok (.getfield 26, 3) := by decide +kernel
theorem dMD_reset_42 : decode bMD_reset 42 = .ok (.iload 4, 2) := by decide +kernel
theorem dMD_reset_44 : decode bMD_reset 44 = .ok (.iaload, 1) := by decide +kernel
theorem dMD_reset_45 : decode bMD_reset 45 = .ok (.iconst 1, 1) := by decide +kernel
theorem dMD_reset_46 : decode bMD_reset 46 = .ok (.if_icmp .ne 14, 3) := by decide +kernel
theorem dMD_reset_49 : decode bMD_reset 49 = .ok (.aload_n 0, 1) := by decide +kernel
theorem dMD_reset_50 : decode bMD_reset 50 = .ok (.getfield 26, 3) := by decide +kernel
theorem dMD_reset_53 : decode bMD_reset 53 = .ok (.iload 4, 2) := by decide +kernel
theorem dMD_reset_55 : decode bMD_reset 55 = .ok (.iconst 0, 1) := by decide +kernel
theorem dMD_reset_56 : decode bMD_reset 56 = .ok (.iastore, 1) := by decide +kernel
theorem dMD_reset_57 : decode bMD_reset 57 = .ok (.iinc 2 1, 3) := by decide +kernel
theorem dMD_reset_60 : decode bMD_reset 60 = .ok (.iinc 3 1, 3) := by decide +kernel
theorem dMD_reset_63 : decode bMD_reset 63 = .ok (.goto (-37), 3) := by decide +kernel
theorem dMD_reset_66 : decode bMD_reset 66 = .ok (.iconst 0, 1) := by decide +kernel
theorem dMD_reset_67 : decode bMD_reset 67 = .ok (.istore_n 3, 1) := by decide +kernel
theorem dMD_reset_68 : decode bMD_reset 68 = .ok (.iload_n 3, 1) := by decide +kernel
theorem dMD_reset_69 : decode bMD_reset 69 = .ok (.iconst 3, 1) := by decide +kernel
theorem dMD_reset_70 : decode bMD_reset 70 = .ok (.if_icmp .ge 35, 3) := by decide +kernel
theorem dMD_reset_73 : decode bMD_reset 73 = .ok (.aload_n 0, 1) := by decide +kernel
theorem dMD_reset_74 : decode bMD_reset 74 = .ok (.getfield 23, 3) := by decide +kernel
theorem dMD_reset_77 : decode bMD_reset 77 = .ok (.iload_n 3, 1) := by decide +kernel
theorem dMD_reset_78 : decode bMD_reset 78 = .ok (.aload_n 0, 1) := by decide +kernel
theorem dMD_reset_79 : decode bMD_reset 79 = .ok (.getfield 23, 3) := by decide +kernel
theorem dMD_reset_82 : decode bMD_reset 82 = .ok (.iload_n 3, 1) := by decide +kernel
theorem dMD_reset_83 : decode bMD_reset 83 = .ok (.iaload, 1) := by decide +kernel
theorem dMD_reset_84 : decode bMD_reset 84 = .ok (.iload_n 1, 1) := by decide +kernel
theorem dMD_reset_85 : decode bMD_reset 85 = .ok (.if_icmp .ne 7, 3) := by decide +kernel
theorem dMD_reset_88 : decode bMD_reset 88 = .ok (.iconst (-1), 1) := by decide +kernel
theorem dMD_reset_89 : decode bMD_reset 89 = .ok (.goto 9, 3) := by decide +kernel
theorem dMD_reset_92 : decode bMD_reset 92 = .ok (.aload_n 0, 1) := by decide +kernel
theorem dMD_reset_93 : decode bMD_reset 93 = .ok (.getfield 23, 3) := by decide +kernel
theorem dMD_reset_96 : decode bMD_reset 96 = .ok (.iload_n 3, 1) := by decide +kernel
theorem dMD_reset_97 : decode bMD_reset 97 = .ok (.iaload, 1) := by decide +kernel
theorem dMD_reset_98 : decode bMD_reset 98 = .ok (.iastore, 1) := by decide +kernel
theorem dMD_reset_99 : decode bMD_reset 99 = .ok (.iinc 3 1, 3) := by decide +kernel
theorem dMD_reset_102 : decode bMD_reset 102 = .ok (.goto (-34), 3) := by decide +kernel
theorem dMD_reset_105 : decode bMD_reset 105 = .ok (.iload_n 2, 1) := by decide +kernel
theorem dMD_reset_106 : decode bMD_reset 106 = .ok (.ireturn, 1) := by decide +kernel
theorem dMD_credits_0 : decode bMD_credits 0 = .ok (.aload_n 0, 1) := by decide +kernel
theorem dMD_credits_1 : decode bMD_credits 1 = .ok (.iload_n 1, 1) := by decide +kernel
theorem dMD_credits_2 : decode bMD_credits 2 = .ok (.iconst 3, 1) := by decide +kernel
theorem dMD_credits_3 : decode bMD_credits 3 = .ok (.invokestatic 69, 3) := by decide +kernel
theorem dMD_credits_6 : decode bMD_credits 6 = .ok (.ifCond .eq 7, 3) := by decide +kernel
theorem dMD_credits_9 : decode bMD_credits 9 = .ok (.iconst 0, 1) := by decide +kernel
theorem dMD_credits_10 : decode bMD_credits 10 = .ok (.goto 4, 3) := by decide +kernel
theorem dMD_credits_13 : decode bMD_credits 13 = .ok (.iconst 1, 1) := by decide +kernel
theorem dMD_credits_14 : decode bMD_credits 14 = .ok (.invokevirtual 73, 3) := by decide +kernel
theorem dMD_credits_17 : decode bMD_credits 17 = .ok (.ifCond .eq 7, 3) := by decide +kernel
theorem dMD_credits_20 : decode bMD_credits 20 = .ok (.iconst 0, 1) := by decide +kernel
theorem dMD_credits_21 : decode bMD_credits 21 = .ok (.goto 8, 3) := by decide +kernel
theorem dMD_credits_24 : decode bMD_credits 24 = .ok (.aload_n 0, 1) := by decide +kernel
theorem dMD_credits_25 : decode bMD_credits 25 = .ok (.iload_n 1, 1) := by decide +kernel
theorem dMD_credits_26 : decode bMD_credits 26 = .ok (.invokevirtual 110, 3) := by decide +kernel
theorem dMD_credits_29 : decode bMD_credits 29 = .ok (.ireturn, 1) := by decide +kernel
theorem dMD_holder_0 : decode bMD_holder 0 = .ok (.aload_n 0, 1) := by decide +kernel
theorem dMD_holder_1 : decode bMD_holder 1 = .ok (.iload_n 1, 1) := by decide +kernel
theorem dMD_holder_2 : decode bMD_holder 2 = .ok (.iconst 3, 1) := by decide +kernel
theorem dMD_holder_3 : decode bMD_holder 3 = .ok (.invokestatic 69, 3) := by decide +kernel
theorem dMD_holder_6 : decode bMD_holder 6 = .ok (.ifCond .eq 7, 3) := by decide +kernel
theorem dMD_holder_9 : decode bMD_holder 9 = .ok (.iconst 0, 1) := by decide +kernel
theorem dMD_holder_10 : decode bMD_holder 10 = .ok (.goto 4, 3) := by decide +kernel
theorem dMD_holder_13 : decode bMD_holder 13 = .ok (.iconst 1, 1) := by decide +kernel
theorem dMD_holder_14 : decode bMD_holder 14 = .ok (.invokevirtual 73, 3) := by decide +kernel
theorem dMD_holder_17 : decode bMD_holder 17 = .ok (.ifCond .eq 7, 3) := by decide +kernel
theorem dMD_holder_20 : decode bMD_holder 20 = .ok (.iconst 0, 1) := by decide +kernel
theorem dMD_holder_21 : decode bMD_holder 21 = .ok (.goto 9, 3) := by decide +kernel
theorem dMD_holder_24 : decode bMD_holder 24 = .ok (.aload_n 0, 1) := by decide +kernel
theorem dMD_holder_25 : decode bMD_holder 25 = .ok (.getfield 23, 3) := by decide +kernel
theorem dMD_holder_28 : decode bMD_holder 28 = .ok (.iload_n 1, 1) := by decide +kernel
theorem dMD_holder_29 : decode bMD_holder 29 = .ok (.iaload, 1) := by decide +kernel
theorem dMD_holder_30 : decode bMD_holder 30 = .ok (.ireturn, 1) := by decide +kernel
theorem dMD_memory_0 : decode bMD_memory 0 = .ok (.aload_n 0, 1) := by decide +kernel
theorem dMD_memory_1 : decode bMD_memory 1 = .ok (.iload_n 1, 1) := by decide +kernel
theorem dMD_memory_2 : decode bMD_memory 2 = .ok (.bipush 48, 2) := by decide +kernel
theorem dMD_memory_4 : decode bMD_memory 4 = .ok (.invokestatic 69, 3) := by decide +kernel
theorem dMD_memory_7 : decode bMD_memory 7 = .ok (.ifCond .eq 7, 3) := by decide +kernel
theorem dMD_memory_10 : decode bMD_memory 10 = .ok (.iconst 0, 1) := by decide +kernel
theorem dMD_memory_11 : decode bMD_memory 11 = .ok (.goto 4, 3) := by decide +kernel
theorem dMD_memory_14 : decode bMD_memory 14 = .ok (.iconst 1, 1) := by decide +kernel
theorem dMD_memory_15 : decode bMD_memory 15 = .ok (.invokevirtual 73, 3) := by decide +kernel
theorem dMD_memory_18 : decode bMD_memory 18 = .ok (.ifCond .eq 7, 3) := by decide +kernel
theorem dMD_memory_21 : decode bMD_memory 21 = .ok (.iconst 0, 1) := by decide +kernel
theorem dMD_memory_22 : decode bMD_memory 22 = .ok (.goto 9, 3) := by decide +kernel
theorem dMD_memory_25 : decode bMD_memory 25 = .ok (.aload_n 0, 1) := by decide +kernel
theorem dMD_memory_26 : decode bMD_memory 26 = .ok (.getfield 7, 3) := by decide +kernel
theorem dMD_memory_29 : decode bMD_memory 29 = .ok (.iload_n 1, 1) := by decide +kernel
theorem dMD_memory_30 : decode bMD_memory 30 = .ok (.iaload, 1) := by decide +kernel
theorem dMD_memory_31 : decode bMD_memory 31 = .ok (.ireturn, 1) := by decide +kernel
theorem dMD_served_0 : decode bMD_served 0 = .ok (.aload_n 0, 1) := by decide +kernel
theorem dMD_served_1 : decode bMD_served 1 = .ok (.iconst 0, 1) := by decide +kernel
theorem dMD_served_2 : decode bMD_served 2 = .ok (.putfield 66, 3) := by decide +kernel
theorem dMD_served_5 : decode bMD_served 5 = .ok (.aload_n 0, 1) := by decide +kernel
theorem dMD_served_6 : decode bMD_served 6 = .ok (.getfield 95, 3) := by decide +kernel
theorem dMD_served_9 : decode bMD_served 9 = .ok (.ireturn, 1) := by decide +kernel
theorem dMD_service_0 : decode bMD_service 0 = .ok (.aload_n 0, 1) := by decide +kernel
theorem dMD_service_1 : decode bMD_service 1 = .ok (.iload_n 1, 1) := by decide +kernel
theorem dMD_service_2 : decode bMD_service 2 = .ok (.aload_n 0, 1) := by decide +kernel
theorem dMD_service_3 : decode bMD_service 3 = .ok (.getfield 95, 3) := by decide +kernel
theorem dMD_service_6 : decode bMD_service 6 = .ok (.invokestatic 69, 3) := by decide +kernel
theorem dMD_service_9 : decode bMD_service 9 = .ok (.ifCond .ne 7, 3) := by decide +kernel
theorem dMD_service_12 : decode bMD_service 12 = .ok (.iconst 1, 1) := by decide +kernel
theorem dMD_service_13 : decode bMD_service 13 = .ok (.goto 17, 3) := by decide +kernel
theorem dMD_service_16 : decode bMD_service 16 = .ok (.iload_n 2, 1) := by decide +kernel
theorem dMD_service_17 : decode bMD_service 17 = .ok (.bipush 6, 2) := by decide +kernel
theorem dMD_service_19 : decode bMD_service 19 = .ok (.invokestatic 69, 3) := by decide +kernel
theorem dMD_service_22 : decode bMD_service 22 = .ok (.ifCond .ne 7, 3) := by decide +kernel
theorem dMD_service_25 : decode bMD_service 25 = .ok (.iconst 2, 1) := by decide +kernel
theorem dMD_service_26 : decode bMD_service 26 = .ok (.goto 4, 3) := by decide +kernel
theorem dMD_service_29 : decode bMD_service 29 = .ok (.iconst 0, 1) := by decide +kernel
theorem dMD_service_30 : decode bMD_service 30 = .ok (.invokevirtual 73, 3) := by decide +kernel
theorem dMD_service_33 : decode bMD_service 33 = .ok (.ifCond .eq 7, 3) := by decide +kernel
theorem dMD_service_36 : decode bMD_service 36 = .ok (.iconst 0, 1) := by decide +kernel
theorem dMD_service_37 : decode bMD_service 37 = .ok (.goto 14, 3) := by decide +kernel
theorem dMD_service_40 : decode bMD_service 40 = .ok (.aload_n 0, 1) := by decide +kernel
theorem dMD_service_41 : decode bMD_service 41 = .ok (.getfield 63, 3) := by decide +kernel
theorem dMD_service_44 : decode bMD_service 44 = .ok (.bipush 6, 2) := by decide +kernel
theorem dMD_service_46 : decode bMD_service 46 = .ok (.iload_n 1, 1) := by decide +kernel
theorem dMD_service_47 : decode bMD_service 47 = .ok (.imul, 1) := by decide +kernel
theorem dMD_service_48 : decode bMD_service 48 = .ok (.iload_n 2, 1) := by decide +kernel
theorem dMD_service_49 : decode bMD_service 49 = .ok (.iadd, 1) := by decide +kernel
theorem dMD_service_50 : decode bMD_service 50 = .ok (.iaload, 1) := by decide +kernel
theorem dMD_service_51 : decode bMD_service 51 = .ok (.ireturn, 1) := by decide +kernel
