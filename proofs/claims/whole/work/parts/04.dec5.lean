theorem d_Mo_clear_5 : decode b_Mo_clear 5 = .ok (.aload_n 0, 1) := by decide +kernel
theorem d_Mo_clear_6 : decode b_Mo_clear 6 = .ok (.iconst 0, 1) := by decide +kernel
theorem d_Mo_clear_7 : decode b_Mo_clear 7 = .ok (.putfield 88, 3) := by decide +kernel
theorem d_Mo_clear_10 : decode b_Mo_clear 10 = .ok (.aload_n 0, 1) := by decide +kernel
theorem d_Mo_clear_11 : decode b_Mo_clear 11 = .ok (.iconst 0, 1) := by decide +kernel
theorem d_Mo_clear_12 : decode b_Mo_clear 12 = .ok (.putfield 138, 3) := by decide +kernel
theorem d_Mo_clear_15 : decode b_Mo_clear 15 = .ok (.aload_n 0, 1) := by decide +kernel
theorem d_Mo_clear_16 : decode b_Mo_clear 16 = .ok (.iconst 0, 1) := by decide +kernel
theorem d_Mo_clear_17 : decode b_Mo_clear 17 = .ok (.putfield 155, 3) := by decide +kernel
theorem d_Mo_clear_20 : decode b_Mo_clear 20 = .ok (.iconst 0, 1) := by decide +kernel
theorem d_Mo_clear_21 : decode b_Mo_clear 21 = .ok (.istore_n 1, 1) := by decide +kernel
theorem d_Mo_clear_22 : decode b_Mo_clear 22 = .ok (.iload_n 1, 1) := by decide +kernel
theorem d_Mo_clear_23 : decode b_Mo_clear 23 = .ok (.sipush 512, 3) := by decide +kernel
theorem d_Mo_clear_26 : decode b_Mo_clear 26 = .ok (.if_icmp .ge 16, 3) := by decide +kernel
theorem d_Mo_clear_29 : decode b_Mo_clear 29 = .ok (.aload_n 0, 1) := by decide +kernel
theorem d_Mo_clear_30 : decode b_Mo_clear 30 = .ok (.getfield 32, 3) := by decide +kernel
theorem d_Mo_clear_33 : decode b_Mo_clear 33 = .ok (.iload_n 1, 1) := by decide +kernel
theorem d_Mo_clear_34 : decode b_Mo_clear 34 = .ok (.iconst 0, 1) := by decide +kernel
theorem d_Mo_clear_35 : decode b_Mo_clear 35 = .ok (.iastore, 1) := by decide +kernel
theorem d_Mo_clear_36 : decode b_Mo_clear 36 = .ok (.iinc 1 1, 3) := by decide +kernel
theorem d_Mo_clear_39 : decode b_Mo_clear 39 = .ok (.goto (-17), 3) := by decide +kernel
theorem d_Mo_clear_42 : decode b_Mo_clear 42 = .ok (.aload_n 0, 1) := by decide +kernel
theorem d_Mo_clear_43 : decode b_Mo_clear 43 = .ok (.invokevirtual 145, 3) := by decide +kernel
theorem d_Mo_clear_46 : decode b_Mo_clear 46 = .ok (.return_, 1) := by decide +kernel
theorem d_Mo_prove_0 : decode b_Mo_prove 0 = .ok (.aload_n 0, 1) := by decide +kernel
theorem d_Mo_prove_1 : decode b_Mo_prove 1 = .ok (.iconst 0, 1) := by decide +kernel
theorem d_Mo_prove_2 : decode b_Mo_prove 2 = .ok (.putfield 85, 3) := by decide +kernel
theorem d_Mo_prove_5 : decode b_Mo_prove 5 = .ok (.iload_n 1, 1) := by decide +kernel
theorem d_Mo_prove_6 : decode b_Mo_prove 6 = .ok (.iconst 1, 1) := by decide +kernel
theorem d_Mo_prove_7 : decode b_Mo_prove 7 = .ok (.if_icmp .lt 9, 3) := by decide +kernel
theorem d_Mo_prove_10 : decode b_Mo_prove 10 = .ok (.iload_n 1, 1) := by decide +kernel
theorem d_Mo_prove_11 : decode b_Mo_prove 11 = .ok (.bipush 40, 2) := by decide +kernel
theorem d_Mo_prove_13 : decode b_Mo_prove 13 = .ok (.if_icmp .le 9, 3) := by decide +kernel
theorem d_Mo_prove_16 : decode b_Mo_prove 16 = .ok (.aload_n 0, 1) := by decide +kernel
theorem d_Mo_prove_17 : decode b_Mo_prove 17 = .ok (.iconst 1, 1) := by decide +kernel
theorem d_Mo_prove_18 : decode b_Mo_prove 18 = .ok (.invokevirtual 132, 3) := by decide +kernel
theorem d_Mo_prove_21 : decode b_Mo_prove 21 = .ok (.ireturn, 1) := by decide +kernel
theorem d_Mo_prove_22 : decode b_Mo_prove 22 = .ok (.iconst 1, 1) := by decide +kernel
theorem d_Mo_prove_23 : decode b_Mo_prove 23 = .ok (.istore_n 2, 1) := by decide +kernel
theorem d_Mo_prove_24 : decode b_Mo_prove 24 = .ok (.iconst 0, 1) := by decide +kernel
theorem d_Mo_prove_25 : decode b_Mo_prove 25 = .ok (.istore_n 3, 1) := by decide +kernel
theorem d_Mo_prove_26 : decode b_Mo_prove 26 = .ok (.iload_n 3, 1) := by decide +kernel
theorem d_Mo_prove_27 : decode b_Mo_prove 27 = .ok (.iload_n 1, 1) := by decide +kernel
theorem d_Mo_prove_28 : decode b_Mo_prove 28 = .ok (.if_icmp .ge 61, 3) := by decide +kernel
theorem d_Mo_prove_31 : decode b_Mo_prove 31 = .ok (.iload_n 2, 1) := by decide +kernel
theorem d_Mo_prove_32 : decode b_Mo_prove 32 = .ok (.ifCond .eq 57, 3) := by decide +kernel
theorem d_Mo_prove_35 : decode b_Mo_prove 35 = .ok (.aload_n 0, 1) := by decide +kernel
theorem d_Mo_prove_36 : decode b_Mo_prove 36 = .ok (.invokevirtual 210, 3) := by decide +kernel
theorem d_Mo_prove_39 : decode b_Mo_prove 39 = .ok (.aload_n 0, 1) := by decide +kernel
theorem d_Mo_prove_40 : decode b_Mo_prove 40 = .ok (.getfield 35, 3) := by decide +kernel
theorem d_Mo_prove_43 : decode b_Mo_prove 43 = .ok (.iconst (-1), 1) := by decide +kernel
theorem d_Mo_prove_44 : decode b_Mo_prove 44 = .ok (.if_icmp .ne 26, 3) := by decide +kernel
theorem d_Mo_prove_47 : decode b_Mo_prove 47 = .ok (.aload_n 0, 1) := by decide +kernel
theorem d_Mo_prove_48 : decode b_Mo_prove 48 = .ok (.invokevirtual 213, 3) := by decide +kernel
theorem d_Mo_prove_51 : decode b_Mo_prove 51 = .ok (.ifCond .eq 7, 3) := by decide +kernel
theorem d_Mo_prove_54 : decode b_Mo_prove 54 = .ok (.iconst 2, 1) := by decide +kernel
theorem d_Mo_prove_55 : decode b_Mo_prove 55 = .ok (.goto 7, 3) := by decide +kernel
theorem d_Mo_prove_58 : decode b_Mo_prove 58 = .ok (.aload_n 0, 1) := by decide +kernel
theorem d_Mo_prove_59 : decode b_Mo_prove 59 = .ok (.invokevirtual 216, 3) := by decide +kernel
theorem d_Mo_prove_62 : decode b_Mo_prove 62 = .ok (.istore 4, 2) := by decide +kernel
theorem d_Mo_prove_64 : decode b_Mo_prove 64 = .ok (.aload_n 0, 1) := by decide +kernel
theorem d_Mo_prove_65 : decode b_Mo_prove 65 = .ok (.iload 4, 2) := by decide +kernel
theorem d_Mo_prove_67 : decode b_Mo_prove 67 = .ok (.putfield 35, 3) := by decide +kernel
theorem d_Mo_prove_70 : decode b_Mo_prove 70 = .ok (.aload_n 0, 1) := by decide +kernel
theorem d_Mo_prove_71 : decode b_Mo_prove 71 = .ok (.getfield 35, 3) := by decide +kernel
theorem d_Mo_prove_74 : decode b_Mo_prove 74 = .ok (.ifCond .ne 7, 3) := by decide +kernel
theorem d_Mo_prove_77 : decode b_Mo_prove 77 = .ok (.iconst 1, 1) := by decide +kernel
theorem d_Mo_prove_78 : decode b_Mo_prove 78 = .ok (.goto 4, 3) := by decide +kernel
theorem d_Mo_prove_81 : decode b_Mo_prove 81 = .ok (.iconst 0, 1) := by decide +kernel
theorem d_Mo_prove_82 : decode b_Mo_prove 82 = .ok (.istore_n 2, 1) := by decide +kernel
theorem d_Mo_prove_83 : decode b_Mo_prove 83 = .ok (.iinc 3 1, 3) := by decide +kernel
theorem d_Mo_prove_86 : decode b_Mo_prove 86 = .ok (.goto (-60), 3) := by decide +kernel
theorem d_Mo_prove_89 : decode b_Mo_prove 89 = .ok (.aload_n 0, 1) := by decide +kernel
theorem d_Mo_prove_90 : decode b_Mo_prove 90 = .ok (.getfield 35, 3) := by decide +kernel
theorem d_Mo_prove_93 : decode b_Mo_prove 93 = .ok (.ireturn, 1) := by decide +kernel
theorem d_Mo_search_0 : decode b_Mo_search 0 = .ok (.aload_n 0, 1) := by decide +kernel
theorem d_Mo_search_1 : decode b_Mo_search 1 = .ok (.invokevirtual 145, 3) := by decide +kernel
theorem d_Mo_search_4 : decode b_Mo_search 4 = .ok (.aload_n 0, 1) := by decide +kernel
theorem d_Mo_search_5 : decode b_Mo_search 5 = .ok (.getfield 39, 3) := by decide +kernel
theorem d_Mo_search_8 : decode b_Mo_search 8 = .ok (.iconst 0, 1) := by decide +kernel
theorem d_Mo_search_9 : decode b_Mo_search 9 = .ok (.iconst 0, 1) := by decide +kernel
theorem d_Mo_search_10 : decode b_Mo_search 10 = .ok (.iastore, 1) := by decide +kernel
theorem d_Mo_search_11 : decode b_Mo_search 11 = .ok (.aload_n 0, 1) := by decide +kernel
theorem d_Mo_search_12 : decode b_Mo_search 12 = .ok (.getfield 42, 3) := by decide +kernel
theorem d_Mo_search_15 : decode b_Mo_search 15 = .ok (.iconst 0, 1) := by decide +kernel
theorem d_Mo_search_16 : decode b_Mo_search 16 = .ok (.aload_n 0, 1) := by decide +kernel
theorem d_Mo_search_17 : decode b_Mo_search 17 = .ok (.getfield 32, 3) := by decide +kernel
theorem d_Mo_search_20 : decode b_Mo_search 20 = .ok (.iconst 0, 1) := by decide +kernel
theorem d_Mo_search_21 : decode b_Mo_search 21 = .ok (.iaload, 1) := by decide +kernel
theorem d_Mo_search_22 : decode b_Mo_search 22 = .ok (.iastore, 1) := by decide +kernel
theorem d_Mo_search_23 : decode b_Mo_search 23 = .ok (.aload_n 0, 1) := by decide +kernel
theorem d_Mo_search_24 : decode b_Mo_search 24 = .ok (.getfield 45, 3) := by decide +kernel
theorem d_Mo_search_27 : decode b_Mo_search 27 = .ok (.iconst 0, 1) := by decide +kernel
theorem d_Mo_search_28 : decode b_Mo_search 28 = .ok (.iconst (-1), 1) := by decide +kernel
theorem d_Mo_search_29 : decode b_Mo_search 29 = .ok (.iastore, 1) := by decide +kernel
theorem d_Mo_search_30 : decode b_Mo_search 30 = .ok (.aload_n 0, 1) := by decide +kernel
theorem d_Mo_search_31 : decode b_Mo_search 31 = .ok (.getfield 48, 3) := by decide +kernel
theorem d_Mo_search_34 : decode b_Mo_search 34 = .ok (.iconst 0, 1) := by decide +kernel
theorem d_Mo_search_35 : decode b_Mo_search 35 = .ok (.iconst (-1), 1) := by decide +kernel
theorem d_Mo_search_36 : decode b_Mo_search 36 = .ok (.iastore, 1) := by decide +kernel
theorem d_Mo_search_37 : decode b_Mo_search 37 = .ok (.aload_n 0, 1) := by decide +kernel
theorem d_Mo_search_38 : decode b_Mo_search 38 = .ok (.iconst 1, 1) := by decide +kernel
theorem d_Mo_search_39 : decode b_Mo_search 39 = .ok (.putfield 123, 3) := by decide +kernel
theorem d_Mo_search_42 : decode b_Mo_search 42 = .ok (.iconst 1, 1) := by decide +kernel
theorem d_Mo_search_43 : decode b_Mo_search 43 = .ok (.istore_n 1, 1) := by decide +kernel
theorem d_Mo_search_44 : decode b_Mo_search 44 = .ok (.iconst 0, 1) := by decide +kernel
theorem d_Mo_search_45 : decode b_Mo_search 45 = .ok (.istore_n 2, 1) := by decide +kernel
theorem d_Mo_search_46 : decode b_Mo_search 46 = .ok (.iload_n 2, 1) := by decide +kernel
theorem d_Mo_search_47 : decode b_Mo_search 47 = .ok (.aload_n 0, 1) := by decide +kernel
theorem d_Mo_search_48 : decode b_Mo_search 48 = .ok (.getfield 123, 3) := by decide +kernel
theorem d_Mo_search_51 : decode b_Mo_search 51 = .ok (.if_icmp .ge 55, 3) := by decide +kernel
theorem d_Mo_search_54 : decode b_Mo_search 54 = .ok (.iload_n 1, 1) := by decide +kernel
theorem d_Mo_search_55 : decode b_Mo_search 55 = .ok (.ifCond .eq 51, 3) := by decide +kernel
theorem d_Mo_search_58 : decode b_Mo_search 58 = .ok (.iconst 0, 1) := by decide +kernel
theorem d_Mo_search_59 : decode b_Mo_search 59 = .ok (.istore_n 3, 1) := by decide +kernel
theorem d_Mo_search_60 : decode b_Mo_search 60 = .ok (.iload_n 3, 1) := by decide +kernel
theorem d_Mo_search_61 : decode b_Mo_search 61 = .ok (.aload_n 0, 1) := by decide +kernel
theorem d_Mo_search_62 : decode b_Mo_search 62 = .ok (.getfield 138, 3) := by decide +kernel
theorem d_Mo_search_65 : decode b_Mo_search 65 = .ok (.if_icmp .ge 35, 3) := by decide +kernel
theorem d_Mo_search_68 : decode b_Mo_search 68 = .ok (.iload_n 1, 1) := by decide +kernel
theorem d_Mo_search_69 : decode b_Mo_search 69 = .ok (.ifCond .eq 31, 3) := by decide +kernel
theorem d_Mo_search_72 : decode b_Mo_search 72 = .ok (.aload_n 0, 1) := by decide +kernel
theorem d_Mo_search_73 : decode b_Mo_search 73 = .ok (.getfield 13, 3) := by decide +kernel
theorem d_Mo_search_76 : decode b_Mo_search 76 = .ok (.iload_n 3, 1) := by decide +kernel
theorem d_Mo_search_77 : decode b_Mo_search 77 = .ok (.iaload, 1) := by decide +kernel
theorem d_Mo_search_78 : decode b_Mo_search 78 = .ok (.aload_n 0, 1) := by decide +kernel
theorem d_Mo_search_79 : decode b_Mo_search 79 = .ok (.getfield 39, 3) := by decide +kernel
theorem d_Mo_search_82 : decode b_Mo_search 82 = .ok (.iload_n 2, 1) := by decide +kernel
theorem d_Mo_search_83 : decode b_Mo_search 83 = .ok (.iaload, 1) := by decide +kernel
theorem d_Mo_search_84 : decode b_Mo_search 84 = .ok (.if_icmp .ne 10, 3) := by decide +kernel
theorem d_Mo_search_87 : decode b_Mo_search 87 = .ok (.aload_n 0, 1) := by decide +kernel
theorem d_Mo_search_88 : decode b_Mo_search 88 = .ok (.iload_n 2, 1) := by decide +kernel
theorem d_Mo_search_89 : decode b_Mo_search 89 = .ok (.iload_n 3, 1) := by decide +kernel
theorem d_Mo_search_90 : decode b_Mo_search 90 = .ok (.invokevirtual 174, 3) := by decide +kernel
theorem d_Mo_search_93 : decode b_Mo_search 93 = .ok (.istore_n 1, 1) := by decide +kernel
theorem d_Mo_search_94 : decode b_Mo_search 94 = .ok (.iinc 3 1, 3) := by decide +kernel
theorem d_Mo_search_97 : decode b_Mo_search 97 = .ok (.goto (-37), 3) := by decide +kernel
theorem d_Mo_search_100 : decode b_Mo_search 100 = .ok (.iinc 2 1, 3) := by decide +kernel
theorem d_Mo_search_103 : decode b_Mo_search 103 = .ok (.goto (-57), 3) := by decide +kernel
theorem d_Mo_search_106 : decode b_Mo_search 106 = .ok (.iload_n 1, 1) := by decide +kernel
theorem d_Mo_search_107 : decode b_Mo_search 107 = .ok (.ifCond .eq 8, 3) := by decide +kernel
theorem d_Mo_search_110 : decode b_Mo_search 110 = .ok (.aload_n 0, 1) := by decide +kernel
theorem d_Mo_search_111 : decode b_Mo_search 111 = .ok (.iconst 1, 1) := by decide +kernel
theorem d_Mo_search_112 : decode b_Mo_search 112 = .ok (.putfield 35, 3) := by decide +kernel
theorem d_Mo_search_115 : decode b_Mo_search 115 = .ok (.aload_n 0, 1) := by decide +kernel
theorem d_Mo_search_116 : decode b_Mo_search 116 = .ok (.getfield 35, 3) := by decide +kernel
theorem d_Mo_search_119 : decode b_Mo_search 119 = .ok (.iconst (-1), 1) := by decide +kernel
theorem d_Mo_search_120 : decode b_Mo_search 120 = .ok (.if_icmp .eq 4, 3) := by decide +kernel
theorem d_Mo_search_123 : decode b_Mo_search 123 = .ok (.return_, 1) := by decide +kernel
theorem d_Mo_search_124 : decode b_Mo_search 124 = .ok (.iconst 0, 1) := by decide +kernel
theorem d_Mo_search_125 : decode b_Mo_search 125 = .ok (.istore_n 2, 1) := by decide +kernel
theorem d_Mo_search_126 : decode b_Mo_search 126 = .ok (.aload_n 0, 1) := by decide +kernel
theorem d_Mo_search_127 : decode b_Mo_search 127 = .ok (.getfield 123, 3) := by decide +kernel
theorem d_Mo_search_130 : decode b_Mo_search 130 = .ok (.iconst 1, 1) := by decide +kernel
theorem d_Mo_search_131 : decode b_Mo_search 131 = .ok (.isub, 1) := by decide +kernel
theorem d_Mo_search_132 : decode b_Mo_search 132 = .ok (.istore_n 3, 1) := by decide +kernel
theorem d_Mo_search_133 : decode b_Mo_search 133 = .ok (.iload_n 3, 1) := by decide +kernel
theorem d_Mo_search_134 : decode b_Mo_search 134 = .ok (.ifCond .le 16, 3) := by decide +kernel
theorem d_Mo_search_137 : decode b_Mo_search 137 = .ok (.iinc 2 1, 3) := by decide +kernel
theorem d_Mo_search_140 : decode b_Mo_search 140 = .ok (.aload_n 0, 1) := by decide +kernel
theorem d_Mo_search_141 : decode b_Mo_search 141 = .ok (.getfield 45, 3) := by decide +kernel
theorem d_Mo_search_144 : decode b_Mo_search 144 = .ok (.iload_n 3, 1) := by decide +kernel
theorem d_Mo_search_145 : decode b_Mo_search 145 = .ok (.iaload, 1) := by decide +kernel
theorem d_Mo_search_146 : decode b_Mo_search 146 = .ok (.istore_n 3, 1) := by decide +kernel
theorem d_Mo_search_147 : decode b_Mo_search 147 = .ok (.goto (-14), 3) := by decide +kernel
theorem d_Mo_search_150 : decode b_Mo_search 150 = .ok (.aload_n 0, 1) := by decide +kernel
theorem d_Mo_search_151 : decode b_Mo_search 151 = .ok (.iload_n 2, 1) := by decide +kernel
theorem d_Mo_search_152 : decode b_Mo_search 152 = .ok (.putfield 51, 3) := by decide +kernel
theorem d_Mo_search_155 : decode b_Mo_search 155 = .ok (.aload_n 0, 1) := by decide +kernel
theorem d_Mo_search_156 : decode b_Mo_search 156 = .ok (.getfield 123, 3) := by decide +kernel
theorem d_Mo_search_159 : decode b_Mo_search 159 = .ok (.iconst 1, 1) := by decide +kernel
theorem d_Mo_search_160 : decode b_Mo_search 160 = .ok (.isub, 1) := by decide +kernel
theorem d_Mo_search_161 : decode b_Mo_search 161 = .ok (.istore_n 3, 1) := by decide +kernel
theorem d_Mo_search_162 : decode b_Mo_search 162 = .ok (.iload_n 3, 1) := by decide +kernel
theorem d_Mo_search_163 : decode b_Mo_search 163 = .ok (.ifCond .le 28, 3) := by decide +kernel
theorem d_Mo_search_166 : decode b_Mo_search 166 = .ok (.iinc 2 (-1), 3) := by decide +kernel
theorem d_Mo_search_169 : decode b_Mo_search 169 = .ok (.aload_n 0, 1) := by decide +kernel
theorem d_Mo_search_170 : decode b_Mo_search 170 = .ok (.getfield 54, 3) := by decide +kernel
theorem d_Mo_search_173 : decode b_Mo_search 173 = .ok (.iload_n 2, 1) := by decide +kernel
theorem d_Mo_search_174 : decode b_Mo_search 174 = .ok (.aload_n 0, 1) := by decide +kernel
theorem d_Mo_search_175 : decode b_Mo_search 175 = .ok (.getfield 48, 3) := by decide +kernel
theorem d_Mo_search_178 : decode b_Mo_search 178 = .ok (.iload_n 3, 1) := by decide +kernel
theorem d_Mo_search_179 : decode b_Mo_search 179 = .ok (.iaload, 1) := by decide +kernel
theorem d_Mo_search_180 : decode b_Mo_search 180 = .ok (.iastore, 1) := by decide +kernel
theorem d_Mo_search_181 : decode b_Mo_search 181 = .ok (.aload_n 0, 1) := by decide +kernel
theorem d_Mo_search_182 : decode b_Mo_search 182 = .ok (.getfield 45, 3) := by decide +kernel
theorem d_Mo_search_185 : decode b_Mo_search 185 = .ok (.iload_n 3, 1) := by decide +kernel
theorem d_Mo_search_186 : decode b_Mo_search 186 = .ok (.iaload, 1) := by decide +kernel
theorem d_Mo_search_187 : decode b_Mo_search 187 = .ok (.istore_n 3, 1) := by decide +kernel
theorem d_Mo_search_188 : decode b_Mo_search 188 = .ok (.goto (-26), 3) := by decide +kernel
theorem d_Mo_search_191 : decode b_Mo_search 191 = .ok (.return_, 1) := by decide +kernel
theorem d_Mo_spread_0 : decode b_Mo_spread 0 = .ok (.iconst 0, 1) := by decide +kernel
theorem d_Mo_spread_1 : decode b_Mo_spread 1 = .ok (.istore_n 3, 1) := by decide +kernel
theorem d_Mo_spread_2 : decode b_Mo_spread 2 = .ok (.iload_n 3, 1) := by decide +kernel
theorem d_Mo_spread_3 : decode b_Mo_spread 3 = .ok (.iconst 1, 1) := by decide +kernel
theorem d_Mo_spread_4 : decode b_Mo_spread 4 = .ok (.aload_n 0, 1) := by decide +kernel
theorem d_Mo_spread_5 : decode b_Mo_spread 5 = .ok (.getfield 155, 3) := by decide +kernel
theorem d_Mo_spread_8 : decode b_Mo_spread 8 = .ok (.ishl, 1) := by decide +kernel
theorem d_Mo_spread_9 : decode b_Mo_spread 9 = .ok (.if_icmp .ge 16, 3) := by decide +kernel
theorem d_Mo_spread_12 : decode b_Mo_spread 12 = .ok (.aload_n 0, 1) := by decide +kernel
theorem d_Mo_spread_13 : decode b_Mo_spread 13 = .ok (.getfield 60, 3) := by decide +kernel
theorem d_Mo_spread_16 : decode b_Mo_spread 16 = .ok (.iload_n 3, 1) := by decide +kernel
theorem d_Mo_spread_17 : decode b_Mo_spread 17 = .ok (.iconst 0, 1) := by decide +kernel
theorem d_Mo_spread_18 : decode b_Mo_spread 18 = .ok (.iastore, 1) := by decide +kernel
theorem d_Mo_spread_19 : decode b_Mo_spread 19 = .ok (.iinc 3 1, 3) := by decide +kernel
theorem d_Mo_spread_22 : decode b_Mo_spread 22 = .ok (.goto (-20), 3) := by decide +kernel
theorem d_Mo_spread_25 : decode b_Mo_spread 25 = .ok (.iconst 0, 1) := by decide +kernel
theorem d_Mo_spread_26 : decode b_Mo_spread 26 = .ok (.istore_n 3, 1) := by decide +kernel
theorem d_Mo_spread_27 : decode b_Mo_spread 27 = .ok (.iload_n 3, 1) := by decide +kernel
theorem d_Mo_spread_28 : decode b_Mo_spread 28 = .ok (.aload_n 0, 1) := by decide +kernel
theorem d_Mo_spread_29 : decode b_Mo_spread 29 = .ok (.getfield 82, 3) := by decide +kernel
theorem d_Mo_spread_32 : decode b_Mo_spread 32 = .ok (.if_icmp .ge 30, 3) := by decide +kernel
theorem d_Mo_spread_35 : decode b_Mo_spread 35 = .ok (.aload_n 0, 1) := by decide +kernel
theorem d_Mo_spread_36 : decode b_Mo_spread 36 = .ok (.getfield 32, 3) := by decide +kernel
theorem d_Mo_spread_39 : decode b_Mo_spread 39 = .ok (.iload_n 3, 1) := by decide +kernel
theorem d_Mo_spread_40 : decode b_Mo_spread 40 = .ok (.iaload, 1) := by decide +kernel
theorem d_Mo_spread_41 : decode b_Mo_spread 41 = .ok (.aload_n 0, 1) := by decide +kernel
theorem d_Mo_spread_42 : decode b_Mo_spread 42 = .ok (.getfield 42, 3) := by decide +kernel
theorem d_Mo_spread_45 : decode b_Mo_spread 45 = .ok (.iload_n 1, 1) := by decide +kernel
theorem d_Mo_spread_46 : decode b_Mo_spread 46 = .ok (.iaload, 1) := by decide +kernel
theorem d_Mo_spread_47 : decode b_Mo_spread 47 = .ok (.if_icmp .ne 9, 3) := by decide +kernel
theorem d_Mo_spread_50 : decode b_Mo_spread 50 = .ok (.aload_n 0, 1) := by decide +kernel
theorem d_Mo_spread_51 : decode b_Mo_spread 51 = .ok (.iload_n 2, 1) := by decide +kernel
theorem d_Mo_spread_52 : decode b_Mo_spread 52 = .ok (.iload_n 3, 1) := by decide +kernel
theorem d_Mo_spread_53 : decode b_Mo_spread 53 = .ok (.invokevirtual 168, 3) := by decide +kernel
theorem d_Mo_spread_56 : decode b_Mo_spread 56 = .ok (.iinc 3 1, 3) := by decide +kernel
theorem d_Mo_spread_59 : decode b_Mo_spread 59 = .ok (.goto (-32), 3) := by decide +kernel
theorem d_Mo_spread_62 : decode b_Mo_spread 62 = .ok (.iconst 0, 1) := by decide +kernel
theorem d_Mo_spread_63 : decode b_Mo_spread 63 = .ok (.istore_n 3, 1) := by decide +kernel
theorem d_Mo_spread_64 : decode b_Mo_spread 64 = .ok (.iload_n 3, 1) := by decide +kernel
theorem d_Mo_spread_65 : decode b_Mo_spread 65 = .ok (.iconst 1, 1) := by decide +kernel
theorem d_Mo_spread_66 : decode b_Mo_spread 66 = .ok (.aload_n 0, 1) := by decide +kernel
theorem d_Mo_spread_67 : decode b_Mo_spread 67 = .ok (.getfield 155, 3) := by decide +kernel
theorem d_Mo_spread_70 : decode b_Mo_spread 70 = .ok (.ishl, 1) := by decide +kernel
theorem d_Mo_spread_71 : decode b_Mo_spread 71 = .ok (.if_icmp .ge 119, 3) := by decide +kernel
theorem d_Mo_spread_74 : decode b_Mo_spread 74 = .ok (.aload_n 0, 1) := by decide +kernel
theorem d_Mo_spread_75 : decode b_Mo_spread 75 = .ok (.getfield 60, 3) := by decide +kernel
theorem d_Mo_spread_78 : decode b_Mo_spread 78 = .ok (.iload_n 3, 1) := by decide +kernel
theorem d_Mo_spread_79 : decode b_Mo_spread 79 = .ok (.iaload, 1) := by decide +kernel
theorem d_Mo_spread_80 : decode b_Mo_spread 80 = .ok (.ifCond .eq 104, 3) := by decide +kernel
theorem d_Mo_spread_83 : decode b_Mo_spread 83 = .ok (.aload_n 0, 1) := by decide +kernel
theorem d_Mo_spread_84 : decode b_Mo_spread 84 = .ok (.aload_n 0, 1) := by decide +kernel
theorem d_Mo_spread_85 : decode b_Mo_spread 85 = .ok (.getfield 16, 3) := by decide +kernel
theorem d_Mo_spread_88 : decode b_Mo_spread 88 = .ok (.iload_n 2, 1) := by decide +kernel
theorem d_Mo_spread_89 : decode b_Mo_spread 89 = .ok (.iaload, 1) := by decide +kernel
theorem d_Mo_spread_90 : decode b_Mo_spread 90 = .ok (.iload_n 3, 1) := by decide +kernel
theorem d_Mo_spread_91 : decode b_Mo_spread 91 = .ok (.invokevirtual 171, 3) := by decide +kernel
theorem d_Mo_spread_94 : decode b_Mo_spread 94 = .ok (.ifCond .eq 6, 3) := by decide +kernel
theorem d_Mo_spread_97 : decode b_Mo_spread 97 = .ok (.goto 87, 3) := by decide +kernel
theorem d_Mo_spread_100 : decode b_Mo_spread 100 = .ok (.aload_n 0, 1) := by decide +kernel
theorem d_Mo_spread_101 : decode b_Mo_spread 101 = .ok (.getfield 123, 3) := by decide +kernel
theorem d_Mo_spread_104 : decode b_Mo_spread 104 = .ok (.sipush 200, 3) := by decide +kernel
theorem d_Mo_spread_107 : decode b_Mo_spread 107 = .ok (.if_icmp .ne 10, 3) := by decide +kernel
theorem d_Mo_spread_110 : decode b_Mo_spread 110 = .ok (.aload_n 0, 1) := by decide +kernel
theorem d_Mo_spread_111 : decode b_Mo_spread 111 = .ok (.iconst 3, 1) := by decide +kernel
theorem d_Mo_spread_112 : decode b_Mo_spread 112 = .ok (.putfield 35, 3) := by decide +kernel
theorem d_Mo_spread_115 : decode b_Mo_spread 115 = .ok (.iconst 0, 1) := by decide +kernel
theorem d_Mo_spread_116 : decode b_Mo_spread 116 = .ok (.ireturn, 1) := by decide +kernel
theorem d_Mo_spread_117 : decode b_Mo_spread 117 = .ok (.aload_n 0, 1) := by decide +kernel
theorem d_Mo_spread_118 : decode b_Mo_spread 118 = .ok (.getfield 39, 3) := by decide +kernel
theorem d_Mo_spread_121 : decode b_Mo_spread 121 = .ok (.aload_n 0, 1) := by decide +kernel
theorem d_Mo_spread_122 : decode b_Mo_spread 122 = .ok (.getfield 123, 3) := by decide +kernel
theorem d_Mo_spread_125 : decode b_Mo_spread 125 = .ok (.aload_n 0, 1) := by decide +kernel
theorem d_Mo_spread_126 : decode b_Mo_spread 126 = .ok (.getfield 16, 3) := by decide +kernel
theorem d_Mo_spread_129 : decode b_Mo_spread 129 = .ok (.iload_n 2, 1) := by decide +kernel
theorem d_Mo_spread_130 : decode b_Mo_spread 130 = .ok (.iaload, 1) := by decide +kernel
theorem d_Mo_spread_131 : decode b_Mo_spread 131 = .ok (.iastore, 1) := by decide +kernel
theorem d_Mo_spread_132 : decode b_Mo_spread 132 = .ok (.aload_n 0, 1) := by decide +kernel
theorem d_Mo_spread_133 : decode b_Mo_spread 133 = .ok (.getfield 42, 3) := by decide +kernel
theorem d_Mo_spread_136 : decode b_Mo_spread 136 = .ok (.aload_n 0, 1) := by decide +kernel
theorem d_Mo_spread_137 : decode b_Mo_spread 137 = .ok (.getfield 123, 3) := by decide +kernel
theorem d_Mo_spread_140 : decode b_Mo_spread 140 = .ok (.iload_n 3, 1) := by decide +kernel
theorem d_Mo_spread_141 : decode b_Mo_spread 141 = .ok (.iastore, 1) := by decide +kernel
theorem d_Mo_spread_142 : decode b_Mo_spread 142 = .ok (.aload_n 0, 1) := by decide +kernel
theorem d_Mo_spread_143 : decode b_Mo_spread 143 = .ok (.getfield 45, 3) := by decide +kernel
theorem d_Mo_spread_146 : decode b_Mo_spread 146 = .ok (.aload_n 0, 1) := by decide +kernel
theorem d_Mo_spread_147 : decode b_Mo_spread 147 = .ok (.getfield 123, 3) := by decide +kernel
theorem d_Mo_spread_150 : decode b_Mo_spread 150 = .ok (.iload_n 1, 1) := by decide +kernel
theorem d_Mo_spread_151 : decode b_Mo_spread 151 = .ok (.iastore, 1) := by decide +kernel
theorem d_Mo_spread_152 : decode b_Mo_spread 152 = .ok (.aload_n 0, 1) := by decide +kernel
theorem d_Mo_spread_153 : decode b_Mo_spread 153 = .ok (.getfield 48, 3) := by decide +kernel
theorem d_Mo_spread_156 : decode b_Mo_spread 156 = .ok (.aload_n 0, 1) := by decide +kernel
theorem d_Mo_spread_157 : decode b_Mo_spread 157 = .ok (.getfield 123, 3) := by decide +kernel
theorem d_Mo_spread_160 : decode b_Mo_spread 160 = .ok (.iload_n 2, 1) := by decide +kernel
theorem d_Mo_spread_161 : decode b_Mo_spread 161 = .ok (.iastore, 1) := by decide +kernel
theorem d_Mo_spread_162 : decode b_Mo_spread 162 = .ok (.aload_n 0, 1) := by decide +kernel
theorem d_Mo_spread_163 : decode b_Mo_spread 163 = .ok (.dup, 1) := by decide +kernel
theorem d_Mo_spread_164 : decode b_Mo_spread 164 = .ok (.getfield 123, 3) := by decide +kernel
theorem d_Mo_spread_167 : decode b_Mo_spread 167 = .ok (.iconst 1, 1) := by decide +kernel
theorem d_Mo_spread_168 : decode b_Mo_spread 168 = .ok (.iadd, 1) := by decide +kernel
theorem d_Mo_spread_169 : decode b_Mo_spread 169 = .ok (.putfield 123, 3) := by decide +kernel
theorem d_Mo_spread_172 : decode b_Mo_spread 172 = .ok (.aload_n 0, 1) := by decide +kernel
theorem d_Mo_spread_173 : decode b_Mo_spread 173 = .ok (.getfield 16, 3) := by decide +kernel
theorem d_Mo_spread_176 : decode b_Mo_spread 176 = .ok (.iload_n 2, 1) := by decide +kernel
theorem d_Mo_spread_177 : decode b_Mo_spread 177 = .ok (.iaload, 1) := by decide +kernel
theorem d_Mo_spread_178 : decode b_Mo_spread 178 = .ok (.iconst 1, 1) := by decide +kernel
theorem d_Mo_spread_179 : decode b_Mo_spread 179 = .ok (.if_icmp .ne 5, 3) := by decide +kernel
theorem d_Mo_spread_182 : decode b_Mo_spread 182 = .ok (.iconst 0, 1) := by decide +kernel
theorem d_Mo_spread_183 : decode b_Mo_spread 183 = .ok (.ireturn, 1) := by decide +kernel
theorem d_Mo_spread_184 : decode b_Mo_spread 184 = .ok (.iinc 3 1, 3) := by decide +kernel
theorem d_Mo_spread_187 : decode b_Mo_spread 187 = .ok (.goto (-123), 3) := by decide +kernel
theorem d_Mo_spread_190 : decode b_Mo_spread 190 = .ok (.iconst 1, 1) := by decide +kernel
theorem d_Mo_spread_191 : decode b_Mo_spread 191 = .ok (.ireturn, 1) := by decide +kernel
theorem d_Mo_mark_0 : decode b_Mo_mark 0 = .ok (.aload_n 0, 1) := by decide +kernel
theorem d_Mo_mark_1 : decode b_Mo_mark 1 = .ok (.getfield 19, 3) := by decide +kernel
theorem d_Mo_mark_4 : decode b_Mo_mark 4 = .ok (.iload_n 1, 1) := by decide +kernel
theorem d_Mo_mark_5 : decode b_Mo_mark 5 = .ok (.iaload, 1) := by decide +kernel
theorem d_Mo_mark_6 : decode b_Mo_mark 6 = .ok (.ifCond .ne 20, 3) := by decide +kernel
theorem d_Mo_mark_9 : decode b_Mo_mark 9 = .ok (.aload_n 0, 1) := by decide +kernel
theorem d_Mo_mark_10 : decode b_Mo_mark 10 = .ok (.getfield 60, 3) := by decide +kernel
theorem d_Mo_mark_13 : decode b_Mo_mark 13 = .ok (.aload_n 0, 1) := by decide +kernel
theorem d_Mo_mark_14 : decode b_Mo_mark 14 = .ok (.getfield 32, 3) := by decide +kernel
theorem d_Mo_mark_17 : decode b_Mo_mark 17 = .ok (.aload_n 0, 1) := by decide +kernel
theorem d_Mo_mark_18 : decode b_Mo_mark 18 = .ok (.iload_n 1, 1) := by decide +kernel
theorem d_Mo_mark_19 : decode b_Mo_mark 19 = .ok (.iload_n 2, 1) := by decide +kernel
theorem d_Mo_mark_20 : decode b_Mo_mark 20 = .ok (.invokevirtual 161, 3) := by decide +kernel
theorem d_Mo_mark_23 : decode b_Mo_mark 23 = .ok (.iaload, 1) := by decide +kernel
theorem d_Mo_mark_24 : decode b_Mo_mark 24 = .ok (.iconst 1, 1) := by decide +kernel
theorem d_Mo_mark_25 : decode b_Mo_mark 25 = .ok (.iastore, 1) := by decide +kernel
theorem d_Mo_mark_26 : decode b_Mo_mark 26 = .ok (.aload_n 0, 1) := by decide +kernel
theorem d_Mo_mark_27 : decode b_Mo_mark 27 = .ok (.getfield 19, 3) := by decide +kernel
theorem d_Mo_mark_30 : decode b_Mo_mark 30 = .ok (.iload_n 1, 1) := by decide +kernel
theorem d_Mo_mark_31 : decode b_Mo_mark 31 = .ok (.iaload, 1) := by decide +kernel
theorem d_Mo_mark_32 : decode b_Mo_mark 32 = .ok (.iconst 2, 1) := by decide +kernel
theorem d_Mo_mark_33 : decode b_Mo_mark 33 = .ok (.if_icmp .ne 24, 3) := by decide +kernel
theorem d_Mo_mark_36 : decode b_Mo_mark 36 = .ok (.aload_n 0, 1) := by decide +kernel
theorem d_Mo_mark_37 : decode b_Mo_mark 37 = .ok (.iload_n 1, 1) := by decide +kernel
theorem d_Mo_mark_38 : decode b_Mo_mark 38 = .ok (.iload_n 2, 1) := by decide +kernel
theorem d_Mo_mark_39 : decode b_Mo_mark 39 = .ok (.invokevirtual 164, 3) := by decide +kernel
theorem d_Mo_mark_42 : decode b_Mo_mark 42 = .ok (.ifCond .eq 15, 3) := by decide +kernel
theorem d_Mo_mark_45 : decode b_Mo_mark 45 = .ok (.aload_n 0, 1) := by decide +kernel
theorem d_Mo_mark_46 : decode b_Mo_mark 46 = .ok (.getfield 60, 3) := by decide +kernel
theorem d_Mo_mark_49 : decode b_Mo_mark 49 = .ok (.aload_n 0, 1) := by decide +kernel
theorem d_Mo_mark_50 : decode b_Mo_mark 50 = .ok (.getfield 32, 3) := by decide +kernel
theorem d_Mo_mark_53 : decode b_Mo_mark 53 = .ok (.iload_n 2, 1) := by decide +kernel
theorem d_Mo_mark_54 : decode b_Mo_mark 54 = .ok (.iaload, 1) := by decide +kernel
theorem d_Mo_mark_55 : decode b_Mo_mark 55 = .ok (.iconst 1, 1) := by decide +kernel
theorem d_Mo_mark_56 : decode b_Mo_mark 56 = .ok (.iastore, 1) := by decide +kernel
theorem d_Mo_mark_57 : decode b_Mo_mark 57 = .ok (.iconst 0, 1) := by decide +kernel
theorem d_Mo_mark_58 : decode b_Mo_mark 58 = .ok (.istore_n 3, 1) := by decide +kernel
theorem d_Mo_mark_59 : decode b_Mo_mark 59 = .ok (.iload_n 3, 1) := by decide +kernel
theorem d_Mo_mark_60 : decode b_Mo_mark 60 = .ok (.aload_n 0, 1) := by decide +kernel
theorem d_Mo_mark_61 : decode b_Mo_mark 61 = .ok (.getfield 79, 3) := by decide +kernel
theorem d_Mo_mark_64 : decode b_Mo_mark 64 = .ok (.if_icmp .gt 42, 3) := by decide +kernel
theorem d_Mo_mark_67 : decode b_Mo_mark 67 = .ok (.aload_n 0, 1) := by decide +kernel
theorem d_Mo_mark_68 : decode b_Mo_mark 68 = .ok (.getfield 19, 3) := by decide +kernel
theorem d_Mo_mark_71 : decode b_Mo_mark 71 = .ok (.iload_n 1, 1) := by decide +kernel
theorem d_Mo_mark_72 : decode b_Mo_mark 72 = .ok (.iaload, 1) := by decide +kernel
theorem d_Mo_mark_73 : decode b_Mo_mark 73 = .ok (.iconst 1, 1) := by decide +kernel
theorem d_Mo_mark_74 : decode b_Mo_mark 74 = .ok (.if_icmp .ne 32, 3) := by decide +kernel
theorem d_Mo_mark_77 : decode b_Mo_mark 77 = .ok (.aload_n 0, 1) := by decide +kernel
theorem d_Mo_mark_78 : decode b_Mo_mark 78 = .ok (.getfield 60, 3) := by decide +kernel
theorem d_Mo_mark_81 : decode b_Mo_mark 81 = .ok (.aload_n 0, 1) := by decide +kernel
theorem d_Mo_mark_82 : decode b_Mo_mark 82 = .ok (.getfield 32, 3) := by decide +kernel
theorem d_Mo_mark_85 : decode b_Mo_mark 85 = .ok (.aload_n 0, 1) := by decide +kernel
theorem d_Mo_mark_86 : decode b_Mo_mark 86 = .ok (.iload_n 2, 1) := by decide +kernel
theorem d_Mo_mark_87 : decode b_Mo_mark 87 = .ok (.aload_n 0, 1) := by decide +kernel
theorem d_Mo_mark_88 : decode b_Mo_mark 88 = .ok (.getfield 22, 3) := by decide +kernel
theorem d_Mo_mark_91 : decode b_Mo_mark 91 = .ok (.iload_n 1, 1) := by decide +kernel
theorem d_Mo_mark_92 : decode b_Mo_mark 92 = .ok (.iaload, 1) := by decide +kernel
theorem d_Mo_mark_93 : decode b_Mo_mark 93 = .ok (.iload_n 3, 1) := by decide +kernel
theorem d_Mo_mark_94 : decode b_Mo_mark 94 = .ok (.invokevirtual 152, 3) := by decide +kernel
theorem d_Mo_mark_97 : decode b_Mo_mark 97 = .ok (.iaload, 1) := by decide +kernel
theorem d_Mo_mark_98 : decode b_Mo_mark 98 = .ok (.iconst 1, 1) := by decide +kernel
theorem d_Mo_mark_99 : decode b_Mo_mark 99 = .ok (.iastore, 1) := by decide +kernel
theorem d_Mo_mark_100 : decode b_Mo_mark 100 = .ok (.iinc 3 1, 3) := by decide +kernel
theorem d_Mo_mark_103 : decode b_Mo_mark 103 = .ok (.goto (-44), 3) := by decide +kernel
theorem d_Mo_mark_106 : decode b_Mo_mark 106 = .ok (.return_, 1) := by decide +kernel
theorem d_Mo_led_0 : decode b_Mo_led 0 = .ok (.aload_n 0, 1) := by decide +kernel
theorem d_Mo_led_1 : decode b_Mo_led 1 = .ok (.iload_n 2, 1) := by decide +kernel
theorem d_Mo_led_2 : decode b_Mo_led 2 = .ok (.aload_n 0, 1) := by decide +kernel
theorem d_Mo_led_3 : decode b_Mo_led 3 = .ok (.getfield 22, 3) := by decide +kernel
theorem d_Mo_led_6 : decode b_Mo_led 6 = .ok (.iload_n 1, 1) := by decide +kernel
theorem d_Mo_led_7 : decode b_Mo_led 7 = .ok (.iaload, 1) := by decide +kernel
theorem d_Mo_led_8 : decode b_Mo_led 8 = .ok (.aload_n 0, 1) := by decide +kernel
theorem d_Mo_led_9 : decode b_Mo_led 9 = .ok (.getfield 25, 3) := by decide +kernel
theorem d_Mo_led_12 : decode b_Mo_led 12 = .ok (.bipush 24, 2) := by decide +kernel
theorem d_Mo_led_14 : decode b_Mo_led 14 = .ok (.iload_n 1, 1) := by decide +kernel
theorem d_Mo_led_15 : decode b_Mo_led 15 = .ok (.imul, 1) := by decide +kernel
theorem d_Mo_led_16 : decode b_Mo_led 16 = .ok (.iload_n 2, 1) := by decide +kernel
theorem d_Mo_led_17 : decode b_Mo_led 17 = .ok (.invokestatic 148, 3) := by decide +kernel
theorem d_Mo_led_20 : decode b_Mo_led 20 = .ok (.aload_n 0, 1) := by decide +kernel
theorem d_Mo_led_21 : decode b_Mo_led 21 = .ok (.getfield 25, 3) := by decide +kernel
theorem d_Mo_led_24 : decode b_Mo_led 24 = .ok (.bipush 24, 2) := by decide +kernel
theorem d_Mo_led_26 : decode b_Mo_led 26 = .ok (.iload_n 1, 1) := by decide +kernel
theorem d_Mo_led_27 : decode b_Mo_led 27 = .ok (.imul, 1) := by decide +kernel
theorem d_Mo_led_28 : decode b_Mo_led 28 = .ok (.bipush 8, 2) := by decide +kernel
theorem d_Mo_led_30 : decode b_Mo_led 30 = .ok (.iadd, 1) := by decide +kernel
theorem d_Mo_led_31 : decode b_Mo_led 31 = .ok (.iload_n 2, 1) := by decide +kernel
theorem d_Mo_led_32 : decode b_Mo_led 32 = .ok (.invokestatic 148, 3) := by decide +kernel
theorem d_Mo_led_35 : decode b_Mo_led 35 = .ok (.iconst 1, 1) := by decide +kernel
theorem d_Mo_led_36 : decode b_Mo_led 36 = .ok (.ishl, 1) := by decide +kernel
theorem d_Mo_led_37 : decode b_Mo_led 37 = .ok (.ior, 1) := by decide +kernel
theorem d_Mo_led_38 : decode b_Mo_led 38 = .ok (.aload_n 0, 1) := by decide +kernel
theorem d_Mo_led_39 : decode b_Mo_led 39 = .ok (.getfield 25, 3) := by decide +kernel
theorem d_Mo_led_42 : decode b_Mo_led 42 = .ok (.bipush 24, 2) := by decide +kernel
theorem d_Mo_led_44 : decode b_Mo_led 44 = .ok (.iload_n 1, 1) := by decide +kernel
theorem d_Mo_led_45 : decode b_Mo_led 45 = .ok (.imul, 1) := by decide +kernel
theorem d_Mo_led_46 : decode b_Mo_led 46 = .ok (.bipush 16, 2) := by decide +kernel
theorem d_Mo_led_48 : decode b_Mo_led 48 = .ok (.iadd, 1) := by decide +kernel
theorem d_Mo_led_49 : decode b_Mo_led 49 = .ok (.iload_n 2, 1) := by decide +kernel
theorem d_Mo_led_50 : decode b_Mo_led 50 = .ok (.invokestatic 148, 3) := by decide +kernel
theorem d_Mo_led_53 : decode b_Mo_led 53 = .ok (.iconst 2, 1) := by decide +kernel
theorem d_Mo_led_54 : decode b_Mo_led 54 = .ok (.ishl, 1) := by decide +kernel
theorem d_Mo_led_55 : decode b_Mo_led 55 = .ok (.ior, 1) := by decide +kernel
theorem d_Mo_led_56 : decode b_Mo_led 56 = .ok (.invokevirtual 152, 3) := by decide +kernel
theorem d_Mo_led_59 : decode b_Mo_led 59 = .ok (.ireturn, 1) := by decide +kernel
theorem d_Mo_bit_0 : decode b_Mo_bit 0 = .ok (.aload_n 0, 1) := by decide +kernel
theorem d_Mo_bit_1 : decode b_Mo_bit 1 = .ok (.iload_n 1, 1) := by decide +kernel
theorem d_Mo_bit_2 : decode b_Mo_bit 2 = .ok (.iload_n 2, 1) := by decide +kernel
theorem d_Mo_bit_3 : decode b_Mo_bit 3 = .ok (.bipush 64, 2) := by decide +kernel
theorem d_Mo_bit_5 : decode b_Mo_bit 5 = .ok (.idiv, 1) := by decide +kernel
theorem d_Mo_bit_6 : decode b_Mo_bit 6 = .ok (.iadd, 1) := by decide +kernel
theorem d_Mo_bit_7 : decode b_Mo_bit 7 = .ok (.laload, 1) := by decide +kernel
theorem d_Mo_bit_8 : decode b_Mo_bit 8 = .ok (.iload_n 2, 1) := by decide +kernel
theorem d_Mo_bit_9 : decode b_Mo_bit 9 = .ok (.bipush 64, 2) := by decide +kernel
theorem d_Mo_bit_11 : decode b_Mo_bit 11 = .ok (.irem, 1) := by decide +kernel
theorem d_Mo_bit_12 : decode b_Mo_bit 12 = .ok (.lshr, 1) := by decide +kernel
theorem d_Mo_bit_13 : decode b_Mo_bit 13 = .ok (.l2i, 1) := by decide +kernel
theorem d_Mo_bit_14 : decode b_Mo_bit 14 = .ok (.iconst 1, 1) := by decide +kernel
theorem d_Mo_bit_15 : decode b_Mo_bit 15 = .ok (.iand, 1) := by decide +kernel
theorem d_Mo_bit_16 : decode b_Mo_bit 16 = .ok (.ireturn, 1) := by decide +kernel
theorem d_Mo_with_0 : decode b_Mo_with 0 = .ok (.iload_n 1, 1) := by decide +kernel
theorem d_Mo_with_1 : decode b_Mo_with 1 = .ok (.aload_n 0, 1) := by decide +kernel
theorem d_Mo_with_2 : decode b_Mo_with 2 = .ok (.getfield 79, 3) := by decide +kernel
theorem d_Mo_with_5 : decode b_Mo_with 5 = .ok (.iload_n 2, 1) := by decide +kernel
theorem d_Mo_with_6 : decode b_Mo_with 6 = .ok (.aload_n 0, 1) := by decide +kernel
theorem d_Mo_with_7 : decode b_Mo_with 7 = .ok (.getfield 76, 3) := by decide +kernel
theorem d_Mo_with_10 : decode b_Mo_with 10 = .ok (.imul, 1) := by decide +kernel
theorem d_Mo_with_11 : decode b_Mo_with 11 = .ok (.ishl, 1) := by decide +kernel
theorem d_Mo_with_12 : decode b_Mo_with 12 = .ok (.iconst (-1), 1) := by decide +kernel
theorem d_Mo_with_13 : decode b_Mo_with 13 = .ok (.ixor, 1) := by decide +kernel
theorem d_Mo_with_14 : decode b_Mo_with 14 = .ok (.iand, 1) := by decide +kernel
theorem d_Mo_with_15 : decode b_Mo_with 15 = .ok (.iload_n 3, 1) := by decide +kernel
theorem d_Mo_with_16 : decode b_Mo_with 16 = .ok (.aload_n 0, 1) := by decide +kernel
theorem d_Mo_with_17 : decode b_Mo_with 17 = .ok (.getfield 79, 3) := by decide +kernel
theorem d_Mo_with_20 : decode b_Mo_with 20 = .ok (.iand, 1) := by decide +kernel
theorem d_Mo_with_21 : decode b_Mo_with 21 = .ok (.iload_n 2, 1) := by decide +kernel
theorem d_Mo_with_22 : decode b_Mo_with 22 = .ok (.aload_n 0, 1) := by decide +kernel
theorem d_Mo_with_23 : decode b_Mo_with 23 = .ok (.getfield 76, 3) := by decide +kernel
theorem d_Mo_with_26 : decode b_Mo_with 26 = .ok (.imul, 1) := by decide +kernel
theorem d_Mo_with_27 : decode b_Mo_with 27 = .ok (.ishl, 1) := by decide +kernel
theorem d_Mo_with_28 : decode b_Mo_with 28 = .ok (.ior, 1) := by decide +kernel
theorem d_Mo_with_29 : decode b_Mo_with 29 = .ok (.ireturn, 1) := by decide +kernel
theorem d_Mo_isOn_0 : decode b_Mo_isOn 0 = .ok (.aload_n 0, 1) := by decide +kernel
theorem d_Mo_isOn_1 : decode b_Mo_isOn 1 = .ok (.getfield 25, 3) := by decide +kernel
theorem d_Mo_isOn_4 : decode b_Mo_isOn 4 = .ok (.bipush 24, 2) := by decide +kernel
theorem d_Mo_isOn_6 : decode b_Mo_isOn 6 = .ok (.iload_n 1, 1) := by decide +kernel
theorem d_Mo_isOn_7 : decode b_Mo_isOn 7 = .ok (.imul, 1) := by decide +kernel
theorem d_Mo_isOn_8 : decode b_Mo_isOn 8 = .ok (.iload_n 2, 1) := by decide +kernel
theorem d_Mo_isOn_9 : decode b_Mo_isOn 9 = .ok (.invokestatic 148, 3) := by decide +kernel
theorem d_Mo_isOn_12 : decode b_Mo_isOn 12 = .ok (.iconst 1, 1) := by decide +kernel
theorem d_Mo_isOn_13 : decode b_Mo_isOn 13 = .ok (.if_icmp .ne 7, 3) := by decide +kernel
theorem d_Mo_isOn_16 : decode b_Mo_isOn 16 = .ok (.iconst 1, 1) := by decide +kernel
theorem d_Mo_isOn_17 : decode b_Mo_isOn 17 = .ok (.goto 4, 3) := by decide +kernel
theorem d_Mo_isOn_20 : decode b_Mo_isOn 20 = .ok (.iconst 0, 1) := by decide +kernel
theorem d_Mo_isOn_21 : decode b_Mo_isOn 21 = .ok (.ireturn, 1) := by decide +kernel
theorem d_Mo_known_0 : decode b_Mo_known 0 = .ok (.iconst 0, 1) := by decide +kernel
theorem d_Mo_known_1 : decode b_Mo_known 1 = .ok (.istore_n 3, 1) := by decide +kernel
theorem d_Mo_known_2 : decode b_Mo_known 2 = .ok (.iload_n 3, 1) := by decide +kernel
theorem d_Mo_known_3 : decode b_Mo_known 3 = .ok (.aload_n 0, 1) := by decide +kernel
theorem d_Mo_known_4 : decode b_Mo_known 4 = .ok (.getfield 123, 3) := by decide +kernel
theorem d_Mo_known_7 : decode b_Mo_known 7 = .ok (.if_icmp .ge 31, 3) := by decide +kernel
theorem d_Mo_known_10 : decode b_Mo_known 10 = .ok (.aload_n 0, 1) := by decide +kernel
theorem d_Mo_known_11 : decode b_Mo_known 11 = .ok (.getfield 39, 3) := by decide +kernel
theorem d_Mo_known_14 : decode b_Mo_known 14 = .ok (.iload_n 3, 1) := by decide +kernel
theorem d_Mo_known_15 : decode b_Mo_known 15 = .ok (.iaload, 1) := by decide +kernel
theorem d_Mo_known_16 : decode b_Mo_known 16 = .ok (.iload_n 1, 1) := by decide +kernel
theorem d_Mo_known_17 : decode b_Mo_known 17 = .ok (.if_icmp .ne 15, 3) := by decide +kernel
theorem d_Mo_known_20 : decode b_Mo_known 20 = .ok (.aload_n 0, 1) := by decide +kernel
theorem d_Mo_known_21 : decode b_Mo_known 21 = .ok (.getfield 42, 3) := by decide +kernel
theorem d_Mo_known_24 : decode b_Mo_known 24 = .ok (.iload_n 3, 1) := by decide +kernel
theorem d_Mo_known_25 : decode b_Mo_known 25 = .ok (.iaload, 1) := by decide +kernel
theorem d_Mo_known_26 : decode b_Mo_known 26 = .ok (.iload_n 2, 1) := by decide +kernel
theorem d_Mo_known_27 : decode b_Mo_known 27 = .ok (.if_icmp .ne 5, 3) := by decide +kernel
theorem d_Mo_known_30 : decode b_Mo_known 30 = .ok (.iconst 1, 1) := by decide +kernel
theorem d_Mo_known_31 : decode b_Mo_known 31 = .ok (.ireturn, 1) := by decide +kernel
theorem d_Mo_known_32 : decode b_Mo_known 32 = .ok (.iinc 3 1, 3) := by decide +kernel
theorem d_Mo_known_35 : decode b_Mo_known 35 = .ok (.goto (-33), 3) := by decide +kernel
theorem d_Mo_known_38 : decode b_Mo_known 38 = .ok (.iconst 0, 1) := by decide +kernel
theorem d_Mo_known_39 : decode b_Mo_known 39 = .ok (.ireturn, 1) := by decide +kernel
theorem d_Mo_isTrue_0 : decode b_Mo_isTrue 0 = .ok (.iconst 0, 1) := by decide +kernel
theorem d_Mo_isTrue_1 : decode b_Mo_isTrue 1 = .ok (.istore_n 1, 1) := by decide +kernel
theorem d_Mo_isTrue_2 : decode b_Mo_isTrue 2 = .ok (.iload_n 1, 1) := by decide +kernel
theorem d_Mo_isTrue_3 : decode b_Mo_isTrue 3 = .ok (.aload_n 0, 1) := by decide +kernel
theorem d_Mo_isTrue_4 : decode b_Mo_isTrue 4 = .ok (.getfield 82, 3) := by decide +kernel
theorem d_Mo_isTrue_7 : decode b_Mo_isTrue 7 = .ok (.if_icmp .ge 16, 3) := by decide +kernel
theorem d_Mo_isTrue_10 : decode b_Mo_isTrue 10 = .ok (.aload_n 0, 1) := by decide +kernel
theorem d_Mo_isTrue_11 : decode b_Mo_isTrue 11 = .ok (.getfield 66, 3) := by decide +kernel
theorem d_Mo_isTrue_14 : decode b_Mo_isTrue 14 = .ok (.iload_n 1, 1) := by decide +kernel
theorem d_Mo_isTrue_15 : decode b_Mo_isTrue 15 = .ok (.iconst 1, 1) := by decide +kernel
theorem d_Mo_isTrue_16 : decode b_Mo_isTrue 16 = .ok (.bastore, 1) := by decide +kernel
theorem d_Mo_isTrue_17 : decode b_Mo_isTrue 17 = .ok (.iinc 1 1, 3) := by decide +kernel
theorem d_Mo_isTrue_20 : decode b_Mo_isTrue 20 = .ok (.goto (-18), 3) := by decide +kernel
theorem d_Mo_isTrue_23 : decode b_Mo_isTrue 23 = .ok (.aload_n 0, 1) := by decide +kernel
theorem d_Mo_isTrue_24 : decode b_Mo_isTrue 24 = .ok (.aload_n 0, 1) := by decide +kernel
theorem d_Mo_isTrue_25 : decode b_Mo_isTrue 25 = .ok (.getfield 51, 3) := by decide +kernel
theorem d_Mo_isTrue_28 : decode b_Mo_isTrue 28 = .ok (.invokevirtual 183, 3) := by decide +kernel
theorem d_Mo_isTrue_31 : decode b_Mo_isTrue 31 = .ok (.aload_n 0, 1) := by decide +kernel
theorem d_Mo_isTrue_32 : decode b_Mo_isTrue 32 = .ok (.getfield 51, 3) := by decide +kernel
theorem d_Mo_isTrue_35 : decode b_Mo_isTrue 35 = .ok (.iconst 1, 1) := by decide +kernel
theorem d_Mo_isTrue_36 : decode b_Mo_isTrue 36 = .ok (.isub, 1) := by decide +kernel
theorem d_Mo_isTrue_37 : decode b_Mo_isTrue 37 = .ok (.istore_n 1, 1) := by decide +kernel
theorem d_Mo_isTrue_38 : decode b_Mo_isTrue 38 = .ok (.iload_n 1, 1) := by decide +kernel
theorem d_Mo_isTrue_39 : decode b_Mo_isTrue 39 = .ok (.ifCond .lt 24, 3) := by decide +kernel
theorem d_Mo_isTrue_42 : decode b_Mo_isTrue 42 = .ok (.aload_n 0, 1) := by decide +kernel
theorem d_Mo_isTrue_43 : decode b_Mo_isTrue 43 = .ok (.aload_n 0, 1) := by decide +kernel
theorem d_Mo_isTrue_44 : decode b_Mo_isTrue 44 = .ok (.getfield 54, 3) := by decide +kernel
theorem d_Mo_isTrue_47 : decode b_Mo_isTrue 47 = .ok (.iload_n 1, 1) := by decide +kernel
theorem d_Mo_isTrue_48 : decode b_Mo_isTrue 48 = .ok (.iaload, 1) := by decide +kernel
theorem d_Mo_isTrue_49 : decode b_Mo_isTrue 49 = .ok (.invokevirtual 187, 3) := by decide +kernel
theorem d_Mo_isTrue_52 : decode b_Mo_isTrue 52 = .ok (.aload_n 0, 1) := by decide +kernel
theorem d_Mo_isTrue_53 : decode b_Mo_isTrue 53 = .ok (.iload_n 1, 1) := by decide +kernel
theorem d_Mo_isTrue_54 : decode b_Mo_isTrue 54 = .ok (.invokevirtual 183, 3) := by decide +kernel
theorem d_Mo_isTrue_57 : decode b_Mo_isTrue 57 = .ok (.iinc 1 (-1), 3) := by decide +kernel
theorem d_Mo_isTrue_60 : decode b_Mo_isTrue 60 = .ok (.goto (-22), 3) := by decide +kernel
theorem d_Mo_isTrue_63 : decode b_Mo_isTrue 63 = .ok (.aload_n 0, 1) := by decide +kernel
theorem d_Mo_isTrue_64 : decode b_Mo_isTrue 64 = .ok (.iconst 0, 1) := by decide +kernel
theorem d_Mo_isTrue_65 : decode b_Mo_isTrue 65 = .ok (.iconst 0, 1) := by decide +kernel
theorem d_Mo_isTrue_66 : decode b_Mo_isTrue 66 = .ok (.invokevirtual 180, 3) := by decide +kernel
theorem d_Mo_isTrue_69 : decode b_Mo_isTrue 69 = .ok (.ifCond .ne 5, 3) := by decide +kernel
theorem d_Mo_isTrue_72 : decode b_Mo_isTrue 72 = .ok (.iconst 0, 1) := by decide +kernel
theorem d_Mo_isTrue_73 : decode b_Mo_isTrue 73 = .ok (.ireturn, 1) := by decide +kernel
theorem d_Mo_isTrue_74 : decode b_Mo_isTrue 74 = .ok (.iconst 0, 1) := by decide +kernel
theorem d_Mo_isTrue_75 : decode b_Mo_isTrue 75 = .ok (.istore_n 1, 1) := by decide +kernel
theorem d_Mo_isTrue_76 : decode b_Mo_isTrue 76 = .ok (.aload_n 0, 1) := by decide +kernel
theorem d_Mo_isTrue_77 : decode b_Mo_isTrue 77 = .ok (.iconst 0, 1) := by decide +kernel
theorem d_Mo_isTrue_78 : decode b_Mo_isTrue 78 = .ok (.putfield 126, 3) := by decide +kernel
theorem d_Mo_isTrue_81 : decode b_Mo_isTrue 81 = .ok (.iconst 0, 1) := by decide +kernel
theorem d_Mo_isTrue_82 : decode b_Mo_isTrue 82 = .ok (.istore_n 2, 1) := by decide +kernel
theorem d_Mo_isTrue_83 : decode b_Mo_isTrue 83 = .ok (.iload_n 2, 1) := by decide +kernel
theorem d_Mo_isTrue_84 : decode b_Mo_isTrue 84 = .ok (.aload_n 0, 1) := by decide +kernel
theorem d_Mo_isTrue_85 : decode b_Mo_isTrue 85 = .ok (.getfield 51, 3) := by decide +kernel
theorem d_Mo_isTrue_88 : decode b_Mo_isTrue 88 = .ok (.if_icmp .ge 112, 3) := by decide +kernel
theorem d_Mo_isTrue_91 : decode b_Mo_isTrue 91 = .ok (.aload_n 0, 1) := by decide +kernel
theorem d_Mo_isTrue_92 : decode b_Mo_isTrue 92 = .ok (.getfield 54, 3) := by decide +kernel
theorem d_Mo_isTrue_95 : decode b_Mo_isTrue 95 = .ok (.iload_n 2, 1) := by decide +kernel
theorem d_Mo_isTrue_96 : decode b_Mo_isTrue 96 = .ok (.iaload, 1) := by decide +kernel
theorem d_Mo_isTrue_97 : decode b_Mo_isTrue 97 = .ok (.istore_n 3, 1) := by decide +kernel
theorem d_Mo_isTrue_98 : decode b_Mo_isTrue 98 = .ok (.aload_n 0, 1) := by decide +kernel
theorem d_Mo_isTrue_99 : decode b_Mo_isTrue 99 = .ok (.getfield 19, 3) := by decide +kernel
theorem d_Mo_isTrue_102 : decode b_Mo_isTrue 102 = .ok (.iload_n 3, 1) := by decide +kernel
theorem d_Mo_isTrue_103 : decode b_Mo_isTrue 103 = .ok (.iaload, 1) := by decide +kernel
theorem d_Mo_isTrue_104 : decode b_Mo_isTrue 104 = .ok (.ifCond .ne 10, 3) := by decide +kernel
theorem d_Mo_isTrue_107 : decode b_Mo_isTrue 107 = .ok (.aload_n 0, 1) := by decide +kernel
theorem d_Mo_isTrue_108 : decode b_Mo_isTrue 108 = .ok (.iload_n 3, 1) := by decide +kernel
theorem d_Mo_isTrue_109 : decode b_Mo_isTrue 109 = .ok (.iload_n 1, 1) := by decide +kernel
theorem d_Mo_isTrue_110 : decode b_Mo_isTrue 110 = .ok (.invokevirtual 161, 3) := by decide +kernel
theorem d_Mo_isTrue_113 : decode b_Mo_isTrue 113 = .ok (.istore_n 1, 1) := by decide +kernel
theorem d_Mo_isTrue_114 : decode b_Mo_isTrue 114 = .ok (.aload_n 0, 1) := by decide +kernel
theorem d_Mo_isTrue_115 : decode b_Mo_isTrue 115 = .ok (.getfield 19, 3) := by decide +kernel
theorem d_Mo_isTrue_118 : decode b_Mo_isTrue 118 = .ok (.iload_n 3, 1) := by decide +kernel
theorem d_Mo_isTrue_119 : decode b_Mo_isTrue 119 = .ok (.iaload, 1) := by decide +kernel
theorem d_Mo_isTrue_120 : decode b_Mo_isTrue 120 = .ok (.iconst 1, 1) := by decide +kernel
theorem d_Mo_isTrue_121 : decode b_Mo_isTrue 121 = .ok (.if_icmp .eq 6, 3) := by decide +kernel
theorem d_Mo_isTrue_124 : decode b_Mo_isTrue 124 = .ok (.goto 70, 3) := by decide +kernel
theorem d_Mo_isTrue_127 : decode b_Mo_isTrue 127 = .ok (.iconst 0, 1) := by decide +kernel
theorem d_Mo_isTrue_128 : decode b_Mo_isTrue 128 = .ok (.istore 4, 2) := by decide +kernel
theorem d_Mo_isTrue_130 : decode b_Mo_isTrue 130 = .ok (.aload_n 0, 1) := by decide +kernel
theorem d_Mo_isTrue_131 : decode b_Mo_isTrue 131 = .ok (.iload_n 2, 1) := by decide +kernel
theorem d_Mo_isTrue_132 : decode b_Mo_isTrue 132 = .ok (.iconst 1, 1) := by decide +kernel
theorem d_Mo_isTrue_133 : decode b_Mo_isTrue 133 = .ok (.iadd, 1) := by decide +kernel
theorem d_Mo_isTrue_134 : decode b_Mo_isTrue 134 = .ok (.aload_n 0, 1) := by decide +kernel
theorem d_Mo_isTrue_135 : decode b_Mo_isTrue 135 = .ok (.iload_n 1, 1) := by decide +kernel
theorem d_Mo_isTrue_136 : decode b_Mo_isTrue 136 = .ok (.aload_n 0, 1) := by decide +kernel
theorem d_Mo_isTrue_137 : decode b_Mo_isTrue 137 = .ok (.getfield 22, 3) := by decide +kernel
theorem d_Mo_isTrue_140 : decode b_Mo_isTrue 140 = .ok (.iload_n 3, 1) := by decide +kernel
theorem d_Mo_isTrue_141 : decode b_Mo_isTrue 141 = .ok (.iaload, 1) := by decide +kernel
theorem d_Mo_isTrue_142 : decode b_Mo_isTrue 142 = .ok (.iload 4, 2) := by decide +kernel
theorem d_Mo_isTrue_144 : decode b_Mo_isTrue 144 = .ok (.invokevirtual 152, 3) := by decide +kernel
theorem d_Mo_isTrue_147 : decode b_Mo_isTrue 147 = .ok (.invokevirtual 180, 3) := by decide +kernel
theorem d_Mo_isTrue_150 : decode b_Mo_isTrue 150 = .ok (.ifCond .ne 9, 3) := by decide +kernel
theorem d_Mo_isTrue_153 : decode b_Mo_isTrue 153 = .ok (.iinc 4 1, 3) := by decide +kernel
theorem d_Mo_isTrue_156 : decode b_Mo_isTrue 156 = .ok (.goto (-26), 3) := by decide +kernel
theorem d_Mo_isTrue_159 : decode b_Mo_isTrue 159 = .ok (.aload_n 0, 1) := by decide +kernel
theorem d_Mo_isTrue_160 : decode b_Mo_isTrue 160 = .ok (.iload_n 1, 1) := by decide +kernel
theorem d_Mo_isTrue_161 : decode b_Mo_isTrue 161 = .ok (.aload_n 0, 1) := by decide +kernel
theorem d_Mo_isTrue_162 : decode b_Mo_isTrue 162 = .ok (.getfield 22, 3) := by decide +kernel
theorem d_Mo_isTrue_165 : decode b_Mo_isTrue 165 = .ok (.iload_n 3, 1) := by decide +kernel
theorem d_Mo_isTrue_166 : decode b_Mo_isTrue 166 = .ok (.iaload, 1) := by decide +kernel
theorem d_Mo_isTrue_167 : decode b_Mo_isTrue 167 = .ok (.iload 4, 2) := by decide +kernel
theorem d_Mo_isTrue_169 : decode b_Mo_isTrue 169 = .ok (.invokevirtual 152, 3) := by decide +kernel
theorem d_Mo_isTrue_172 : decode b_Mo_isTrue 172 = .ok (.istore_n 1, 1) := by decide +kernel
theorem d_Mo_isTrue_173 : decode b_Mo_isTrue 173 = .ok (.aload_n 0, 1) := by decide +kernel
theorem d_Mo_isTrue_174 : decode b_Mo_isTrue 174 = .ok (.getfield 57, 3) := by decide +kernel
theorem d_Mo_isTrue_177 : decode b_Mo_isTrue 177 = .ok (.aload_n 0, 1) := by decide +kernel
theorem d_Mo_isTrue_178 : decode b_Mo_isTrue 178 = .ok (.getfield 126, 3) := by decide +kernel
theorem d_Mo_isTrue_181 : decode b_Mo_isTrue 181 = .ok (.iload 4, 2) := by decide +kernel
theorem d_Mo_isTrue_183 : decode b_Mo_isTrue 183 = .ok (.iastore, 1) := by decide +kernel
theorem d_Mo_isTrue_184 : decode b_Mo_isTrue 184 = .ok (.aload_n 0, 1) := by decide +kernel
theorem d_Mo_isTrue_185 : decode b_Mo_isTrue 185 = .ok (.dup, 1) := by decide +kernel
theorem d_Mo_isTrue_186 : decode b_Mo_isTrue 186 = .ok (.getfield 126, 3) := by decide +kernel
theorem d_Mo_isTrue_189 : decode b_Mo_isTrue 189 = .ok (.iconst 1, 1) := by decide +kernel
theorem d_Mo_isTrue_190 : decode b_Mo_isTrue 190 = .ok (.iadd, 1) := by decide +kernel
theorem d_Mo_isTrue_191 : decode b_Mo_isTrue 191 = .ok (.putfield 126, 3) := by decide +kernel
theorem d_Mo_isTrue_194 : decode b_Mo_isTrue 194 = .ok (.iinc 2 1, 3) := by decide +kernel
theorem d_Mo_isTrue_197 : decode b_Mo_isTrue 197 = .ok (.goto (-114), 3) := by decide +kernel
theorem d_Mo_isTrue_200 : decode b_Mo_isTrue 200 = .ok (.iconst 1, 1) := by decide +kernel
theorem d_Mo_isTrue_201 : decode b_Mo_isTrue 201 = .ok (.ireturn, 1) := by decide +kernel
theorem d_Mo_store_0 : decode b_Mo_store 0 = .ok (.bipush 8, 2) := by decide +kernel
theorem d_Mo_store_2 : decode b_Mo_store 2 = .ok (.iload_n 1, 1) := by decide +kernel
theorem d_Mo_store_3 : decode b_Mo_store 3 = .ok (.imul, 1) := by decide +kernel
theorem d_Mo_store_4 : decode b_Mo_store 4 = .ok (.istore_n 2, 1) := by decide +kernel
theorem d_Mo_store_5 : decode b_Mo_store 5 = .ok (.iload_n 2, 1) := by decide +kernel
theorem d_Mo_store_6 : decode b_Mo_store 6 = .ok (.bipush 8, 2) := by decide +kernel
theorem d_Mo_store_8 : decode b_Mo_store 8 = .ok (.iload_n 1, 1) := by decide +kernel
theorem d_Mo_store_9 : decode b_Mo_store 9 = .ok (.imul, 1) := by decide +kernel
theorem d_Mo_store_10 : decode b_Mo_store 10 = .ok (.bipush 8, 2) := by decide +kernel
theorem d_Mo_store_12 : decode b_Mo_store 12 = .ok (.iadd, 1) := by decide +kernel
theorem d_Mo_store_13 : decode b_Mo_store 13 = .ok (.if_icmp .ge 16, 3) := by decide +kernel
theorem d_Mo_store_16 : decode b_Mo_store 16 = .ok (.aload_n 0, 1) := by decide +kernel
theorem d_Mo_store_17 : decode b_Mo_store 17 = .ok (.getfield 63, 3) := by decide +kernel
theorem d_Mo_store_20 : decode b_Mo_store 20 = .ok (.iload_n 2, 1) := by decide +kernel
theorem d_Mo_store_21 : decode b_Mo_store 21 = .ok (.lconst 0, 1) := by decide +kernel
theorem d_Mo_store_22 : decode b_Mo_store 22 = .ok (.lastore, 1) := by decide +kernel
theorem d_Mo_store_23 : decode b_Mo_store 23 = .ok (.iinc 2 1, 3) := by decide +kernel
theorem d_Mo_store_26 : decode b_Mo_store 26 = .ok (.goto (-21), 3) := by decide +kernel
theorem d_Mo_store_29 : decode b_Mo_store 29 = .ok (.iconst 0, 1) := by decide +kernel
theorem d_Mo_store_30 : decode b_Mo_store 30 = .ok (.istore_n 2, 1) := by decide +kernel
theorem d_Mo_store_31 : decode b_Mo_store 31 = .ok (.iload_n 2, 1) := by decide +kernel
theorem d_Mo_store_32 : decode b_Mo_store 32 = .ok (.aload_n 0, 1) := by decide +kernel
theorem d_Mo_store_33 : decode b_Mo_store 33 = .ok (.getfield 82, 3) := by decide +kernel
theorem d_Mo_store_36 : decode b_Mo_store 36 = .ok (.if_icmp .ge 41, 3) := by decide +kernel
theorem d_Mo_store_39 : decode b_Mo_store 39 = .ok (.aload_n 0, 1) := by decide +kernel
theorem d_Mo_store_40 : decode b_Mo_store 40 = .ok (.getfield 66, 3) := by decide +kernel
theorem d_Mo_store_43 : decode b_Mo_store 43 = .ok (.iload_n 2, 1) := by decide +kernel
theorem d_Mo_store_44 : decode b_Mo_store 44 = .ok (.baload, 1) := by decide +kernel
theorem d_Mo_store_45 : decode b_Mo_store 45 = .ok (.ifCond .eq 26, 3) := by decide +kernel
theorem d_Mo_store_48 : decode b_Mo_store 48 = .ok (.aload_n 0, 1) := by decide +kernel
theorem d_Mo_store_49 : decode b_Mo_store 49 = .ok (.getfield 63, 3) := by decide +kernel
theorem d_Mo_store_52 : decode b_Mo_store 52 = .ok (.bipush 8, 2) := by decide +kernel
theorem d_Mo_store_54 : decode b_Mo_store 54 = .ok (.iload_n 1, 1) := by decide +kernel
theorem d_Mo_store_55 : decode b_Mo_store 55 = .ok (.imul, 1) := by decide +kernel
theorem d_Mo_store_56 : decode b_Mo_store 56 = .ok (.iload_n 2, 1) := by decide +kernel
theorem d_Mo_store_57 : decode b_Mo_store 57 = .ok (.bipush 64, 2) := by decide +kernel
theorem d_Mo_store_59 : decode b_Mo_store 59 = .ok (.idiv, 1) := by decide +kernel
theorem d_Mo_store_60 : decode b_Mo_store 60 = .ok (.iadd, 1) := by decide +kernel
theorem d_Mo_store_61 : decode b_Mo_store 61 = .ok (.dup2, 1) := by decide +kernel
theorem d_Mo_store_62 : decode b_Mo_store 62 = .ok (.laload, 1) := by decide +kernel
theorem d_Mo_store_63 : decode b_Mo_store 63 = .ok (.lconst 1, 1) := by decide +kernel
theorem d_Mo_store_64 : decode b_Mo_store 64 = .ok (.iload_n 2, 1) := by decide +kernel
theorem d_Mo_store_65 : decode b_Mo_store 65 = .ok (.bipush 64, 2) := by decide +kernel
theorem d_Mo_store_67 : decode b_Mo_store 67 = .ok (.irem, 1) := by decide +kernel
theorem d_Mo_store_68 : decode b_Mo_store 68 = .ok (.lshl, 1) := by decide +kernel
theorem d_Mo_store_69 : decode b_Mo_store 69 = .ok (.lor, 1) := by decide +kernel
theorem d_Mo_store_70 : decode b_Mo_store 70 = .ok (.lastore, 1) := by decide +kernel
theorem d_Mo_store_71 : decode b_Mo_store 71 = .ok (.iinc 2 1, 3) := by decide +kernel
theorem d_Mo_store_74 : decode b_Mo_store 74 = .ok (.goto (-43), 3) := by decide +kernel
theorem d_Mo_store_77 : decode b_Mo_store 77 = .ok (.return_, 1) := by decide +kernel
theorem d_Mo_before_0 : decode b_Mo_before 0 = .ok (.iconst 0, 1) := by decide +kernel
theorem d_Mo_before_1 : decode b_Mo_before 1 = .ok (.istore_n 2, 1) := by decide +kernel
theorem d_Mo_before_2 : decode b_Mo_before 2 = .ok (.iload_n 2, 1) := by decide +kernel
theorem d_Mo_before_3 : decode b_Mo_before 3 = .ok (.aload_n 0, 1) := by decide +kernel
theorem d_Mo_before_4 : decode b_Mo_before 4 = .ok (.getfield 82, 3) := by decide +kernel
theorem d_Mo_before_7 : decode b_Mo_before 7 = .ok (.if_icmp .ge 29, 3) := by decide +kernel
theorem d_Mo_before_10 : decode b_Mo_before 10 = .ok (.aload_n 0, 1) := by decide +kernel
theorem d_Mo_before_11 : decode b_Mo_before 11 = .ok (.getfield 60, 3) := by decide +kernel
theorem d_Mo_before_14 : decode b_Mo_before 14 = .ok (.iload_n 2, 1) := by decide +kernel
theorem d_Mo_before_15 : decode b_Mo_before 15 = .ok (.aload_n 0, 1) := by decide +kernel
theorem d_Mo_before_16 : decode b_Mo_before 16 = .ok (.iload_n 1, 1) := by decide +kernel
theorem d_Mo_before_17 : decode b_Mo_before 17 = .ok (.iload_n 2, 1) := by decide +kernel
theorem d_Mo_before_18 : decode b_Mo_before 18 = .ok (.invokevirtual 177, 3) := by decide +kernel
theorem d_Mo_before_21 : decode b_Mo_before 21 = .ok (.ifCond .eq 7, 3) := by decide +kernel
theorem d_Mo_before_24 : decode b_Mo_before 24 = .ok (.iconst 1, 1) := by decide +kernel
theorem d_Mo_before_25 : decode b_Mo_before 25 = .ok (.goto 4, 3) := by decide +kernel
theorem d_Mo_before_28 : decode b_Mo_before 28 = .ok (.iconst 0, 1) := by decide +kernel
theorem d_Mo_before_29 : decode b_Mo_before 29 = .ok (.iastore, 1) := by decide +kernel
theorem d_Mo_before_30 : decode b_Mo_before 30 = .ok (.iinc 2 1, 3) := by decide +kernel
theorem d_Mo_before_33 : decode b_Mo_before 33 = .ok (.goto (-31), 3) := by decide +kernel
theorem d_Mo_before_36 : decode b_Mo_before 36 = .ok (.iconst 0, 1) := by decide +kernel
theorem d_Mo_before_37 : decode b_Mo_before 37 = .ok (.istore_n 2, 1) := by decide +kernel
theorem d_Mo_before_38 : decode b_Mo_before 38 = .ok (.iload_n 2, 1) := by decide +kernel
theorem d_Mo_before_39 : decode b_Mo_before 39 = .ok (.aload_n 0, 1) := by decide +kernel
theorem d_Mo_before_40 : decode b_Mo_before 40 = .ok (.getfield 82, 3) := by decide +kernel
theorem d_Mo_before_43 : decode b_Mo_before 43 = .ok (.if_icmp .ge 30, 3) := by decide +kernel
theorem d_Mo_before_46 : decode b_Mo_before 46 = .ok (.aload_n 0, 1) := by decide +kernel
theorem d_Mo_before_47 : decode b_Mo_before 47 = .ok (.getfield 66, 3) := by decide +kernel
theorem d_Mo_before_50 : decode b_Mo_before 50 = .ok (.iload_n 2, 1) := by decide +kernel
theorem d_Mo_before_51 : decode b_Mo_before 51 = .ok (.aload_n 0, 1) := by decide +kernel
theorem d_Mo_before_52 : decode b_Mo_before 52 = .ok (.getfield 60, 3) := by decide +kernel
theorem d_Mo_before_55 : decode b_Mo_before 55 = .ok (.iload_n 2, 1) := by decide +kernel
theorem d_Mo_before_56 : decode b_Mo_before 56 = .ok (.iaload, 1) := by decide +kernel
theorem d_Mo_before_57 : decode b_Mo_before 57 = .ok (.iconst 1, 1) := by decide +kernel
theorem d_Mo_before_58 : decode b_Mo_before 58 = .ok (.if_icmp .ne 7, 3) := by decide +kernel
theorem d_Mo_before_61 : decode b_Mo_before 61 = .ok (.iconst 1, 1) := by decide +kernel
theorem d_Mo_before_62 : decode b_Mo_before 62 = .ok (.goto 4, 3) := by decide +kernel
theorem d_Mo_before_65 : decode b_Mo_before 65 = .ok (.iconst 0, 1) := by decide +kernel
theorem d_Mo_before_66 : decode b_Mo_before 66 = .ok (.bastore, 1) := by decide +kernel
theorem d_Mo_before_67 : decode b_Mo_before 67 = .ok (.iinc 2 1, 3) := by decide +kernel
theorem d_Mo_before_70 : decode b_Mo_before 70 = .ok (.goto (-32), 3) := by decide +kernel
theorem d_Mo_before_73 : decode b_Mo_before 73 = .ok (.return_, 1) := by decide +kernel
theorem d_Mo_leadsIn_0 : decode b_Mo_leadsIn 0 = .ok (.aload_n 0, 1) := by decide +kernel
theorem d_Mo_leadsIn_1 : decode b_Mo_leadsIn 1 = .ok (.getfield 19, 3) := by decide +kernel
theorem d_Mo_leadsIn_4 : decode b_Mo_leadsIn 4 = .ok (.iload_n 1, 1) := by decide +kernel
theorem d_Mo_leadsIn_5 : decode b_Mo_leadsIn 5 = .ok (.iaload, 1) := by decide +kernel
theorem d_Mo_leadsIn_6 : decode b_Mo_leadsIn 6 = .ok (.ifCond .ne 15, 3) := by decide +kernel
theorem d_Mo_leadsIn_9 : decode b_Mo_leadsIn 9 = .ok (.aload_n 0, 1) := by decide +kernel
theorem d_Mo_leadsIn_10 : decode b_Mo_leadsIn 10 = .ok (.getfield 66, 3) := by decide +kernel
theorem d_Mo_leadsIn_13 : decode b_Mo_leadsIn 13 = .ok (.aload_n 0, 1) := by decide +kernel
theorem d_Mo_leadsIn_14 : decode b_Mo_leadsIn 14 = .ok (.iload_n 1, 1) := by decide +kernel
theorem d_Mo_leadsIn_15 : decode b_Mo_leadsIn 15 = .ok (.iload_n 2, 1) := by decide +kernel
theorem d_Mo_leadsIn_16 : decode b_Mo_leadsIn 16 = .ok (.invokevirtual 161, 3) := by decide +kernel
theorem d_Mo_leadsIn_19 : decode b_Mo_leadsIn 19 = .ok (.baload, 1) := by decide +kernel
theorem d_Mo_leadsIn_20 : decode b_Mo_leadsIn 20 = .ok (.ireturn, 1) := by decide +kernel
theorem d_Mo_leadsIn_21 : decode b_Mo_leadsIn 21 = .ok (.aload_n 0, 1) := by decide +kernel
theorem d_Mo_leadsIn_22 : decode b_Mo_leadsIn 22 = .ok (.getfield 19, 3) := by decide +kernel
theorem d_Mo_leadsIn_25 : decode b_Mo_leadsIn 25 = .ok (.iload_n 1, 1) := by decide +kernel
theorem d_Mo_leadsIn_26 : decode b_Mo_leadsIn 26 = .ok (.iaload, 1) := by decide +kernel
theorem d_Mo_leadsIn_27 : decode b_Mo_leadsIn 27 = .ok (.iconst 2, 1) := by decide +kernel
theorem d_Mo_leadsIn_28 : decode b_Mo_leadsIn 28 = .ok (.if_icmp .ne 27, 3) := by decide +kernel
theorem d_Mo_leadsIn_31 : decode b_Mo_leadsIn 31 = .ok (.aload_n 0, 1) := by decide +kernel
theorem d_Mo_leadsIn_32 : decode b_Mo_leadsIn 32 = .ok (.iload_n 1, 1) := by decide +kernel
theorem d_Mo_leadsIn_33 : decode b_Mo_leadsIn 33 = .ok (.iload_n 2, 1) := by decide +kernel
theorem d_Mo_leadsIn_34 : decode b_Mo_leadsIn 34 = .ok (.invokevirtual 164, 3) := by decide +kernel
theorem d_Mo_leadsIn_37 : decode b_Mo_leadsIn 37 = .ok (.ifCond .eq 16, 3) := by decide +kernel
theorem d_Mo_leadsIn_40 : decode b_Mo_leadsIn 40 = .ok (.aload_n 0, 1) := by decide +kernel
theorem d_Mo_leadsIn_41 : decode b_Mo_leadsIn 41 = .ok (.getfield 66, 3) := by decide +kernel
theorem d_Mo_leadsIn_44 : decode b_Mo_leadsIn 44 = .ok (.iload_n 2, 1) := by decide +kernel
theorem d_Mo_leadsIn_45 : decode b_Mo_leadsIn 45 = .ok (.baload, 1) := by decide +kernel
theorem d_Mo_leadsIn_46 : decode b_Mo_leadsIn 46 = .ok (.ifCond .eq 7, 3) := by decide +kernel
theorem d_Mo_leadsIn_49 : decode b_Mo_leadsIn 49 = .ok (.iconst 1, 1) := by decide +kernel
theorem d_Mo_leadsIn_50 : decode b_Mo_leadsIn 50 = .ok (.goto 4, 3) := by decide +kernel
theorem d_Mo_leadsIn_53 : decode b_Mo_leadsIn 53 = .ok (.iconst 0, 1) := by decide +kernel
theorem d_Mo_leadsIn_54 : decode b_Mo_leadsIn 54 = .ok (.ireturn, 1) := by decide +kernel
theorem d_Mo_leadsIn_55 : decode b_Mo_leadsIn 55 = .ok (.iconst 0, 1) := by decide +kernel
theorem d_Mo_leadsIn_56 : decode b_Mo_leadsIn 56 = .ok (.istore_n 3, 1) := by decide +kernel
theorem d_Mo_leadsIn_57 : decode b_Mo_leadsIn 57 = .ok (.iconst 0, 1) := by decide +kernel
theorem d_Mo_leadsIn_58 : decode b_Mo_leadsIn 58 = .ok (.istore 4, 2) := by decide +kernel
theorem d_Mo_leadsIn_60 : decode b_Mo_leadsIn 60 = .ok (.iload 4, 2) := by decide +kernel
theorem d_Mo_leadsIn_62 : decode b_Mo_leadsIn 62 = .ok (.aload_n 0, 1) := by decide +kernel
theorem d_Mo_leadsIn_63 : decode b_Mo_leadsIn 63 = .ok (.getfield 79, 3) := by decide +kernel
theorem d_Mo_leadsIn_66 : decode b_Mo_leadsIn 66 = .ok (.if_icmp .gt 40, 3) := by decide +kernel
theorem d_Mo_leadsIn_69 : decode b_Mo_leadsIn 69 = .ok (.iload_n 3, 1) := by decide +kernel
theorem d_Mo_leadsIn_70 : decode b_Mo_leadsIn 70 = .ok (.ifCond .ne 24, 3) := by decide +kernel
theorem d_Mo_leadsIn_73 : decode b_Mo_leadsIn 73 = .ok (.aload_n 0, 1) := by decide +kernel
theorem d_Mo_leadsIn_74 : decode b_Mo_leadsIn 74 = .ok (.getfield 66, 3) := by decide +kernel
theorem d_Mo_leadsIn_77 : decode b_Mo_leadsIn 77 = .ok (.aload_n 0, 1) := by decide +kernel
theorem d_Mo_leadsIn_78 : decode b_Mo_leadsIn 78 = .ok (.iload_n 2, 1) := by decide +kernel
theorem d_Mo_leadsIn_79 : decode b_Mo_leadsIn 79 = .ok (.aload_n 0, 1) := by decide +kernel
theorem d_Mo_leadsIn_80 : decode b_Mo_leadsIn 80 = .ok (.getfield 22, 3) := by decide +kernel
theorem d_Mo_leadsIn_83 : decode b_Mo_leadsIn 83 = .ok (.iload_n 1, 1) := by decide +kernel
theorem d_Mo_leadsIn_84 : decode b_Mo_leadsIn 84 = .ok (.iaload, 1) := by decide +kernel
theorem d_Mo_leadsIn_85 : decode b_Mo_leadsIn 85 = .ok (.iload 4, 2) := by decide +kernel
theorem d_Mo_leadsIn_87 : decode b_Mo_leadsIn 87 = .ok (.invokevirtual 152, 3) := by decide +kernel
theorem d_Mo_leadsIn_90 : decode b_Mo_leadsIn 90 = .ok (.baload, 1) := by decide +kernel
theorem d_Mo_leadsIn_91 : decode b_Mo_leadsIn 91 = .ok (.ifCond .eq 7, 3) := by decide +kernel
theorem d_Mo_leadsIn_94 : decode b_Mo_leadsIn 94 = .ok (.iconst 1, 1) := by decide +kernel
theorem d_Mo_leadsIn_95 : decode b_Mo_leadsIn 95 = .ok (.goto 4, 3) := by decide +kernel
theorem d_Mo_leadsIn_98 : decode b_Mo_leadsIn 98 = .ok (.iconst 0, 1) := by decide +kernel
theorem d_Mo_leadsIn_99 : decode b_Mo_leadsIn 99 = .ok (.istore_n 3, 1) := by decide +kernel
theorem d_Mo_leadsIn_100 : decode b_Mo_leadsIn 100 = .ok (.iinc 4 1, 3) := by decide +kernel
theorem d_Mo_leadsIn_103 : decode b_Mo_leadsIn 103 = .ok (.goto (-43), 3) := by decide +kernel
theorem d_Mo_leadsIn_106 : decode b_Mo_leadsIn 106 = .ok (.iload_n 3, 1) := by decide +kernel
theorem d_Mo_leadsIn_107 : decode b_Mo_leadsIn 107 = .ok (.ireturn, 1) := by decide +kernel
theorem d_Mo_isIn_0 : decode b_Mo_isIn 0 = .ok (.aload_n 0, 1) := by decide +kernel
theorem d_Mo_isIn_1 : decode b_Mo_isIn 1 = .ok (.getfield 63, 3) := by decide +kernel
theorem d_Mo_isIn_4 : decode b_Mo_isIn 4 = .ok (.bipush 8, 2) := by decide +kernel
theorem d_Mo_isIn_6 : decode b_Mo_isIn 6 = .ok (.iload_n 1, 1) := by decide +kernel
theorem d_Mo_isIn_7 : decode b_Mo_isIn 7 = .ok (.imul, 1) := by decide +kernel
theorem d_Mo_isIn_8 : decode b_Mo_isIn 8 = .ok (.iload_n 2, 1) := by decide +kernel
theorem d_Mo_isIn_9 : decode b_Mo_isIn 9 = .ok (.invokestatic 148, 3) := by decide +kernel
theorem d_Mo_isIn_12 : decode b_Mo_isIn 12 = .ok (.iconst 1, 1) := by decide +kernel
theorem d_Mo_isIn_13 : decode b_Mo_isIn 13 = .ok (.if_icmp .ne 7, 3) := by decide +kernel
theorem d_Mo_isIn_16 : decode b_Mo_isIn 16 = .ok (.iconst 1, 1) := by decide +kernel
theorem d_Mo_isIn_17 : decode b_Mo_isIn 17 = .ok (.goto 4, 3) := by decide +kernel
theorem d_Mo_isIn_20 : decode b_Mo_isIn 20 = .ok (.iconst 0, 1) := by decide +kernel
theorem d_Mo_isIn_21 : decode b_Mo_isIn 21 = .ok (.ireturn, 1) := by decide +kernel
theorem d_Mo_refine_0 : decode b_Mo_refine 0 = .ok (.aload_n 0, 1) := by decide +kernel
theorem d_Mo_refine_1 : decode b_Mo_refine 1 = .ok (.iconst 0, 1) := by decide +kernel
theorem d_Mo_refine_2 : decode b_Mo_refine 2 = .ok (.putfield 190, 3) := by decide +kernel
theorem d_Mo_refine_5 : decode b_Mo_refine 5 = .ok (.aload_n 0, 1) := by decide +kernel
theorem d_Mo_refine_6 : decode b_Mo_refine 6 = .ok (.getfield 155, 3) := by decide +kernel
theorem d_Mo_refine_9 : decode b_Mo_refine 9 = .ok (.istore_n 1, 1) := by decide +kernel
theorem d_Mo_refine_10 : decode b_Mo_refine 10 = .ok (.aload_n 0, 1) := by decide +kernel
theorem d_Mo_refine_11 : decode b_Mo_refine 11 = .ok (.getfield 51, 3) := by decide +kernel
theorem d_Mo_refine_14 : decode b_Mo_refine 14 = .ok (.iconst 1, 1) := by decide +kernel
theorem d_Mo_refine_15 : decode b_Mo_refine 15 = .ok (.isub, 1) := by decide +kernel
theorem d_Mo_refine_16 : decode b_Mo_refine 16 = .ok (.istore_n 2, 1) := by decide +kernel
theorem d_Mo_refine_17 : decode b_Mo_refine 17 = .ok (.iload_n 2, 1) := by decide +kernel
theorem d_Mo_refine_18 : decode b_Mo_refine 18 = .ok (.ifCond .lt 50, 3) := by decide +kernel
theorem d_Mo_refine_21 : decode b_Mo_refine 21 = .ok (.aload_n 0, 1) := by decide +kernel
theorem d_Mo_refine_22 : decode b_Mo_refine 22 = .ok (.aload_n 0, 1) := by decide +kernel
theorem d_Mo_refine_23 : decode b_Mo_refine 23 = .ok (.getfield 54, 3) := by decide +kernel
theorem d_Mo_refine_26 : decode b_Mo_refine 26 = .ok (.iload_n 2, 1) := by decide +kernel
theorem d_Mo_refine_27 : decode b_Mo_refine 27 = .ok (.iaload, 1) := by decide +kernel
theorem d_Mo_refine_28 : decode b_Mo_refine 28 = .ok (.invokevirtual 203, 3) := by decide +kernel
theorem d_Mo_refine_31 : decode b_Mo_refine 31 = .ok (.iconst 0, 1) := by decide +kernel
theorem d_Mo_refine_32 : decode b_Mo_refine 32 = .ok (.istore_n 3, 1) := by decide +kernel
theorem d_Mo_refine_33 : decode b_Mo_refine 33 = .ok (.iload_n 3, 1) := by decide +kernel
theorem d_Mo_refine_34 : decode b_Mo_refine 34 = .ok (.aload_n 0, 1) := by decide +kernel
theorem d_Mo_refine_35 : decode b_Mo_refine 35 = .ok (.getfield 190, 3) := by decide +kernel
theorem d_Mo_refine_38 : decode b_Mo_refine 38 = .ok (.if_icmp .ge 24, 3) := by decide +kernel
theorem d_Mo_refine_41 : decode b_Mo_refine 41 = .ok (.aload_n 0, 1) := by decide +kernel
theorem d_Mo_refine_42 : decode b_Mo_refine 42 = .ok (.iload_n 3, 1) := by decide +kernel
theorem d_Mo_refine_43 : decode b_Mo_refine 43 = .ok (.invokevirtual 193, 3) := by decide +kernel
theorem d_Mo_refine_46 : decode b_Mo_refine 46 = .ok (.aload_n 0, 1) := by decide +kernel
theorem d_Mo_refine_47 : decode b_Mo_refine 47 = .ok (.invokevirtual 206, 3) := by decide +kernel
theorem d_Mo_refine_50 : decode b_Mo_refine 50 = .ok (.iconst 2, 1) := by decide +kernel
theorem d_Mo_refine_51 : decode b_Mo_refine 51 = .ok (.if_icmp .ne 5, 3) := by decide +kernel
theorem d_Mo_refine_54 : decode b_Mo_refine 54 = .ok (.iconst 3, 1) := by decide +kernel
theorem d_Mo_refine_55 : decode b_Mo_refine 55 = .ok (.ireturn, 1) := by decide +kernel
theorem d_Mo_refine_56 : decode b_Mo_refine 56 = .ok (.iinc 3 1, 3) := by decide +kernel
theorem d_Mo_refine_59 : decode b_Mo_refine 59 = .ok (.goto (-26), 3) := by decide +kernel
theorem d_Mo_refine_62 : decode b_Mo_refine 62 = .ok (.iinc 2 (-1), 3) := by decide +kernel
theorem d_Mo_refine_65 : decode b_Mo_refine 65 = .ok (.goto (-48), 3) := by decide +kernel
theorem d_Mo_refine_68 : decode b_Mo_refine 68 = .ok (.iconst 0, 1) := by decide +kernel
theorem d_Mo_refine_69 : decode b_Mo_refine 69 = .ok (.istore_n 2, 1) := by decide +kernel
theorem d_Mo_refine_70 : decode b_Mo_refine 70 = .ok (.iload_n 2, 1) := by decide +kernel
theorem d_Mo_refine_71 : decode b_Mo_refine 71 = .ok (.iconst 3, 1) := by decide +kernel
theorem d_Mo_refine_72 : decode b_Mo_refine 72 = .ok (.if_icmp .ge 96, 3) := by decide +kernel
theorem d_Mo_refine_75 : decode b_Mo_refine 75 = .ok (.aload_n 0, 1) := by decide +kernel
theorem d_Mo_refine_76 : decode b_Mo_refine 76 = .ok (.getfield 155, 3) := by decide +kernel
theorem d_Mo_refine_79 : decode b_Mo_refine 79 = .ok (.iload_n 1, 1) := by decide +kernel
theorem d_Mo_refine_80 : decode b_Mo_refine 80 = .ok (.if_icmp .ne 88, 3) := by decide +kernel
theorem d_Mo_refine_83 : decode b_Mo_refine 83 = .ok (.iconst 0, 1) := by decide +kernel
theorem d_Mo_refine_84 : decode b_Mo_refine 84 = .ok (.istore_n 3, 1) := by decide +kernel
theorem d_Mo_refine_85 : decode b_Mo_refine 85 = .ok (.iload_n 3, 1) := by decide +kernel
theorem d_Mo_refine_86 : decode b_Mo_refine 86 = .ok (.aload_n 0, 1) := by decide +kernel
theorem d_Mo_refine_87 : decode b_Mo_refine 87 = .ok (.getfield 76, 3) := by decide +kernel
theorem d_Mo_refine_90 : decode b_Mo_refine 90 = .ok (.if_icmp .ge 72, 3) := by decide +kernel
theorem d_Mo_refine_93 : decode b_Mo_refine 93 = .ok (.aload_n 0, 1) := by decide +kernel
theorem d_Mo_refine_94 : decode b_Mo_refine 94 = .ok (.getfield 155, 3) := by decide +kernel
theorem d_Mo_refine_97 : decode b_Mo_refine 97 = .ok (.iload_n 1, 1) := by decide +kernel
theorem d_Mo_refine_98 : decode b_Mo_refine 98 = .ok (.if_icmp .ne 64, 3) := by decide +kernel
theorem d_Mo_refine_101 : decode b_Mo_refine 101 = .ok (.iconst 0, 1) := by decide +kernel
theorem d_Mo_refine_102 : decode b_Mo_refine 102 = .ok (.istore 4, 2) := by decide +kernel
theorem d_Mo_refine_104 : decode b_Mo_refine 104 = .ok (.iload 4, 2) := by decide +kernel
theorem d_Mo_refine_106 : decode b_Mo_refine 106 = .ok (.aload_n 0, 1) := by decide +kernel
theorem d_Mo_refine_107 : decode b_Mo_refine 107 = .ok (.getfield 82, 3) := by decide +kernel
theorem d_Mo_refine_110 : decode b_Mo_refine 110 = .ok (.if_icmp .ge 36, 3) := by decide +kernel
theorem d_Mo_refine_113 : decode b_Mo_refine 113 = .ok (.aload_n 0, 1) := by decide +kernel
theorem d_Mo_refine_114 : decode b_Mo_refine 114 = .ok (.getfield 66, 3) := by decide +kernel
theorem d_Mo_refine_117 : decode b_Mo_refine 117 = .ok (.iload 4, 2) := by decide +kernel
theorem d_Mo_refine_119 : decode b_Mo_refine 119 = .ok (.aload_n 0, 1) := by decide +kernel
theorem d_Mo_refine_120 : decode b_Mo_refine 120 = .ok (.iload 4, 2) := by decide +kernel
theorem d_Mo_refine_122 : decode b_Mo_refine 122 = .ok (.iload_n 2, 1) := by decide +kernel
theorem d_Mo_refine_123 : decode b_Mo_refine 123 = .ok (.invokevirtual 108, 3) := by decide +kernel
theorem d_Mo_refine_126 : decode b_Mo_refine 126 = .ok (.iload_n 3, 1) := by decide +kernel
theorem d_Mo_refine_127 : decode b_Mo_refine 127 = .ok (.ishr, 1) := by decide +kernel
theorem d_Mo_refine_128 : decode b_Mo_refine 128 = .ok (.iconst 1, 1) := by decide +kernel
theorem d_Mo_refine_129 : decode b_Mo_refine 129 = .ok (.iand, 1) := by decide +kernel
theorem d_Mo_refine_130 : decode b_Mo_refine 130 = .ok (.iconst 1, 1) := by decide +kernel
theorem d_Mo_refine_131 : decode b_Mo_refine 131 = .ok (.if_icmp .ne 7, 3) := by decide +kernel
theorem d_Mo_refine_134 : decode b_Mo_refine 134 = .ok (.iconst 1, 1) := by decide +kernel
theorem d_Mo_refine_135 : decode b_Mo_refine 135 = .ok (.goto 4, 3) := by decide +kernel
theorem d_Mo_refine_138 : decode b_Mo_refine 138 = .ok (.iconst 0, 1) := by decide +kernel
theorem d_Mo_refine_139 : decode b_Mo_refine 139 = .ok (.bastore, 1) := by decide +kernel
theorem d_Mo_refine_140 : decode b_Mo_refine 140 = .ok (.iinc 4 1, 3) := by decide +kernel
theorem d_Mo_refine_143 : decode b_Mo_refine 143 = .ok (.goto (-39), 3) := by decide +kernel
theorem d_Mo_refine_146 : decode b_Mo_refine 146 = .ok (.aload_n 0, 1) := by decide +kernel
theorem d_Mo_refine_147 : decode b_Mo_refine 147 = .ok (.invokevirtual 206, 3) := by decide +kernel
theorem d_Mo_refine_150 : decode b_Mo_refine 150 = .ok (.iconst 2, 1) := by decide +kernel
theorem d_Mo_refine_151 : decode b_Mo_refine 151 = .ok (.if_icmp .ne 5, 3) := by decide +kernel
theorem d_Mo_refine_154 : decode b_Mo_refine 154 = .ok (.iconst 3, 1) := by decide +kernel
theorem d_Mo_refine_155 : decode b_Mo_refine 155 = .ok (.ireturn, 1) := by decide +kernel
theorem d_Mo_refine_156 : decode b_Mo_refine 156 = .ok (.iinc 3 1, 3) := by decide +kernel
theorem d_Mo_refine_159 : decode b_Mo_refine 159 = .ok (.goto (-74), 3) := by decide +kernel
theorem d_Mo_refine_162 : decode b_Mo_refine 162 = .ok (.iinc 2 1, 3) := by decide +kernel
theorem d_Mo_refine_165 : decode b_Mo_refine 165 = .ok (.goto (-95), 3) := by decide +kernel
theorem d_Mo_refine_168 : decode b_Mo_refine 168 = .ok (.iconst 0, 1) := by decide +kernel
theorem d_Mo_refine_169 : decode b_Mo_refine 169 = .ok (.ireturn, 1) := by decide +kernel
theorem d_Mo_along_0 : decode b_Mo_along 0 = .ok (.iconst 0, 1) := by decide +kernel
theorem d_Mo_along_1 : decode b_Mo_along 1 = .ok (.istore_n 2, 1) := by decide +kernel
theorem d_Mo_along_2 : decode b_Mo_along 2 = .ok (.iconst 0, 1) := by decide +kernel
theorem d_Mo_along_3 : decode b_Mo_along 3 = .ok (.istore_n 3, 1) := by decide +kernel
theorem d_Mo_along_4 : decode b_Mo_along 4 = .ok (.iload_n 3, 1) := by decide +kernel
theorem d_Mo_along_5 : decode b_Mo_along 5 = .ok (.aload_n 0, 1) := by decide +kernel
theorem d_Mo_along_6 : decode b_Mo_along 6 = .ok (.getfield 190, 3) := by decide +kernel
theorem d_Mo_along_9 : decode b_Mo_along 9 = .ok (.if_icmp .ge 62, 3) := by decide +kernel
theorem d_Mo_along_12 : decode b_Mo_along 12 = .ok (.aload_n 0, 1) := by decide +kernel
theorem d_Mo_along_13 : decode b_Mo_along 13 = .ok (.iload_n 3, 1) := by decide +kernel
theorem d_Mo_along_14 : decode b_Mo_along 14 = .ok (.invokevirtual 193, 3) := by decide +kernel
theorem d_Mo_along_17 : decode b_Mo_along 17 = .ok (.aload_n 0, 1) := by decide +kernel
theorem d_Mo_along_18 : decode b_Mo_along 18 = .ok (.getfield 19, 3) := by decide +kernel
theorem d_Mo_along_21 : decode b_Mo_along 21 = .ok (.iload_n 1, 1) := by decide +kernel
theorem d_Mo_along_22 : decode b_Mo_along 22 = .ok (.iaload, 1) := by decide +kernel
theorem d_Mo_along_23 : decode b_Mo_along 23 = .ok (.iconst 1, 1) := by decide +kernel
theorem d_Mo_along_24 : decode b_Mo_along 24 = .ok (.if_icmp .ne 19, 3) := by decide +kernel
theorem d_Mo_along_27 : decode b_Mo_along 27 = .ok (.aload_n 0, 1) := by decide +kernel
theorem d_Mo_along_28 : decode b_Mo_along 28 = .ok (.aload_n 0, 1) := by decide +kernel
theorem d_Mo_along_29 : decode b_Mo_along 29 = .ok (.getfield 22, 3) := by decide +kernel
theorem d_Mo_along_32 : decode b_Mo_along 32 = .ok (.iload_n 1, 1) := by decide +kernel
theorem d_Mo_along_33 : decode b_Mo_along 33 = .ok (.iaload, 1) := by decide +kernel
theorem d_Mo_along_34 : decode b_Mo_along 34 = .ok (.invokevirtual 196, 3) := by decide +kernel
theorem d_Mo_along_37 : decode b_Mo_along 37 = .ok (.ifCond .eq 6, 3) := by decide +kernel
theorem d_Mo_along_40 : decode b_Mo_along 40 = .ok (.goto 25, 3) := by decide +kernel
theorem d_Mo_along_43 : decode b_Mo_along 43 = .ok (.aload_n 0, 1) := by decide +kernel
theorem d_Mo_along_44 : decode b_Mo_along 44 = .ok (.getfield 19, 3) := by decide +kernel
theorem d_Mo_along_47 : decode b_Mo_along 47 = .ok (.iload_n 1, 1) := by decide +kernel
theorem d_Mo_along_48 : decode b_Mo_along 48 = .ok (.iaload, 1) := by decide +kernel
theorem d_Mo_along_49 : decode b_Mo_along 49 = .ok (.ifCond .ne 8, 3) := by decide +kernel
theorem d_Mo_along_52 : decode b_Mo_along 52 = .ok (.aload_n 0, 1) := by decide +kernel
theorem d_Mo_along_53 : decode b_Mo_along 53 = .ok (.iload_n 1, 1) := by decide +kernel
theorem d_Mo_along_54 : decode b_Mo_along 54 = .ok (.invokevirtual 187, 3) := by decide +kernel
theorem d_Mo_along_57 : decode b_Mo_along 57 = .ok (.aload_n 0, 1) := by decide +kernel
theorem d_Mo_along_58 : decode b_Mo_along 58 = .ok (.iload_n 2, 1) := by decide +kernel
theorem d_Mo_along_59 : decode b_Mo_along 59 = .ok (.invokevirtual 183, 3) := by decide +kernel
theorem d_Mo_along_62 : decode b_Mo_along 62 = .ok (.iinc 2 1, 3) := by decide +kernel
theorem d_Mo_along_65 : decode b_Mo_along 65 = .ok (.iinc 3 1, 3) := by decide +kernel
theorem d_Mo_along_68 : decode b_Mo_along 68 = .ok (.goto (-64), 3) := by decide +kernel
