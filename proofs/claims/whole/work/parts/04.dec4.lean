theorem d_PP_input_29 : decode b_PP_input 29 = .ok (.getfield 204, 3) := by decide +kernel
theorem d_PP_input_32 : decode b_PP_input 32 = .ok (.iload_n 1, 1) := by decide +kernel
theorem d_PP_input_33 : decode b_PP_input 33 = .ok (.iaload, 1) := by decide +kernel
theorem d_PP_input_34 : decode b_PP_input 34 = .ok (.ireturn, 1) := by decide +kernel
theorem d_Mo_init_0 : decode b_Mo_init 0 = .ok (.aload_n 0, 1) := by decide +kernel
theorem d_Mo_init_1 : decode b_Mo_init 1 = .ok (.invokespecial 1, 3) := by decide +kernel
theorem d_Mo_init_4 : decode b_Mo_init 4 = .ok (.aload_n 0, 1) := by decide +kernel
theorem d_Mo_init_5 : decode b_Mo_init 5 = .ok (.bipush 24, 2) := by decide +kernel
theorem d_Mo_init_7 : decode b_Mo_init 7 = .ok (.newarray .int, 2) := by decide +kernel
theorem d_Mo_init_9 : decode b_Mo_init 9 = .ok (.putfield 7, 3) := by decide +kernel
theorem d_Mo_init_12 : decode b_Mo_init 12 = .ok (.aload_n 0, 1) := by decide +kernel
theorem d_Mo_init_13 : decode b_Mo_init 13 = .ok (.bipush 20, 2) := by decide +kernel
theorem d_Mo_init_15 : decode b_Mo_init 15 = .ok (.newarray .int, 2) := by decide +kernel
theorem d_Mo_init_17 : decode b_Mo_init 17 = .ok (.putfield 13, 3) := by decide +kernel
theorem d_Mo_init_20 : decode b_Mo_init 20 = .ok (.aload_n 0, 1) := by decide +kernel
theorem d_Mo_init_21 : decode b_Mo_init 21 = .ok (.bipush 20, 2) := by decide +kernel
theorem d_Mo_init_23 : decode b_Mo_init 23 = .ok (.newarray .int, 2) := by decide +kernel
theorem d_Mo_init_25 : decode b_Mo_init 25 = .ok (.putfield 16, 3) := by decide +kernel
theorem d_Mo_init_28 : decode b_Mo_init 28 = .ok (.aload_n 0, 1) := by decide +kernel
theorem d_Mo_init_29 : decode b_Mo_init 29 = .ok (.bipush 20, 2) := by decide +kernel
theorem d_Mo_init_31 : decode b_Mo_init 31 = .ok (.newarray .int, 2) := by decide +kernel
theorem d_Mo_init_33 : decode b_Mo_init 33 = .ok (.putfield 19, 3) := by decide +kernel
theorem d_Mo_init_36 : decode b_Mo_init 36 = .ok (.aload_n 0, 1) := by decide +kernel
theorem d_Mo_init_37 : decode b_Mo_init 37 = .ok (.bipush 20, 2) := by decide +kernel
theorem d_Mo_init_39 : decode b_Mo_init 39 = .ok (.newarray .int, 2) := by decide +kernel
theorem d_Mo_init_41 : decode b_Mo_init 41 = .ok (.putfield 22, 3) := by decide +kernel
theorem d_Mo_init_44 : decode b_Mo_init 44 = .ok (.aload_n 0, 1) := by decide +kernel
theorem d_Mo_init_45 : decode b_Mo_init 45 = .ok (.sipush 480, 3) := by decide +kernel
theorem d_Mo_init_48 : decode b_Mo_init 48 = .ok (.newarray .long, 2) := by decide +kernel
theorem d_Mo_init_50 : decode b_Mo_init 50 = .ok (.putfield 25, 3) := by decide +kernel
theorem d_Mo_init_53 : decode b_Mo_init 53 = .ok (.aload_n 0, 1) := by decide +kernel
theorem d_Mo_init_54 : decode b_Mo_init 54 = .ok (.bipush 96, 2) := by decide +kernel
theorem d_Mo_init_56 : decode b_Mo_init 56 = .ok (.newarray .long, 2) := by decide +kernel
theorem d_Mo_init_58 : decode b_Mo_init 58 = .ok (.putfield 29, 3) := by decide +kernel
theorem d_Mo_init_61 : decode b_Mo_init 61 = .ok (.aload_n 0, 1) := by decide +kernel
theorem d_Mo_init_62 : decode b_Mo_init 62 = .ok (.sipush 512, 3) := by decide +kernel
theorem d_Mo_init_65 : decode b_Mo_init 65 = .ok (.newarray .int, 2) := by decide +kernel
theorem d_Mo_init_67 : decode b_Mo_init 67 = .ok (.putfield 32, 3) := by decide +kernel
theorem d_Mo_init_70 : decode b_Mo_init 70 = .ok (.aload_n 0, 1) := by decide +kernel
theorem d_Mo_init_71 : decode b_Mo_init 71 = .ok (.iconst (-1), 1) := by decide +kernel
theorem d_Mo_init_72 : decode b_Mo_init 72 = .ok (.putfield 35, 3) := by decide +kernel
theorem d_Mo_init_75 : decode b_Mo_init 75 = .ok (.aload_n 0, 1) := by decide +kernel
theorem d_Mo_init_76 : decode b_Mo_init 76 = .ok (.sipush 200, 3) := by decide +kernel
theorem d_Mo_init_79 : decode b_Mo_init 79 = .ok (.newarray .int, 2) := by decide +kernel
theorem d_Mo_init_81 : decode b_Mo_init 81 = .ok (.putfield 39, 3) := by decide +kernel
theorem d_Mo_init_84 : decode b_Mo_init 84 = .ok (.aload_n 0, 1) := by decide +kernel
theorem d_Mo_init_85 : decode b_Mo_init 85 = .ok (.sipush 200, 3) := by decide +kernel
theorem d_Mo_init_88 : decode b_Mo_init 88 = .ok (.newarray .int, 2) := by decide +kernel
theorem d_Mo_init_90 : decode b_Mo_init 90 = .ok (.putfield 42, 3) := by decide +kernel
theorem d_Mo_init_93 : decode b_Mo_init 93 = .ok (.aload_n 0, 1) := by decide +kernel
theorem d_Mo_init_94 : decode b_Mo_init 94 = .ok (.sipush 200, 3) := by decide +kernel
theorem d_Mo_init_97 : decode b_Mo_init 97 = .ok (.newarray .int, 2) := by decide +kernel
theorem d_Mo_init_99 : decode b_Mo_init 99 = .ok (.putfield 45, 3) := by decide +kernel
theorem d_Mo_init_102 : decode b_Mo_init 102 = .ok (.aload_n 0, 1) := by decide +kernel
theorem d_Mo_init_103 : decode b_Mo_init 103 = .ok (.sipush 200, 3) := by decide +kernel
theorem d_Mo_init_106 : decode b_Mo_init 106 = .ok (.newarray .int, 2) := by decide +kernel
theorem d_Mo_init_108 : decode b_Mo_init 108 = .ok (.putfield 48, 3) := by decide +kernel
theorem d_Mo_init_111 : decode b_Mo_init 111 = .ok (.aload_n 0, 1) := by decide +kernel
theorem d_Mo_init_112 : decode b_Mo_init 112 = .ok (.iconst (-1), 1) := by decide +kernel
theorem d_Mo_init_113 : decode b_Mo_init 113 = .ok (.putfield 51, 3) := by decide +kernel
theorem d_Mo_init_116 : decode b_Mo_init 116 = .ok (.aload_n 0, 1) := by decide +kernel
theorem d_Mo_init_117 : decode b_Mo_init 117 = .ok (.sipush 200, 3) := by decide +kernel
theorem d_Mo_init_120 : decode b_Mo_init 120 = .ok (.newarray .int, 2) := by decide +kernel
theorem d_Mo_init_122 : decode b_Mo_init 122 = .ok (.putfield 54, 3) := by decide +kernel
theorem d_Mo_init_125 : decode b_Mo_init 125 = .ok (.aload_n 0, 1) := by decide +kernel
theorem d_Mo_init_126 : decode b_Mo_init 126 = .ok (.sipush 200, 3) := by decide +kernel
theorem d_Mo_init_129 : decode b_Mo_init 129 = .ok (.newarray .int, 2) := by decide +kernel
theorem d_Mo_init_131 : decode b_Mo_init 131 = .ok (.putfield 57, 3) := by decide +kernel
theorem d_Mo_init_134 : decode b_Mo_init 134 = .ok (.aload_n 0, 1) := by decide +kernel
theorem d_Mo_init_135 : decode b_Mo_init 135 = .ok (.sipush 4096, 3) := by decide +kernel
theorem d_Mo_init_138 : decode b_Mo_init 138 = .ok (.newarray .int, 2) := by decide +kernel
theorem d_Mo_init_140 : decode b_Mo_init 140 = .ok (.putfield 60, 3) := by decide +kernel
theorem d_Mo_init_143 : decode b_Mo_init 143 = .ok (.aload_n 0, 1) := by decide +kernel
theorem d_Mo_init_144 : decode b_Mo_init 144 = .ok (.sipush 1608, 3) := by decide +kernel
theorem d_Mo_init_147 : decode b_Mo_init 147 = .ok (.newarray .long, 2) := by decide +kernel
theorem d_Mo_init_149 : decode b_Mo_init 149 = .ok (.putfield 63, 3) := by decide +kernel
theorem d_Mo_init_152 : decode b_Mo_init 152 = .ok (.aload_n 0, 1) := by decide +kernel
theorem d_Mo_init_153 : decode b_Mo_init 153 = .ok (.sipush 512, 3) := by decide +kernel
theorem d_Mo_init_156 : decode b_Mo_init 156 = .ok (.newarray .boolean, 2) := by decide +kernel
theorem d_Mo_init_158 : decode b_Mo_init 158 = .ok (.putfield 66, 3) := by decide +kernel
theorem d_Mo_init_161 : decode b_Mo_init 161 = .ok (.aload_n 0, 1) := by decide +kernel
theorem d_Mo_init_162 : decode b_Mo_init 162 = .ok (.iconst 5, 1) := by decide +kernel
theorem d_Mo_init_163 : decode b_Mo_init 163 = .ok (.newarray .int, 2) := by decide +kernel
theorem d_Mo_init_165 : decode b_Mo_init 165 = .ok (.putfield 70, 3) := by decide +kernel
theorem d_Mo_init_168 : decode b_Mo_init 168 = .ok (.aload_n 0, 1) := by decide +kernel
theorem d_Mo_init_169 : decode b_Mo_init 169 = .ok (.iconst 5, 1) := by decide +kernel
theorem d_Mo_init_170 : decode b_Mo_init 170 = .ok (.newarray .int, 2) := by decide +kernel
theorem d_Mo_init_172 : decode b_Mo_init 172 = .ok (.putfield 73, 3) := by decide +kernel
theorem d_Mo_init_175 : decode b_Mo_init 175 = .ok (.aload_n 0, 1) := by decide +kernel
theorem d_Mo_init_176 : decode b_Mo_init 176 = .ok (.iload_n 1, 1) := by decide +kernel
theorem d_Mo_init_177 : decode b_Mo_init 177 = .ok (.iconst 3, 1) := by decide +kernel
theorem d_Mo_init_178 : decode b_Mo_init 178 = .ok (.iand, 1) := by decide +kernel
theorem d_Mo_init_179 : decode b_Mo_init 179 = .ok (.iconst 3, 1) := by decide +kernel
theorem d_Mo_init_180 : decode b_Mo_init 180 = .ok (.if_icmp .ne 7, 3) := by decide +kernel
theorem d_Mo_init_183 : decode b_Mo_init 183 = .ok (.iconst 3, 1) := by decide +kernel
theorem d_Mo_init_184 : decode b_Mo_init 184 = .ok (.goto 8, 3) := by decide +kernel
theorem d_Mo_init_187 : decode b_Mo_init 187 = .ok (.iconst 1, 1) := by decide +kernel
theorem d_Mo_init_188 : decode b_Mo_init 188 = .ok (.iload_n 1, 1) := by decide +kernel
theorem d_Mo_init_189 : decode b_Mo_init 189 = .ok (.iconst 3, 1) := by decide +kernel
theorem d_Mo_init_190 : decode b_Mo_init 190 = .ok (.iand, 1) := by decide +kernel
theorem d_Mo_init_191 : decode b_Mo_init 191 = .ok (.iadd, 1) := by decide +kernel
theorem d_Mo_init_192 : decode b_Mo_init 192 = .ok (.putfield 76, 3) := by decide +kernel
theorem d_Mo_init_195 : decode b_Mo_init 195 = .ok (.aload_n 0, 1) := by decide +kernel
theorem d_Mo_init_196 : decode b_Mo_init 196 = .ok (.iconst 1, 1) := by decide +kernel
theorem d_Mo_init_197 : decode b_Mo_init 197 = .ok (.aload_n 0, 1) := by decide +kernel
theorem d_Mo_init_198 : decode b_Mo_init 198 = .ok (.getfield 76, 3) := by decide +kernel
theorem d_Mo_init_201 : decode b_Mo_init 201 = .ok (.ishl, 1) := by decide +kernel
theorem d_Mo_init_202 : decode b_Mo_init 202 = .ok (.iconst 1, 1) := by decide +kernel
theorem d_Mo_init_203 : decode b_Mo_init 203 = .ok (.isub, 1) := by decide +kernel
theorem d_Mo_init_204 : decode b_Mo_init 204 = .ok (.putfield 79, 3) := by decide +kernel
theorem d_Mo_init_207 : decode b_Mo_init 207 = .ok (.aload_n 0, 1) := by decide +kernel
theorem d_Mo_init_208 : decode b_Mo_init 208 = .ok (.iconst 1, 1) := by decide +kernel
theorem d_Mo_init_209 : decode b_Mo_init 209 = .ok (.iconst 3, 1) := by decide +kernel
theorem d_Mo_init_210 : decode b_Mo_init 210 = .ok (.aload_n 0, 1) := by decide +kernel
theorem d_Mo_init_211 : decode b_Mo_init 211 = .ok (.getfield 76, 3) := by decide +kernel
theorem d_Mo_init_214 : decode b_Mo_init 214 = .ok (.imul, 1) := by decide +kernel
theorem d_Mo_init_215 : decode b_Mo_init 215 = .ok (.ishl, 1) := by decide +kernel
theorem d_Mo_init_216 : decode b_Mo_init 216 = .ok (.putfield 82, 3) := by decide +kernel
theorem d_Mo_init_219 : decode b_Mo_init 219 = .ok (.return_, 1) := by decide +kernel
theorem d_Mo_thrown_0 : decode b_Mo_thrown 0 = .ok (.aload_n 0, 1) := by decide +kernel
theorem d_Mo_thrown_1 : decode b_Mo_thrown 1 = .ok (.getfield 85, 3) := by decide +kernel
theorem d_Mo_thrown_4 : decode b_Mo_thrown 4 = .ok (.ireturn, 1) := by decide +kernel
theorem d_Mo_type_0 : decode b_Mo_type 0 = .ok (.aload_n 0, 1) := by decide +kernel
theorem d_Mo_type_1 : decode b_Mo_type 1 = .ok (.iconst 0, 1) := by decide +kernel
theorem d_Mo_type_2 : decode b_Mo_type 2 = .ok (.putfield 85, 3) := by decide +kernel
theorem d_Mo_type_5 : decode b_Mo_type 5 = .ok (.iload_n 1, 1) := by decide +kernel
theorem d_Mo_type_6 : decode b_Mo_type 6 = .ok (.bipush 32, 2) := by decide +kernel
theorem d_Mo_type_8 : decode b_Mo_type 8 = .ok (.if_icmp .lt 18, 3) := by decide +kernel
theorem d_Mo_type_11 : decode b_Mo_type 11 = .ok (.iload_n 1, 1) := by decide +kernel
theorem d_Mo_type_12 : decode b_Mo_type 12 = .ok (.bipush 126, 2) := by decide +kernel
theorem d_Mo_type_14 : decode b_Mo_type 14 = .ok (.if_icmp .gt 12, 3) := by decide +kernel
theorem d_Mo_type_17 : decode b_Mo_type 17 = .ok (.aload_n 0, 1) := by decide +kernel
theorem d_Mo_type_18 : decode b_Mo_type 18 = .ok (.getfield 88, 3) := by decide +kernel
theorem d_Mo_type_21 : decode b_Mo_type 21 = .ok (.bipush 24, 2) := by decide +kernel
theorem d_Mo_type_23 : decode b_Mo_type 23 = .ok (.if_icmp .ne 5, 3) := by decide +kernel
theorem d_Mo_type_26 : decode b_Mo_type 26 = .ok (.iconst (-1), 1) := by decide +kernel
theorem d_Mo_type_27 : decode b_Mo_type 27 = .ok (.ireturn, 1) := by decide +kernel
theorem d_Mo_type_28 : decode b_Mo_type 28 = .ok (.aload_n 0, 1) := by decide +kernel
theorem d_Mo_type_29 : decode b_Mo_type 29 = .ok (.getfield 7, 3) := by decide +kernel
theorem d_Mo_type_32 : decode b_Mo_type 32 = .ok (.aload_n 0, 1) := by decide +kernel
theorem d_Mo_type_33 : decode b_Mo_type 33 = .ok (.getfield 88, 3) := by decide +kernel
theorem d_Mo_type_36 : decode b_Mo_type 36 = .ok (.iload_n 1, 1) := by decide +kernel
theorem d_Mo_type_37 : decode b_Mo_type 37 = .ok (.iastore, 1) := by decide +kernel
theorem d_Mo_type_38 : decode b_Mo_type 38 = .ok (.aload_n 0, 1) := by decide +kernel
theorem d_Mo_type_39 : decode b_Mo_type 39 = .ok (.dup, 1) := by decide +kernel
theorem d_Mo_type_40 : decode b_Mo_type 40 = .ok (.getfield 88, 3) := by decide +kernel
theorem d_Mo_type_43 : decode b_Mo_type 43 = .ok (.iconst 1, 1) := by decide +kernel
theorem d_Mo_type_44 : decode b_Mo_type 44 = .ok (.iadd, 1) := by decide +kernel
theorem d_Mo_type_45 : decode b_Mo_type 45 = .ok (.putfield 88, 3) := by decide +kernel
theorem d_Mo_type_48 : decode b_Mo_type 48 = .ok (.aload_n 0, 1) := by decide +kernel
theorem d_Mo_type_49 : decode b_Mo_type 49 = .ok (.getfield 88, 3) := by decide +kernel
theorem d_Mo_type_52 : decode b_Mo_type 52 = .ok (.ireturn, 1) := by decide +kernel
theorem d_Mo_wipe_0 : decode b_Mo_wipe 0 = .ok (.aload_n 0, 1) := by decide +kernel
theorem d_Mo_wipe_1 : decode b_Mo_wipe 1 = .ok (.iconst 0, 1) := by decide +kernel
theorem d_Mo_wipe_2 : decode b_Mo_wipe 2 = .ok (.putfield 85, 3) := by decide +kernel
theorem d_Mo_wipe_5 : decode b_Mo_wipe 5 = .ok (.aload_n 0, 1) := by decide +kernel
theorem d_Mo_wipe_6 : decode b_Mo_wipe 6 = .ok (.iconst 0, 1) := by decide +kernel
theorem d_Mo_wipe_7 : decode b_Mo_wipe 7 = .ok (.putfield 88, 3) := by decide +kernel
theorem d_Mo_wipe_10 : decode b_Mo_wipe 10 = .ok (.return_, 1) := by decide +kernel
theorem d_Mo_edge_0 : decode b_Mo_edge 0 = .ok (.aload_n 0, 1) := by decide +kernel
theorem d_Mo_edge_1 : decode b_Mo_edge 1 = .ok (.iconst 0, 1) := by decide +kernel
theorem d_Mo_edge_2 : decode b_Mo_edge 2 = .ok (.putfield 85, 3) := by decide +kernel
theorem d_Mo_edge_5 : decode b_Mo_edge 5 = .ok (.aload_n 0, 1) := by decide +kernel
theorem d_Mo_edge_6 : decode b_Mo_edge 6 = .ok (.iconst 0, 1) := by decide +kernel
theorem d_Mo_edge_7 : decode b_Mo_edge 7 = .ok (.invokevirtual 91, 3) := by decide +kernel
theorem d_Mo_edge_10 : decode b_Mo_edge 10 = .ok (.invokestatic 129, 3) := by decide +kernel
theorem d_Mo_edge_13 : decode b_Mo_edge 13 = .ok (.ifCond .eq 24, 3) := by decide +kernel
theorem d_Mo_edge_16 : decode b_Mo_edge 16 = .ok (.aload_n 0, 1) := by decide +kernel
theorem d_Mo_edge_17 : decode b_Mo_edge 17 = .ok (.iconst 1, 1) := by decide +kernel
theorem d_Mo_edge_18 : decode b_Mo_edge 18 = .ok (.invokevirtual 91, 3) := by decide +kernel
theorem d_Mo_edge_21 : decode b_Mo_edge 21 = .ok (.invokestatic 129, 3) := by decide +kernel
theorem d_Mo_edge_24 : decode b_Mo_edge 24 = .ok (.ifCond .eq 13, 3) := by decide +kernel
theorem d_Mo_edge_27 : decode b_Mo_edge 27 = .ok (.aload_n 0, 1) := by decide +kernel
theorem d_Mo_edge_28 : decode b_Mo_edge 28 = .ok (.iconst 2, 1) := by decide +kernel
theorem d_Mo_edge_29 : decode b_Mo_edge 29 = .ok (.invokevirtual 91, 3) := by decide +kernel
theorem d_Mo_edge_32 : decode b_Mo_edge 32 = .ok (.bipush 32, 2) := by decide +kernel
theorem d_Mo_edge_34 : decode b_Mo_edge 34 = .ok (.if_icmp .eq 9, 3) := by decide +kernel
theorem d_Mo_edge_37 : decode b_Mo_edge 37 = .ok (.aload_n 0, 1) := by decide +kernel
theorem d_Mo_edge_38 : decode b_Mo_edge 38 = .ok (.iconst 1, 1) := by decide +kernel
theorem d_Mo_edge_39 : decode b_Mo_edge 39 = .ok (.invokevirtual 132, 3) := by decide +kernel
theorem d_Mo_edge_42 : decode b_Mo_edge 42 = .ok (.ireturn, 1) := by decide +kernel
theorem d_Mo_edge_43 : decode b_Mo_edge 43 = .ok (.aload_n 0, 1) := by decide +kernel
theorem d_Mo_edge_44 : decode b_Mo_edge 44 = .ok (.iconst 3, 1) := by decide +kernel
theorem d_Mo_edge_45 : decode b_Mo_edge 45 = .ok (.invokevirtual 91, 3) := by decide +kernel
theorem d_Mo_edge_48 : decode b_Mo_edge 48 = .ok (.invokestatic 95, 3) := by decide +kernel
theorem d_Mo_edge_51 : decode b_Mo_edge 51 = .ok (.ifCond .eq 27, 3) := by decide +kernel
theorem d_Mo_edge_54 : decode b_Mo_edge 54 = .ok (.aload_n 0, 1) := by decide +kernel
theorem d_Mo_edge_55 : decode b_Mo_edge 55 = .ok (.iconst 4, 1) := by decide +kernel
theorem d_Mo_edge_56 : decode b_Mo_edge 56 = .ok (.invokevirtual 91, 3) := by decide +kernel
theorem d_Mo_edge_59 : decode b_Mo_edge 59 = .ok (.bipush 58, 2) := by decide +kernel
theorem d_Mo_edge_61 : decode b_Mo_edge 61 = .ok (.if_icmp .eq 13, 3) := by decide +kernel
theorem d_Mo_edge_64 : decode b_Mo_edge 64 = .ok (.aload_n 0, 1) := by decide +kernel
theorem d_Mo_edge_65 : decode b_Mo_edge 65 = .ok (.iconst 4, 1) := by decide +kernel
theorem d_Mo_edge_66 : decode b_Mo_edge 66 = .ok (.invokevirtual 91, 3) := by decide +kernel
theorem d_Mo_edge_69 : decode b_Mo_edge 69 = .ok (.bipush 63, 2) := by decide +kernel
theorem d_Mo_edge_71 : decode b_Mo_edge 71 = .ok (.if_icmp .ne 7, 3) := by decide +kernel
theorem d_Mo_edge_74 : decode b_Mo_edge 74 = .ok (.iconst 1, 1) := by decide +kernel
theorem d_Mo_edge_75 : decode b_Mo_edge 75 = .ok (.goto 4, 3) := by decide +kernel
theorem d_Mo_edge_78 : decode b_Mo_edge 78 = .ok (.iconst 0, 1) := by decide +kernel
theorem d_Mo_edge_79 : decode b_Mo_edge 79 = .ok (.istore_n 1, 1) := by decide +kernel
theorem d_Mo_edge_80 : decode b_Mo_edge 80 = .ok (.iload_n 1, 1) := by decide +kernel
theorem d_Mo_edge_81 : decode b_Mo_edge 81 = .ok (.ifCond .eq 7, 3) := by decide +kernel
theorem d_Mo_edge_84 : decode b_Mo_edge 84 = .ok (.iconst (-1), 1) := by decide +kernel
theorem d_Mo_edge_85 : decode b_Mo_edge 85 = .ok (.goto 8, 3) := by decide +kernel
theorem d_Mo_edge_88 : decode b_Mo_edge 88 = .ok (.aload_n 0, 1) := by decide +kernel
theorem d_Mo_edge_89 : decode b_Mo_edge 89 = .ok (.iconst 3, 1) := by decide +kernel
theorem d_Mo_edge_90 : decode b_Mo_edge 90 = .ok (.invokevirtual 135, 3) := by decide +kernel
theorem d_Mo_edge_93 : decode b_Mo_edge 93 = .ok (.istore_n 2, 1) := by decide +kernel
theorem d_Mo_edge_94 : decode b_Mo_edge 94 = .ok (.iload_n 1, 1) := by decide +kernel
theorem d_Mo_edge_95 : decode b_Mo_edge 95 = .ok (.ifCond .eq 29, 3) := by decide +kernel
theorem d_Mo_edge_98 : decode b_Mo_edge 98 = .ok (.aload_n 0, 1) := by decide +kernel
theorem d_Mo_edge_99 : decode b_Mo_edge 99 = .ok (.iconst 4, 1) := by decide +kernel
theorem d_Mo_edge_100 : decode b_Mo_edge 100 = .ok (.invokevirtual 91, 3) := by decide +kernel
theorem d_Mo_edge_103 : decode b_Mo_edge 103 = .ok (.bipush 58, 2) := by decide +kernel
theorem d_Mo_edge_105 : decode b_Mo_edge 105 = .ok (.if_icmp .ne 19, 3) := by decide +kernel
theorem d_Mo_edge_108 : decode b_Mo_edge 108 = .ok (.aload_n 0, 1) := by decide +kernel
theorem d_Mo_edge_109 : decode b_Mo_edge 109 = .ok (.iconst 5, 1) := by decide +kernel
theorem d_Mo_edge_110 : decode b_Mo_edge 110 = .ok (.invokevirtual 102, 3) := by decide +kernel
theorem d_Mo_edge_113 : decode b_Mo_edge 113 = .ok (.aload_n 0, 1) := by decide +kernel
theorem d_Mo_edge_114 : decode b_Mo_edge 114 = .ok (.getfield 88, 3) := by decide +kernel
theorem d_Mo_edge_117 : decode b_Mo_edge 117 = .ok (.if_icmp .ne 7, 3) := by decide +kernel
theorem d_Mo_edge_120 : decode b_Mo_edge 120 = .ok (.iconst 1, 1) := by decide +kernel
theorem d_Mo_edge_121 : decode b_Mo_edge 121 = .ok (.goto 4, 3) := by decide +kernel
theorem d_Mo_edge_124 : decode b_Mo_edge 124 = .ok (.iconst 0, 1) := by decide +kernel
theorem d_Mo_edge_125 : decode b_Mo_edge 125 = .ok (.istore_n 3, 1) := by decide +kernel
theorem d_Mo_edge_126 : decode b_Mo_edge 126 = .ok (.iload_n 1, 1) := by decide +kernel
theorem d_Mo_edge_127 : decode b_Mo_edge 127 = .ok (.ifCond .eq 25, 3) := by decide +kernel
theorem d_Mo_edge_130 : decode b_Mo_edge 130 = .ok (.aload_n 0, 1) := by decide +kernel
theorem d_Mo_edge_131 : decode b_Mo_edge 131 = .ok (.iconst 4, 1) := by decide +kernel
theorem d_Mo_edge_132 : decode b_Mo_edge 132 = .ok (.invokevirtual 91, 3) := by decide +kernel
theorem d_Mo_edge_135 : decode b_Mo_edge 135 = .ok (.bipush 63, 2) := by decide +kernel
theorem d_Mo_edge_137 : decode b_Mo_edge 137 = .ok (.if_icmp .ne 15, 3) := by decide +kernel
theorem d_Mo_edge_140 : decode b_Mo_edge 140 = .ok (.aload_n 0, 1) := by decide +kernel
theorem d_Mo_edge_141 : decode b_Mo_edge 141 = .ok (.getfield 88, 3) := by decide +kernel
theorem d_Mo_edge_144 : decode b_Mo_edge 144 = .ok (.iconst 5, 1) := by decide +kernel
theorem d_Mo_edge_145 : decode b_Mo_edge 145 = .ok (.if_icmp .ne 7, 3) := by decide +kernel
theorem d_Mo_edge_148 : decode b_Mo_edge 148 = .ok (.iconst 1, 1) := by decide +kernel
theorem d_Mo_edge_149 : decode b_Mo_edge 149 = .ok (.goto 4, 3) := by decide +kernel
theorem d_Mo_edge_152 : decode b_Mo_edge 152 = .ok (.iconst 0, 1) := by decide +kernel
theorem d_Mo_edge_153 : decode b_Mo_edge 153 = .ok (.istore 4, 2) := by decide +kernel
theorem d_Mo_edge_155 : decode b_Mo_edge 155 = .ok (.iload_n 3, 1) := by decide +kernel
theorem d_Mo_edge_156 : decode b_Mo_edge 156 = .ok (.ifCond .ne 18, 3) := by decide +kernel
theorem d_Mo_edge_159 : decode b_Mo_edge 159 = .ok (.iload 4, 2) := by decide +kernel
theorem d_Mo_edge_161 : decode b_Mo_edge 161 = .ok (.ifCond .ne 13, 3) := by decide +kernel
theorem d_Mo_edge_164 : decode b_Mo_edge 164 = .ok (.iload_n 2, 1) := by decide +kernel
theorem d_Mo_edge_165 : decode b_Mo_edge 165 = .ok (.ifCond .ge 9, 3) := by decide +kernel
theorem d_Mo_edge_168 : decode b_Mo_edge 168 = .ok (.aload_n 0, 1) := by decide +kernel
theorem d_Mo_edge_169 : decode b_Mo_edge 169 = .ok (.iconst 1, 1) := by decide +kernel
theorem d_Mo_edge_170 : decode b_Mo_edge 170 = .ok (.invokevirtual 132, 3) := by decide +kernel
theorem d_Mo_edge_173 : decode b_Mo_edge 173 = .ok (.ireturn, 1) := by decide +kernel
theorem d_Mo_edge_174 : decode b_Mo_edge 174 = .ok (.aload_n 0, 1) := by decide +kernel
theorem d_Mo_edge_175 : decode b_Mo_edge 175 = .ok (.getfield 138, 3) := by decide +kernel
theorem d_Mo_edge_178 : decode b_Mo_edge 178 = .ok (.bipush 20, 2) := by decide +kernel
theorem d_Mo_edge_180 : decode b_Mo_edge 180 = .ok (.if_icmp .ne 9, 3) := by decide +kernel
theorem d_Mo_edge_183 : decode b_Mo_edge 183 = .ok (.aload_n 0, 1) := by decide +kernel
theorem d_Mo_edge_184 : decode b_Mo_edge 184 = .ok (.iconst 2, 1) := by decide +kernel
theorem d_Mo_edge_185 : decode b_Mo_edge 185 = .ok (.invokevirtual 132, 3) := by decide +kernel
theorem d_Mo_edge_188 : decode b_Mo_edge 188 = .ok (.ireturn, 1) := by decide +kernel
theorem d_Mo_edge_189 : decode b_Mo_edge 189 = .ok (.aload_n 0, 1) := by decide +kernel
theorem d_Mo_edge_190 : decode b_Mo_edge 190 = .ok (.getfield 138, 3) := by decide +kernel
theorem d_Mo_edge_193 : decode b_Mo_edge 193 = .ok (.istore 5, 2) := by decide +kernel
theorem d_Mo_edge_195 : decode b_Mo_edge 195 = .ok (.aload_n 0, 1) := by decide +kernel
theorem d_Mo_edge_196 : decode b_Mo_edge 196 = .ok (.getfield 13, 3) := by decide +kernel
theorem d_Mo_edge_199 : decode b_Mo_edge 199 = .ok (.iload 5, 2) := by decide +kernel
theorem d_Mo_edge_201 : decode b_Mo_edge 201 = .ok (.aload_n 0, 1) := by decide +kernel
theorem d_Mo_edge_202 : decode b_Mo_edge 202 = .ok (.iconst 0, 1) := by decide +kernel
theorem d_Mo_edge_203 : decode b_Mo_edge 203 = .ok (.invokevirtual 91, 3) := by decide +kernel
theorem d_Mo_edge_206 : decode b_Mo_edge 206 = .ok (.bipush 65, 2) := by decide +kernel
theorem d_Mo_edge_208 : decode b_Mo_edge 208 = .ok (.isub, 1) := by decide +kernel
theorem d_Mo_edge_209 : decode b_Mo_edge 209 = .ok (.iastore, 1) := by decide +kernel
theorem d_Mo_edge_210 : decode b_Mo_edge 210 = .ok (.aload_n 0, 1) := by decide +kernel
theorem d_Mo_edge_211 : decode b_Mo_edge 211 = .ok (.getfield 16, 3) := by decide +kernel
theorem d_Mo_edge_214 : decode b_Mo_edge 214 = .ok (.iload 5, 2) := by decide +kernel
theorem d_Mo_edge_216 : decode b_Mo_edge 216 = .ok (.aload_n 0, 1) := by decide +kernel
theorem d_Mo_edge_217 : decode b_Mo_edge 217 = .ok (.iconst 1, 1) := by decide +kernel
theorem d_Mo_edge_218 : decode b_Mo_edge 218 = .ok (.invokevirtual 91, 3) := by decide +kernel
theorem d_Mo_edge_221 : decode b_Mo_edge 221 = .ok (.bipush 65, 2) := by decide +kernel
theorem d_Mo_edge_223 : decode b_Mo_edge 223 = .ok (.isub, 1) := by decide +kernel
theorem d_Mo_edge_224 : decode b_Mo_edge 224 = .ok (.iastore, 1) := by decide +kernel
theorem d_Mo_edge_225 : decode b_Mo_edge 225 = .ok (.aload_n 0, 1) := by decide +kernel
theorem d_Mo_edge_226 : decode b_Mo_edge 226 = .ok (.getfield 19, 3) := by decide +kernel
theorem d_Mo_edge_229 : decode b_Mo_edge 229 = .ok (.iload 5, 2) := by decide +kernel
theorem d_Mo_edge_231 : decode b_Mo_edge 231 = .ok (.iload_n 3, 1) := by decide +kernel
theorem d_Mo_edge_232 : decode b_Mo_edge 232 = .ok (.ifCond .eq 7, 3) := by decide +kernel
theorem d_Mo_edge_235 : decode b_Mo_edge 235 = .ok (.iconst 0, 1) := by decide +kernel
theorem d_Mo_edge_236 : decode b_Mo_edge 236 = .ok (.goto 13, 3) := by decide +kernel
theorem d_Mo_edge_239 : decode b_Mo_edge 239 = .ok (.iload 4, 2) := by decide +kernel
theorem d_Mo_edge_241 : decode b_Mo_edge 241 = .ok (.ifCond .eq 7, 3) := by decide +kernel
theorem d_Mo_edge_244 : decode b_Mo_edge 244 = .ok (.iconst 1, 1) := by decide +kernel
theorem d_Mo_edge_245 : decode b_Mo_edge 245 = .ok (.goto 4, 3) := by decide +kernel
theorem d_Mo_edge_248 : decode b_Mo_edge 248 = .ok (.iconst 2, 1) := by decide +kernel
theorem d_Mo_edge_249 : decode b_Mo_edge 249 = .ok (.iastore, 1) := by decide +kernel
theorem d_Mo_edge_250 : decode b_Mo_edge 250 = .ok (.aload_n 0, 1) := by decide +kernel
theorem d_Mo_edge_251 : decode b_Mo_edge 251 = .ok (.getfield 22, 3) := by decide +kernel
theorem d_Mo_edge_254 : decode b_Mo_edge 254 = .ok (.iload 5, 2) := by decide +kernel
theorem d_Mo_edge_256 : decode b_Mo_edge 256 = .ok (.iload_n 1, 1) := by decide +kernel
theorem d_Mo_edge_257 : decode b_Mo_edge 257 = .ok (.ifCond .eq 14, 3) := by decide +kernel
theorem d_Mo_edge_260 : decode b_Mo_edge 260 = .ok (.aload_n 0, 1) := by decide +kernel
theorem d_Mo_edge_261 : decode b_Mo_edge 261 = .ok (.iconst 3, 1) := by decide +kernel
theorem d_Mo_edge_262 : decode b_Mo_edge 262 = .ok (.invokevirtual 91, 3) := by decide +kernel
theorem d_Mo_edge_265 : decode b_Mo_edge 265 = .ok (.bipush 120, 2) := by decide +kernel
theorem d_Mo_edge_267 : decode b_Mo_edge 267 = .ok (.isub, 1) := by decide +kernel
theorem d_Mo_edge_268 : decode b_Mo_edge 268 = .ok (.goto 4, 3) := by decide +kernel
theorem d_Mo_edge_271 : decode b_Mo_edge 271 = .ok (.iconst 0, 1) := by decide +kernel
theorem d_Mo_edge_272 : decode b_Mo_edge 272 = .ok (.iastore, 1) := by decide +kernel
theorem d_Mo_edge_273 : decode b_Mo_edge 273 = .ok (.bipush 24, 2) := by decide +kernel
theorem d_Mo_edge_275 : decode b_Mo_edge 275 = .ok (.iload 5, 2) := by decide +kernel
theorem d_Mo_edge_277 : decode b_Mo_edge 277 = .ok (.imul, 1) := by decide +kernel
theorem d_Mo_edge_278 : decode b_Mo_edge 278 = .ok (.istore 6, 2) := by decide +kernel
theorem d_Mo_edge_280 : decode b_Mo_edge 280 = .ok (.iload 6, 2) := by decide +kernel
theorem d_Mo_edge_282 : decode b_Mo_edge 282 = .ok (.bipush 24, 2) := by decide +kernel
theorem d_Mo_edge_284 : decode b_Mo_edge 284 = .ok (.iload 5, 2) := by decide +kernel
theorem d_Mo_edge_286 : decode b_Mo_edge 286 = .ok (.imul, 1) := by decide +kernel
theorem d_Mo_edge_287 : decode b_Mo_edge 287 = .ok (.bipush 24, 2) := by decide +kernel
theorem d_Mo_edge_289 : decode b_Mo_edge 289 = .ok (.iadd, 1) := by decide +kernel
theorem d_Mo_edge_290 : decode b_Mo_edge 290 = .ok (.if_icmp .ge 17, 3) := by decide +kernel
theorem d_Mo_edge_293 : decode b_Mo_edge 293 = .ok (.aload_n 0, 1) := by decide +kernel
theorem d_Mo_edge_294 : decode b_Mo_edge 294 = .ok (.getfield 25, 3) := by decide +kernel
theorem d_Mo_edge_297 : decode b_Mo_edge 297 = .ok (.iload 6, 2) := by decide +kernel
theorem d_Mo_edge_299 : decode b_Mo_edge 299 = .ok (.lconst 0, 1) := by decide +kernel
theorem d_Mo_edge_300 : decode b_Mo_edge 300 = .ok (.lastore, 1) := by decide +kernel
theorem d_Mo_edge_301 : decode b_Mo_edge 301 = .ok (.iinc 6 1, 3) := by decide +kernel
theorem d_Mo_edge_304 : decode b_Mo_edge 304 = .ok (.goto (-24), 3) := by decide +kernel
theorem d_Mo_edge_307 : decode b_Mo_edge 307 = .ok (.iconst 0, 1) := by decide +kernel
theorem d_Mo_edge_308 : decode b_Mo_edge 308 = .ok (.istore 6, 2) := by decide +kernel
theorem d_Mo_edge_310 : decode b_Mo_edge 310 = .ok (.iload 6, 2) := by decide +kernel
theorem d_Mo_edge_312 : decode b_Mo_edge 312 = .ok (.aload_n 0, 1) := by decide +kernel
theorem d_Mo_edge_313 : decode b_Mo_edge 313 = .ok (.getfield 82, 3) := by decide +kernel
theorem d_Mo_edge_316 : decode b_Mo_edge 316 = .ok (.if_icmp .ge 109, 3) := by decide +kernel
theorem d_Mo_edge_319 : decode b_Mo_edge 319 = .ok (.iload 4, 2) := by decide +kernel
theorem d_Mo_edge_321 : decode b_Mo_edge 321 = .ok (.ifCond .ne 104, 3) := by decide +kernel
theorem d_Mo_edge_324 : decode b_Mo_edge 324 = .ok (.iconst 0, 1) := by decide +kernel
theorem d_Mo_edge_325 : decode b_Mo_edge 325 = .ok (.istore 7, 2) := by decide +kernel
theorem d_Mo_edge_327 : decode b_Mo_edge 327 = .ok (.iload_n 3, 1) := by decide +kernel
theorem d_Mo_edge_328 : decode b_Mo_edge 328 = .ok (.ifCond .eq 19, 3) := by decide +kernel
theorem d_Mo_edge_331 : decode b_Mo_edge 331 = .ok (.aload_n 0, 1) := by decide +kernel
theorem d_Mo_edge_332 : decode b_Mo_edge 332 = .ok (.iconst 5, 1) := by decide +kernel
theorem d_Mo_edge_333 : decode b_Mo_edge 333 = .ok (.aload_n 0, 1) := by decide +kernel
theorem d_Mo_edge_334 : decode b_Mo_edge 334 = .ok (.getfield 88, 3) := by decide +kernel
theorem d_Mo_edge_337 : decode b_Mo_edge 337 = .ok (.iload 6, 2) := by decide +kernel
theorem d_Mo_edge_339 : decode b_Mo_edge 339 = .ok (.invokevirtual 119, 3) := by decide +kernel
theorem d_Mo_edge_342 : decode b_Mo_edge 342 = .ok (.istore 7, 2) := by decide +kernel
theorem d_Mo_edge_344 : decode b_Mo_edge 344 = .ok (.goto 21, 3) := by decide +kernel
theorem d_Mo_edge_347 : decode b_Mo_edge 347 = .ok (.aload_n 0, 1) := by decide +kernel
theorem d_Mo_edge_348 : decode b_Mo_edge 348 = .ok (.iconst 3, 1) := by decide +kernel
theorem d_Mo_edge_349 : decode b_Mo_edge 349 = .ok (.iload_n 2, 1) := by decide +kernel
theorem d_Mo_edge_350 : decode b_Mo_edge 350 = .ok (.iload 6, 2) := by decide +kernel
theorem d_Mo_edge_352 : decode b_Mo_edge 352 = .ok (.invokevirtual 141, 3) := by decide +kernel
theorem d_Mo_edge_355 : decode b_Mo_edge 355 = .ok (.ifCond .eq 7, 3) := by decide +kernel
theorem d_Mo_edge_358 : decode b_Mo_edge 358 = .ok (.iconst 1, 1) := by decide +kernel
theorem d_Mo_edge_359 : decode b_Mo_edge 359 = .ok (.goto 4, 3) := by decide +kernel
theorem d_Mo_edge_362 : decode b_Mo_edge 362 = .ok (.iconst 0, 1) := by decide +kernel
theorem d_Mo_edge_363 : decode b_Mo_edge 363 = .ok (.istore 7, 2) := by decide +kernel
theorem d_Mo_edge_365 : decode b_Mo_edge 365 = .ok (.iconst 0, 1) := by decide +kernel
theorem d_Mo_edge_366 : decode b_Mo_edge 366 = .ok (.istore 8, 2) := by decide +kernel
theorem d_Mo_edge_368 : decode b_Mo_edge 368 = .ok (.iload 8, 2) := by decide +kernel
theorem d_Mo_edge_370 : decode b_Mo_edge 370 = .ok (.iconst 3, 1) := by decide +kernel
theorem d_Mo_edge_371 : decode b_Mo_edge 371 = .ok (.if_icmp .ge 48, 3) := by decide +kernel
theorem d_Mo_edge_374 : decode b_Mo_edge 374 = .ok (.aload_n 0, 1) := by decide +kernel
theorem d_Mo_edge_375 : decode b_Mo_edge 375 = .ok (.getfield 25, 3) := by decide +kernel
theorem d_Mo_edge_378 : decode b_Mo_edge 378 = .ok (.bipush 24, 2) := by decide +kernel
theorem d_Mo_edge_380 : decode b_Mo_edge 380 = .ok (.iload 5, 2) := by decide +kernel
theorem d_Mo_edge_382 : decode b_Mo_edge 382 = .ok (.imul, 1) := by decide +kernel
theorem d_Mo_edge_383 : decode b_Mo_edge 383 = .ok (.bipush 8, 2) := by decide +kernel
theorem d_Mo_edge_385 : decode b_Mo_edge 385 = .ok (.iload 8, 2) := by decide +kernel
theorem d_Mo_edge_387 : decode b_Mo_edge 387 = .ok (.imul, 1) := by decide +kernel
theorem d_Mo_edge_388 : decode b_Mo_edge 388 = .ok (.iadd, 1) := by decide +kernel
theorem d_Mo_edge_389 : decode b_Mo_edge 389 = .ok (.iload 6, 2) := by decide +kernel
theorem d_Mo_edge_391 : decode b_Mo_edge 391 = .ok (.bipush 64, 2) := by decide +kernel
theorem d_Mo_edge_393 : decode b_Mo_edge 393 = .ok (.idiv, 1) := by decide +kernel
theorem d_Mo_edge_394 : decode b_Mo_edge 394 = .ok (.iadd, 1) := by decide +kernel
theorem d_Mo_edge_395 : decode b_Mo_edge 395 = .ok (.dup2, 1) := by decide +kernel
theorem d_Mo_edge_396 : decode b_Mo_edge 396 = .ok (.laload, 1) := by decide +kernel
theorem d_Mo_edge_397 : decode b_Mo_edge 397 = .ok (.iload 7, 2) := by decide +kernel
theorem d_Mo_edge_399 : decode b_Mo_edge 399 = .ok (.iload 8, 2) := by decide +kernel
theorem d_Mo_edge_401 : decode b_Mo_edge 401 = .ok (.ishr, 1) := by decide +kernel
theorem d_Mo_edge_402 : decode b_Mo_edge 402 = .ok (.iconst 1, 1) := by decide +kernel
theorem d_Mo_edge_403 : decode b_Mo_edge 403 = .ok (.iand, 1) := by decide +kernel
theorem d_Mo_edge_404 : decode b_Mo_edge 404 = .ok (.i2l, 1) := by decide +kernel
theorem d_Mo_edge_405 : decode b_Mo_edge 405 = .ok (.iload 6, 2) := by decide +kernel
theorem d_Mo_edge_407 : decode b_Mo_edge 407 = .ok (.bipush 64, 2) := by decide +kernel
theorem d_Mo_edge_409 : decode b_Mo_edge 409 = .ok (.irem, 1) := by decide +kernel
theorem d_Mo_edge_410 : decode b_Mo_edge 410 = .ok (.lshl, 1) := by decide +kernel
theorem d_Mo_edge_411 : decode b_Mo_edge 411 = .ok (.lor, 1) := by decide +kernel
theorem d_Mo_edge_412 : decode b_Mo_edge 412 = .ok (.lastore, 1) := by decide +kernel
theorem d_Mo_edge_413 : decode b_Mo_edge 413 = .ok (.iinc 8 1, 3) := by decide +kernel
theorem d_Mo_edge_416 : decode b_Mo_edge 416 = .ok (.goto (-48), 3) := by decide +kernel
theorem d_Mo_edge_419 : decode b_Mo_edge 419 = .ok (.iinc 6 1, 3) := by decide +kernel
theorem d_Mo_edge_422 : decode b_Mo_edge 422 = .ok (.goto (-112), 3) := by decide +kernel
theorem d_Mo_edge_425 : decode b_Mo_edge 425 = .ok (.aload_n 0, 1) := by decide +kernel
theorem d_Mo_edge_426 : decode b_Mo_edge 426 = .ok (.dup, 1) := by decide +kernel
theorem d_Mo_edge_427 : decode b_Mo_edge 427 = .ok (.getfield 138, 3) := by decide +kernel
theorem d_Mo_edge_430 : decode b_Mo_edge 430 = .ok (.iconst 1, 1) := by decide +kernel
theorem d_Mo_edge_431 : decode b_Mo_edge 431 = .ok (.iadd, 1) := by decide +kernel
theorem d_Mo_edge_432 : decode b_Mo_edge 432 = .ok (.putfield 138, 3) := by decide +kernel
theorem d_Mo_edge_435 : decode b_Mo_edge 435 = .ok (.aload_n 0, 1) := by decide +kernel
theorem d_Mo_edge_436 : decode b_Mo_edge 436 = .ok (.iconst 0, 1) := by decide +kernel
theorem d_Mo_edge_437 : decode b_Mo_edge 437 = .ok (.putfield 88, 3) := by decide +kernel
theorem d_Mo_edge_440 : decode b_Mo_edge 440 = .ok (.aload_n 0, 1) := by decide +kernel
theorem d_Mo_edge_441 : decode b_Mo_edge 441 = .ok (.invokevirtual 145, 3) := by decide +kernel
theorem d_Mo_edge_444 : decode b_Mo_edge 444 = .ok (.iload 5, 2) := by decide +kernel
theorem d_Mo_edge_446 : decode b_Mo_edge 446 = .ok (.ireturn, 1) := by decide +kernel
theorem d_Mo_at_0 : decode b_Mo_at 0 = .ok (.iload_n 1, 1) := by decide +kernel
theorem d_Mo_at_1 : decode b_Mo_at 1 = .ok (.aload_n 0, 1) := by decide +kernel
theorem d_Mo_at_2 : decode b_Mo_at 2 = .ok (.getfield 88, 3) := by decide +kernel
theorem d_Mo_at_5 : decode b_Mo_at 5 = .ok (.if_icmp .ge 12, 3) := by decide +kernel
theorem d_Mo_at_8 : decode b_Mo_at 8 = .ok (.aload_n 0, 1) := by decide +kernel
theorem d_Mo_at_9 : decode b_Mo_at 9 = .ok (.getfield 7, 3) := by decide +kernel
theorem d_Mo_at_12 : decode b_Mo_at 12 = .ok (.iload_n 1, 1) := by decide +kernel
theorem d_Mo_at_13 : decode b_Mo_at 13 = .ok (.iaload, 1) := by decide +kernel
theorem d_Mo_at_14 : decode b_Mo_at 14 = .ok (.goto 4, 3) := by decide +kernel
theorem d_Mo_at_17 : decode b_Mo_at 17 = .ok (.iconst 0, 1) := by decide +kernel
theorem d_Mo_at_18 : decode b_Mo_at 18 = .ok (.ireturn, 1) := by decide +kernel
theorem d_Mo_isLocation_0 : decode b_Mo_isLocation 0 = .ok (.iload_n 0, 1) := by decide +kernel
theorem d_Mo_isLocation_1 : decode b_Mo_isLocation 1 = .ok (.bipush 65, 2) := by decide +kernel
theorem d_Mo_isLocation_3 : decode b_Mo_isLocation 3 = .ok (.if_icmp .lt 13, 3) := by decide +kernel
theorem d_Mo_isLocation_6 : decode b_Mo_isLocation 6 = .ok (.iload_n 0, 1) := by decide +kernel
theorem d_Mo_isLocation_7 : decode b_Mo_isLocation 7 = .ok (.bipush 76, 2) := by decide +kernel
theorem d_Mo_isLocation_9 : decode b_Mo_isLocation 9 = .ok (.if_icmp .gt 7, 3) := by decide +kernel
theorem d_Mo_isLocation_12 : decode b_Mo_isLocation 12 = .ok (.iconst 1, 1) := by decide +kernel
theorem d_Mo_isLocation_13 : decode b_Mo_isLocation 13 = .ok (.goto 4, 3) := by decide +kernel
theorem d_Mo_isLocation_16 : decode b_Mo_isLocation 16 = .ok (.iconst 0, 1) := by decide +kernel
theorem d_Mo_isLocation_17 : decode b_Mo_isLocation 17 = .ok (.ireturn, 1) := by decide +kernel
theorem d_Mo_fail_0 : decode b_Mo_fail 0 = .ok (.aload_n 0, 1) := by decide +kernel
theorem d_Mo_fail_1 : decode b_Mo_fail 1 = .ok (.iload_n 1, 1) := by decide +kernel
theorem d_Mo_fail_2 : decode b_Mo_fail 2 = .ok (.putfield 85, 3) := by decide +kernel
theorem d_Mo_fail_5 : decode b_Mo_fail 5 = .ok (.iconst 0, 1) := by decide +kernel
theorem d_Mo_fail_6 : decode b_Mo_fail 6 = .ok (.ireturn, 1) := by decide +kernel
theorem d_Mo_isVariable_0 : decode b_Mo_isVariable 0 = .ok (.iload_n 0, 1) := by decide +kernel
theorem d_Mo_isVariable_1 : decode b_Mo_isVariable 1 = .ok (.bipush 120, 2) := by decide +kernel
theorem d_Mo_isVariable_3 : decode b_Mo_isVariable 3 = .ok (.if_icmp .lt 13, 3) := by decide +kernel
theorem d_Mo_isVariable_6 : decode b_Mo_isVariable 6 = .ok (.iload_n 0, 1) := by decide +kernel
theorem d_Mo_isVariable_7 : decode b_Mo_isVariable 7 = .ok (.bipush 122, 2) := by decide +kernel
theorem d_Mo_isVariable_9 : decode b_Mo_isVariable 9 = .ok (.if_icmp .gt 7, 3) := by decide +kernel
theorem d_Mo_isVariable_12 : decode b_Mo_isVariable 12 = .ok (.iconst 1, 1) := by decide +kernel
theorem d_Mo_isVariable_13 : decode b_Mo_isVariable 13 = .ok (.goto 4, 3) := by decide +kernel
theorem d_Mo_isVariable_16 : decode b_Mo_isVariable 16 = .ok (.iconst 0, 1) := by decide +kernel
theorem d_Mo_isVariable_17 : decode b_Mo_isVariable 17 = .ok (.ireturn, 1) := by decide +kernel
theorem d_Mo_relationAt_0 : decode b_Mo_relationAt 0 = .ok (.aload_n 0, 1) := by decide +kernel
theorem d_Mo_relationAt_1 : decode b_Mo_relationAt 1 = .ok (.iload_n 1, 1) := by decide +kernel
theorem d_Mo_relationAt_2 : decode b_Mo_relationAt 2 = .ok (.invokevirtual 102, 3) := by decide +kernel
theorem d_Mo_relationAt_5 : decode b_Mo_relationAt 5 = .ok (.istore_n 2, 1) := by decide +kernel
theorem d_Mo_relationAt_6 : decode b_Mo_relationAt 6 = .ok (.iload_n 2, 1) := by decide +kernel
theorem d_Mo_relationAt_7 : decode b_Mo_relationAt 7 = .ok (.ifCond .lt 14, 3) := by decide +kernel
theorem d_Mo_relationAt_10 : decode b_Mo_relationAt 10 = .ok (.aload_n 0, 1) := by decide +kernel
theorem d_Mo_relationAt_11 : decode b_Mo_relationAt 11 = .ok (.iload_n 2, 1) := by decide +kernel
theorem d_Mo_relationAt_12 : decode b_Mo_relationAt 12 = .ok (.invokevirtual 91, 3) := by decide +kernel
theorem d_Mo_relationAt_15 : decode b_Mo_relationAt 15 = .ok (.invokestatic 105, 3) := by decide +kernel
theorem d_Mo_relationAt_18 : decode b_Mo_relationAt 18 = .ok (.ifCond .ne 5, 3) := by decide +kernel
theorem d_Mo_relationAt_21 : decode b_Mo_relationAt 21 = .ok (.iconst (-1), 1) := by decide +kernel
theorem d_Mo_relationAt_22 : decode b_Mo_relationAt 22 = .ok (.ireturn, 1) := by decide +kernel
theorem d_Mo_relationAt_23 : decode b_Mo_relationAt 23 = .ok (.aload_n 0, 1) := by decide +kernel
theorem d_Mo_relationAt_24 : decode b_Mo_relationAt 24 = .ok (.iload_n 2, 1) := by decide +kernel
theorem d_Mo_relationAt_25 : decode b_Mo_relationAt 25 = .ok (.iconst 1, 1) := by decide +kernel
theorem d_Mo_relationAt_26 : decode b_Mo_relationAt 26 = .ok (.iadd, 1) := by decide +kernel
theorem d_Mo_relationAt_27 : decode b_Mo_relationAt 27 = .ok (.invokevirtual 102, 3) := by decide +kernel
theorem d_Mo_relationAt_30 : decode b_Mo_relationAt 30 = .ok (.aload_n 0, 1) := by decide +kernel
theorem d_Mo_relationAt_31 : decode b_Mo_relationAt 31 = .ok (.getfield 88, 3) := by decide +kernel
theorem d_Mo_relationAt_34 : decode b_Mo_relationAt 34 = .ok (.if_icmp .ne 7, 3) := by decide +kernel
theorem d_Mo_relationAt_37 : decode b_Mo_relationAt 37 = .ok (.iload_n 2, 1) := by decide +kernel
theorem d_Mo_relationAt_38 : decode b_Mo_relationAt 38 = .ok (.goto 4, 3) := by decide +kernel
theorem d_Mo_relationAt_41 : decode b_Mo_relationAt 41 = .ok (.iconst (-1), 1) := by decide +kernel
theorem d_Mo_relationAt_42 : decode b_Mo_relationAt 42 = .ok (.ireturn, 1) := by decide +kernel
theorem d_Mo_termEnd_0 : decode b_Mo_termEnd 0 = .ok (.iconst 0, 1) := by decide +kernel
theorem d_Mo_termEnd_1 : decode b_Mo_termEnd 1 = .ok (.istore_n 2, 1) := by decide +kernel
theorem d_Mo_termEnd_2 : decode b_Mo_termEnd 2 = .ok (.iconst 1, 1) := by decide +kernel
theorem d_Mo_termEnd_3 : decode b_Mo_termEnd 3 = .ok (.istore_n 3, 1) := by decide +kernel
theorem d_Mo_termEnd_4 : decode b_Mo_termEnd 4 = .ok (.iload_n 1, 1) := by decide +kernel
theorem d_Mo_termEnd_5 : decode b_Mo_termEnd 5 = .ok (.istore 4, 2) := by decide +kernel
theorem d_Mo_termEnd_7 : decode b_Mo_termEnd 7 = .ok (.iconst 1, 1) := by decide +kernel
theorem d_Mo_termEnd_8 : decode b_Mo_termEnd 8 = .ok (.istore 5, 2) := by decide +kernel
theorem d_Mo_termEnd_10 : decode b_Mo_termEnd 10 = .ok (.iload 4, 2) := by decide +kernel
theorem d_Mo_termEnd_12 : decode b_Mo_termEnd 12 = .ok (.aload_n 0, 1) := by decide +kernel
theorem d_Mo_termEnd_13 : decode b_Mo_termEnd 13 = .ok (.getfield 88, 3) := by decide +kernel
theorem d_Mo_termEnd_16 : decode b_Mo_termEnd 16 = .ok (.if_icmp .ge 121, 3) := by decide +kernel
theorem d_Mo_termEnd_19 : decode b_Mo_termEnd 19 = .ok (.iload 5, 2) := by decide +kernel
theorem d_Mo_termEnd_21 : decode b_Mo_termEnd 21 = .ok (.ifCond .eq 116, 3) := by decide +kernel
theorem d_Mo_termEnd_24 : decode b_Mo_termEnd 24 = .ok (.aload_n 0, 1) := by decide +kernel
theorem d_Mo_termEnd_25 : decode b_Mo_termEnd 25 = .ok (.iload 4, 2) := by decide +kernel
theorem d_Mo_termEnd_27 : decode b_Mo_termEnd 27 = .ok (.invokevirtual 91, 3) := by decide +kernel
theorem d_Mo_termEnd_30 : decode b_Mo_termEnd 30 = .ok (.istore 6, 2) := by decide +kernel
theorem d_Mo_termEnd_32 : decode b_Mo_termEnd 32 = .ok (.iload_n 3, 1) := by decide +kernel
theorem d_Mo_termEnd_33 : decode b_Mo_termEnd 33 = .ok (.ifCond .eq 30, 3) := by decide +kernel
theorem d_Mo_termEnd_36 : decode b_Mo_termEnd 36 = .ok (.iload 6, 2) := by decide +kernel
theorem d_Mo_termEnd_38 : decode b_Mo_termEnd 38 = .ok (.bipush 48, 2) := by decide +kernel
theorem d_Mo_termEnd_40 : decode b_Mo_termEnd 40 = .ok (.if_icmp .lt 10, 3) := by decide +kernel
theorem d_Mo_termEnd_43 : decode b_Mo_termEnd 43 = .ok (.iload 6, 2) := by decide +kernel
theorem d_Mo_termEnd_45 : decode b_Mo_termEnd 45 = .ok (.bipush 55, 2) := by decide +kernel
theorem d_Mo_termEnd_47 : decode b_Mo_termEnd 47 = .ok (.if_icmp .le 11, 3) := by decide +kernel
theorem d_Mo_termEnd_50 : decode b_Mo_termEnd 50 = .ok (.iload 6, 2) := by decide +kernel
theorem d_Mo_termEnd_52 : decode b_Mo_termEnd 52 = .ok (.invokestatic 95, 3) := by decide +kernel
theorem d_Mo_termEnd_55 : decode b_Mo_termEnd 55 = .ok (.ifCond .eq 8, 3) := by decide +kernel
theorem d_Mo_termEnd_58 : decode b_Mo_termEnd 58 = .ok (.iconst 0, 1) := by decide +kernel
theorem d_Mo_termEnd_59 : decode b_Mo_termEnd 59 = .ok (.istore_n 3, 1) := by decide +kernel
theorem d_Mo_termEnd_60 : decode b_Mo_termEnd 60 = .ok (.goto 66, 3) := by decide +kernel
theorem d_Mo_termEnd_63 : decode b_Mo_termEnd 63 = .ok (.iload_n 3, 1) := by decide +kernel
theorem d_Mo_termEnd_64 : decode b_Mo_termEnd 64 = .ok (.ifCond .eq 21, 3) := by decide +kernel
theorem d_Mo_termEnd_67 : decode b_Mo_termEnd 67 = .ok (.iload 6, 2) := by decide +kernel
theorem d_Mo_termEnd_69 : decode b_Mo_termEnd 69 = .ok (.bipush 40, 2) := by decide +kernel
theorem d_Mo_termEnd_71 : decode b_Mo_termEnd 71 = .ok (.if_icmp .ne 14, 3) := by decide +kernel
theorem d_Mo_termEnd_74 : decode b_Mo_termEnd 74 = .ok (.iload_n 2, 1) := by decide +kernel
theorem d_Mo_termEnd_75 : decode b_Mo_termEnd 75 = .ok (.iconst 4, 1) := by decide +kernel
theorem d_Mo_termEnd_76 : decode b_Mo_termEnd 76 = .ok (.if_icmp .ge 9, 3) := by decide +kernel
theorem d_Mo_termEnd_79 : decode b_Mo_termEnd 79 = .ok (.iinc 2 1, 3) := by decide +kernel
theorem d_Mo_termEnd_82 : decode b_Mo_termEnd 82 = .ok (.goto 44, 3) := by decide +kernel
theorem d_Mo_termEnd_85 : decode b_Mo_termEnd 85 = .ok (.iload_n 3, 1) := by decide +kernel
theorem d_Mo_termEnd_86 : decode b_Mo_termEnd 86 = .ok (.ifCond .ne 20, 3) := by decide +kernel
theorem d_Mo_termEnd_89 : decode b_Mo_termEnd 89 = .ok (.iload 6, 2) := by decide +kernel
theorem d_Mo_termEnd_91 : decode b_Mo_termEnd 91 = .ok (.bipush 41, 2) := by decide +kernel
theorem d_Mo_termEnd_93 : decode b_Mo_termEnd 93 = .ok (.if_icmp .ne 13, 3) := by decide +kernel
theorem d_Mo_termEnd_96 : decode b_Mo_termEnd 96 = .ok (.iload_n 2, 1) := by decide +kernel
theorem d_Mo_termEnd_97 : decode b_Mo_termEnd 97 = .ok (.ifCond .le 9, 3) := by decide +kernel
theorem d_Mo_termEnd_100 : decode b_Mo_termEnd 100 = .ok (.iinc 2 (-1), 3) := by decide +kernel
theorem d_Mo_termEnd_103 : decode b_Mo_termEnd 103 = .ok (.goto 23, 3) := by decide +kernel
theorem d_Mo_termEnd_106 : decode b_Mo_termEnd 106 = .ok (.iload_n 3, 1) := by decide +kernel
theorem d_Mo_termEnd_107 : decode b_Mo_termEnd 107 = .ok (.ifCond .ne 16, 3) := by decide +kernel
theorem d_Mo_termEnd_110 : decode b_Mo_termEnd 110 = .ok (.iload 6, 2) := by decide +kernel
theorem d_Mo_termEnd_112 : decode b_Mo_termEnd 112 = .ok (.invokestatic 99, 3) := by decide +kernel
theorem d_Mo_termEnd_115 : decode b_Mo_termEnd 115 = .ok (.ifCond .eq 8, 3) := by decide +kernel
theorem d_Mo_termEnd_118 : decode b_Mo_termEnd 118 = .ok (.iconst 1, 1) := by decide +kernel
theorem d_Mo_termEnd_119 : decode b_Mo_termEnd 119 = .ok (.istore_n 3, 1) := by decide +kernel
theorem d_Mo_termEnd_120 : decode b_Mo_termEnd 120 = .ok (.goto 6, 3) := by decide +kernel
theorem d_Mo_termEnd_123 : decode b_Mo_termEnd 123 = .ok (.iconst 0, 1) := by decide +kernel
theorem d_Mo_termEnd_124 : decode b_Mo_termEnd 124 = .ok (.istore 5, 2) := by decide +kernel
theorem d_Mo_termEnd_126 : decode b_Mo_termEnd 126 = .ok (.iload 5, 2) := by decide +kernel
theorem d_Mo_termEnd_128 : decode b_Mo_termEnd 128 = .ok (.ifCond .eq 6, 3) := by decide +kernel
theorem d_Mo_termEnd_131 : decode b_Mo_termEnd 131 = .ok (.iinc 4 1, 3) := by decide +kernel
theorem d_Mo_termEnd_134 : decode b_Mo_termEnd 134 = .ok (.goto (-124), 3) := by decide +kernel
theorem d_Mo_termEnd_137 : decode b_Mo_termEnd 137 = .ok (.iload_n 3, 1) := by decide +kernel
theorem d_Mo_termEnd_138 : decode b_Mo_termEnd 138 = .ok (.ifCond .ne 7, 3) := by decide +kernel
theorem d_Mo_termEnd_141 : decode b_Mo_termEnd 141 = .ok (.iload_n 2, 1) := by decide +kernel
theorem d_Mo_termEnd_142 : decode b_Mo_termEnd 142 = .ok (.ifCond .le 7, 3) := by decide +kernel
theorem d_Mo_termEnd_145 : decode b_Mo_termEnd 145 = .ok (.iconst (-1), 1) := by decide +kernel
theorem d_Mo_termEnd_146 : decode b_Mo_termEnd 146 = .ok (.goto 5, 3) := by decide +kernel
theorem d_Mo_termEnd_149 : decode b_Mo_termEnd 149 = .ok (.iload 4, 2) := by decide +kernel
theorem d_Mo_termEnd_151 : decode b_Mo_termEnd 151 = .ok (.ireturn, 1) := by decide +kernel
theorem d_Mo_isSign_0 : decode b_Mo_isSign 0 = .ok (.iload_n 0, 1) := by decide +kernel
theorem d_Mo_isSign_1 : decode b_Mo_isSign 1 = .ok (.bipush 43, 2) := by decide +kernel
theorem d_Mo_isSign_3 : decode b_Mo_isSign 3 = .ok (.if_icmp .eq 27, 3) := by decide +kernel
theorem d_Mo_isSign_6 : decode b_Mo_isSign 6 = .ok (.iload_n 0, 1) := by decide +kernel
theorem d_Mo_isSign_7 : decode b_Mo_isSign 7 = .ok (.bipush 45, 2) := by decide +kernel
theorem d_Mo_isSign_9 : decode b_Mo_isSign 9 = .ok (.if_icmp .eq 21, 3) := by decide +kernel
theorem d_Mo_isSign_12 : decode b_Mo_isSign 12 = .ok (.iload_n 0, 1) := by decide +kernel
theorem d_Mo_isSign_13 : decode b_Mo_isSign 13 = .ok (.bipush 42, 2) := by decide +kernel
theorem d_Mo_isSign_15 : decode b_Mo_isSign 15 = .ok (.if_icmp .eq 15, 3) := by decide +kernel
theorem d_Mo_isSign_18 : decode b_Mo_isSign 18 = .ok (.iload_n 0, 1) := by decide +kernel
theorem d_Mo_isSign_19 : decode b_Mo_isSign 19 = .ok (.bipush 38, 2) := by decide +kernel
theorem d_Mo_isSign_21 : decode b_Mo_isSign 21 = .ok (.if_icmp .eq 9, 3) := by decide +kernel
theorem d_Mo_isSign_24 : decode b_Mo_isSign 24 = .ok (.iload_n 0, 1) := by decide +kernel
theorem d_Mo_isSign_25 : decode b_Mo_isSign 25 = .ok (.bipush 94, 2) := by decide +kernel
theorem d_Mo_isSign_27 : decode b_Mo_isSign 27 = .ok (.if_icmp .ne 7, 3) := by decide +kernel
theorem d_Mo_isSign_30 : decode b_Mo_isSign 30 = .ok (.iconst 1, 1) := by decide +kernel
theorem d_Mo_isSign_31 : decode b_Mo_isSign 31 = .ok (.goto 4, 3) := by decide +kernel
theorem d_Mo_isSign_34 : decode b_Mo_isSign 34 = .ok (.iconst 0, 1) := by decide +kernel
theorem d_Mo_isSign_35 : decode b_Mo_isSign 35 = .ok (.ireturn, 1) := by decide +kernel
theorem d_Mo_isRelation_0 : decode b_Mo_isRelation 0 = .ok (.iload_n 0, 1) := by decide +kernel
theorem d_Mo_isRelation_1 : decode b_Mo_isRelation 1 = .ok (.bipush 60, 2) := by decide +kernel
theorem d_Mo_isRelation_3 : decode b_Mo_isRelation 3 = .ok (.if_icmp .eq 15, 3) := by decide +kernel
theorem d_Mo_isRelation_6 : decode b_Mo_isRelation 6 = .ok (.iload_n 0, 1) := by decide +kernel
theorem d_Mo_isRelation_7 : decode b_Mo_isRelation 7 = .ok (.bipush 61, 2) := by decide +kernel
theorem d_Mo_isRelation_9 : decode b_Mo_isRelation 9 = .ok (.if_icmp .eq 9, 3) := by decide +kernel
theorem d_Mo_isRelation_12 : decode b_Mo_isRelation 12 = .ok (.iload_n 0, 1) := by decide +kernel
theorem d_Mo_isRelation_13 : decode b_Mo_isRelation 13 = .ok (.bipush 35, 2) := by decide +kernel
theorem d_Mo_isRelation_15 : decode b_Mo_isRelation 15 = .ok (.if_icmp .ne 7, 3) := by decide +kernel
theorem d_Mo_isRelation_18 : decode b_Mo_isRelation 18 = .ok (.iconst 1, 1) := by decide +kernel
theorem d_Mo_isRelation_19 : decode b_Mo_isRelation 19 = .ok (.goto 4, 3) := by decide +kernel
theorem d_Mo_isRelation_22 : decode b_Mo_isRelation 22 = .ok (.iconst 0, 1) := by decide +kernel
theorem d_Mo_isRelation_23 : decode b_Mo_isRelation 23 = .ok (.ireturn, 1) := by decide +kernel
theorem d_Mo_worked_0 : decode b_Mo_worked 0 = .ok (.iconst 0, 1) := by decide +kernel
theorem d_Mo_worked_1 : decode b_Mo_worked 1 = .ok (.istore 4, 2) := by decide +kernel
theorem d_Mo_worked_3 : decode b_Mo_worked 3 = .ok (.aload_n 0, 1) := by decide +kernel
theorem d_Mo_worked_4 : decode b_Mo_worked 4 = .ok (.getfield 73, 3) := by decide +kernel
theorem d_Mo_worked_7 : decode b_Mo_worked 7 = .ok (.iconst 0, 1) := by decide +kernel
theorem d_Mo_worked_8 : decode b_Mo_worked 8 = .ok (.iconst 0, 1) := by decide +kernel
theorem d_Mo_worked_9 : decode b_Mo_worked 9 = .ok (.iastore, 1) := by decide +kernel
theorem d_Mo_worked_10 : decode b_Mo_worked 10 = .ok (.iload_n 1, 1) := by decide +kernel
theorem d_Mo_worked_11 : decode b_Mo_worked 11 = .ok (.istore 5, 2) := by decide +kernel
theorem d_Mo_worked_13 : decode b_Mo_worked 13 = .ok (.iload 5, 2) := by decide +kernel
theorem d_Mo_worked_15 : decode b_Mo_worked 15 = .ok (.iload_n 2, 1) := by decide +kernel
theorem d_Mo_worked_16 : decode b_Mo_worked 16 = .ok (.if_icmp .ge 104, 3) := by decide +kernel
theorem d_Mo_worked_19 : decode b_Mo_worked 19 = .ok (.aload_n 0, 1) := by decide +kernel
theorem d_Mo_worked_20 : decode b_Mo_worked 20 = .ok (.getfield 7, 3) := by decide +kernel
theorem d_Mo_worked_23 : decode b_Mo_worked 23 = .ok (.iload 5, 2) := by decide +kernel
theorem d_Mo_worked_25 : decode b_Mo_worked 25 = .ok (.iaload, 1) := by decide +kernel
theorem d_Mo_worked_26 : decode b_Mo_worked 26 = .ok (.istore 6, 2) := by decide +kernel
theorem d_Mo_worked_28 : decode b_Mo_worked 28 = .ok (.iload 6, 2) := by decide +kernel
theorem d_Mo_worked_30 : decode b_Mo_worked 30 = .ok (.bipush 40, 2) := by decide +kernel
theorem d_Mo_worked_32 : decode b_Mo_worked 32 = .ok (.if_icmp .ne 17, 3) := by decide +kernel
theorem d_Mo_worked_35 : decode b_Mo_worked 35 = .ok (.iinc 4 1, 3) := by decide +kernel
theorem d_Mo_worked_38 : decode b_Mo_worked 38 = .ok (.aload_n 0, 1) := by decide +kernel
theorem d_Mo_worked_39 : decode b_Mo_worked 39 = .ok (.getfield 73, 3) := by decide +kernel
theorem d_Mo_worked_42 : decode b_Mo_worked 42 = .ok (.iload 4, 2) := by decide +kernel
theorem d_Mo_worked_44 : decode b_Mo_worked 44 = .ok (.iconst 0, 1) := by decide +kernel
theorem d_Mo_worked_45 : decode b_Mo_worked 45 = .ok (.iastore, 1) := by decide +kernel
theorem d_Mo_worked_46 : decode b_Mo_worked 46 = .ok (.goto 68, 3) := by decide +kernel
theorem d_Mo_worked_49 : decode b_Mo_worked 49 = .ok (.iload 6, 2) := by decide +kernel
theorem d_Mo_worked_51 : decode b_Mo_worked 51 = .ok (.bipush 41, 2) := by decide +kernel
theorem d_Mo_worked_53 : decode b_Mo_worked 53 = .ok (.if_icmp .ne 24, 3) := by decide +kernel
theorem d_Mo_worked_56 : decode b_Mo_worked 56 = .ok (.iinc 4 (-1), 3) := by decide +kernel
theorem d_Mo_worked_59 : decode b_Mo_worked 59 = .ok (.aload_n 0, 1) := by decide +kernel
theorem d_Mo_worked_60 : decode b_Mo_worked 60 = .ok (.iload 4, 2) := by decide +kernel
theorem d_Mo_worked_62 : decode b_Mo_worked 62 = .ok (.aload_n 0, 1) := by decide +kernel
theorem d_Mo_worked_63 : decode b_Mo_worked 63 = .ok (.getfield 70, 3) := by decide +kernel
theorem d_Mo_worked_66 : decode b_Mo_worked 66 = .ok (.iload 4, 2) := by decide +kernel
theorem d_Mo_worked_68 : decode b_Mo_worked 68 = .ok (.iconst 1, 1) := by decide +kernel
theorem d_Mo_worked_69 : decode b_Mo_worked 69 = .ok (.iadd, 1) := by decide +kernel
theorem d_Mo_worked_70 : decode b_Mo_worked 70 = .ok (.iaload, 1) := by decide +kernel
theorem d_Mo_worked_71 : decode b_Mo_worked 71 = .ok (.invokevirtual 112, 3) := by decide +kernel
theorem d_Mo_worked_74 : decode b_Mo_worked 74 = .ok (.goto 40, 3) := by decide +kernel
theorem d_Mo_worked_77 : decode b_Mo_worked 77 = .ok (.iload 6, 2) := by decide +kernel
theorem d_Mo_worked_79 : decode b_Mo_worked 79 = .ok (.invokestatic 99, 3) := by decide +kernel
theorem d_Mo_worked_82 : decode b_Mo_worked 82 = .ok (.ifCond .eq 15, 3) := by decide +kernel
theorem d_Mo_worked_85 : decode b_Mo_worked 85 = .ok (.aload_n 0, 1) := by decide +kernel
theorem d_Mo_worked_86 : decode b_Mo_worked 86 = .ok (.getfield 73, 3) := by decide +kernel
theorem d_Mo_worked_89 : decode b_Mo_worked 89 = .ok (.iload 4, 2) := by decide +kernel
theorem d_Mo_worked_91 : decode b_Mo_worked 91 = .ok (.iload 6, 2) := by decide +kernel
theorem d_Mo_worked_93 : decode b_Mo_worked 93 = .ok (.iastore, 1) := by decide +kernel
theorem d_Mo_worked_94 : decode b_Mo_worked 94 = .ok (.goto 20, 3) := by decide +kernel
theorem d_Mo_worked_97 : decode b_Mo_worked 97 = .ok (.aload_n 0, 1) := by decide +kernel
theorem d_Mo_worked_98 : decode b_Mo_worked 98 = .ok (.iload 6, 2) := by decide +kernel
theorem d_Mo_worked_100 : decode b_Mo_worked 100 = .ok (.iload_n 3, 1) := by decide +kernel
theorem d_Mo_worked_101 : decode b_Mo_worked 101 = .ok (.invokevirtual 116, 3) := by decide +kernel
theorem d_Mo_worked_104 : decode b_Mo_worked 104 = .ok (.istore 7, 2) := by decide +kernel
theorem d_Mo_worked_106 : decode b_Mo_worked 106 = .ok (.aload_n 0, 1) := by decide +kernel
theorem d_Mo_worked_107 : decode b_Mo_worked 107 = .ok (.iload 4, 2) := by decide +kernel
theorem d_Mo_worked_109 : decode b_Mo_worked 109 = .ok (.iload 7, 2) := by decide +kernel
theorem d_Mo_worked_111 : decode b_Mo_worked 111 = .ok (.invokevirtual 112, 3) := by decide +kernel
theorem d_Mo_worked_114 : decode b_Mo_worked 114 = .ok (.iinc 5 1, 3) := by decide +kernel
theorem d_Mo_worked_117 : decode b_Mo_worked 117 = .ok (.goto (-104), 3) := by decide +kernel
theorem d_Mo_worked_120 : decode b_Mo_worked 120 = .ok (.aload_n 0, 1) := by decide +kernel
theorem d_Mo_worked_121 : decode b_Mo_worked 121 = .ok (.getfield 70, 3) := by decide +kernel
theorem d_Mo_worked_124 : decode b_Mo_worked 124 = .ok (.iconst 0, 1) := by decide +kernel
theorem d_Mo_worked_125 : decode b_Mo_worked 125 = .ok (.iaload, 1) := by decide +kernel
theorem d_Mo_worked_126 : decode b_Mo_worked 126 = .ok (.ireturn, 1) := by decide +kernel
theorem d_Mo_join_0 : decode b_Mo_join 0 = .ok (.aload_n 0, 1) := by decide +kernel
theorem d_Mo_join_1 : decode b_Mo_join 1 = .ok (.getfield 70, 3) := by decide +kernel
theorem d_Mo_join_4 : decode b_Mo_join 4 = .ok (.iload_n 1, 1) := by decide +kernel
theorem d_Mo_join_5 : decode b_Mo_join 5 = .ok (.iaload, 1) := by decide +kernel
theorem d_Mo_join_6 : decode b_Mo_join 6 = .ok (.istore_n 3, 1) := by decide +kernel
theorem d_Mo_join_7 : decode b_Mo_join 7 = .ok (.aload_n 0, 1) := by decide +kernel
theorem d_Mo_join_8 : decode b_Mo_join 8 = .ok (.getfield 73, 3) := by decide +kernel
theorem d_Mo_join_11 : decode b_Mo_join 11 = .ok (.iload_n 1, 1) := by decide +kernel
theorem d_Mo_join_12 : decode b_Mo_join 12 = .ok (.iaload, 1) := by decide +kernel
theorem d_Mo_join_13 : decode b_Mo_join 13 = .ok (.istore 4, 2) := by decide +kernel
theorem d_Mo_join_15 : decode b_Mo_join 15 = .ok (.aload_n 0, 1) := by decide +kernel
theorem d_Mo_join_16 : decode b_Mo_join 16 = .ok (.getfield 70, 3) := by decide +kernel
theorem d_Mo_join_19 : decode b_Mo_join 19 = .ok (.iload_n 1, 1) := by decide +kernel
theorem d_Mo_join_20 : decode b_Mo_join 20 = .ok (.iload 4, 2) := by decide +kernel
theorem d_Mo_join_22 : decode b_Mo_join 22 = .ok (.bipush 43, 2) := by decide +kernel
theorem d_Mo_join_24 : decode b_Mo_join 24 = .ok (.if_icmp .ne 9, 3) := by decide +kernel
theorem d_Mo_join_27 : decode b_Mo_join 27 = .ok (.iload_n 3, 1) := by decide +kernel
theorem d_Mo_join_28 : decode b_Mo_join 28 = .ok (.iload_n 2, 1) := by decide +kernel
theorem d_Mo_join_29 : decode b_Mo_join 29 = .ok (.iadd, 1) := by decide +kernel
theorem d_Mo_join_30 : decode b_Mo_join 30 = .ok (.goto 56, 3) := by decide +kernel
theorem d_Mo_join_33 : decode b_Mo_join 33 = .ok (.iload 4, 2) := by decide +kernel
theorem d_Mo_join_35 : decode b_Mo_join 35 = .ok (.bipush 45, 2) := by decide +kernel
theorem d_Mo_join_37 : decode b_Mo_join 37 = .ok (.if_icmp .ne 9, 3) := by decide +kernel
theorem d_Mo_join_40 : decode b_Mo_join 40 = .ok (.iload_n 3, 1) := by decide +kernel
theorem d_Mo_join_41 : decode b_Mo_join 41 = .ok (.iload_n 2, 1) := by decide +kernel
theorem d_Mo_join_42 : decode b_Mo_join 42 = .ok (.isub, 1) := by decide +kernel
theorem d_Mo_join_43 : decode b_Mo_join 43 = .ok (.goto 43, 3) := by decide +kernel
theorem d_Mo_join_46 : decode b_Mo_join 46 = .ok (.iload 4, 2) := by decide +kernel
theorem d_Mo_join_48 : decode b_Mo_join 48 = .ok (.bipush 42, 2) := by decide +kernel
theorem d_Mo_join_50 : decode b_Mo_join 50 = .ok (.if_icmp .ne 9, 3) := by decide +kernel
theorem d_Mo_join_53 : decode b_Mo_join 53 = .ok (.iload_n 3, 1) := by decide +kernel
theorem d_Mo_join_54 : decode b_Mo_join 54 = .ok (.iload_n 2, 1) := by decide +kernel
theorem d_Mo_join_55 : decode b_Mo_join 55 = .ok (.imul, 1) := by decide +kernel
theorem d_Mo_join_56 : decode b_Mo_join 56 = .ok (.goto 30, 3) := by decide +kernel
theorem d_Mo_join_59 : decode b_Mo_join 59 = .ok (.iload 4, 2) := by decide +kernel
theorem d_Mo_join_61 : decode b_Mo_join 61 = .ok (.bipush 38, 2) := by decide +kernel
theorem d_Mo_join_63 : decode b_Mo_join 63 = .ok (.if_icmp .ne 9, 3) := by decide +kernel
theorem d_Mo_join_66 : decode b_Mo_join 66 = .ok (.iload_n 3, 1) := by decide +kernel
theorem d_Mo_join_67 : decode b_Mo_join 67 = .ok (.iload_n 2, 1) := by decide +kernel
theorem d_Mo_join_68 : decode b_Mo_join 68 = .ok (.iand, 1) := by decide +kernel
theorem d_Mo_join_69 : decode b_Mo_join 69 = .ok (.goto 17, 3) := by decide +kernel
theorem d_Mo_join_72 : decode b_Mo_join 72 = .ok (.iload 4, 2) := by decide +kernel
theorem d_Mo_join_74 : decode b_Mo_join 74 = .ok (.bipush 94, 2) := by decide +kernel
theorem d_Mo_join_76 : decode b_Mo_join 76 = .ok (.if_icmp .ne 9, 3) := by decide +kernel
theorem d_Mo_join_79 : decode b_Mo_join 79 = .ok (.iload_n 3, 1) := by decide +kernel
theorem d_Mo_join_80 : decode b_Mo_join 80 = .ok (.iload_n 2, 1) := by decide +kernel
theorem d_Mo_join_81 : decode b_Mo_join 81 = .ok (.ixor, 1) := by decide +kernel
theorem d_Mo_join_82 : decode b_Mo_join 82 = .ok (.goto 4, 3) := by decide +kernel
theorem d_Mo_join_85 : decode b_Mo_join 85 = .ok (.iload_n 2, 1) := by decide +kernel
theorem d_Mo_join_86 : decode b_Mo_join 86 = .ok (.aload_n 0, 1) := by decide +kernel
theorem d_Mo_join_87 : decode b_Mo_join 87 = .ok (.getfield 79, 3) := by decide +kernel
theorem d_Mo_join_90 : decode b_Mo_join 90 = .ok (.iand, 1) := by decide +kernel
theorem d_Mo_join_91 : decode b_Mo_join 91 = .ok (.iastore, 1) := by decide +kernel
theorem d_Mo_join_92 : decode b_Mo_join 92 = .ok (.return_, 1) := by decide +kernel
theorem d_Mo_part_0 : decode b_Mo_part 0 = .ok (.iload_n 1, 1) := by decide +kernel
theorem d_Mo_part_1 : decode b_Mo_part 1 = .ok (.invokestatic 95, 3) := by decide +kernel
theorem d_Mo_part_4 : decode b_Mo_part 4 = .ok (.ifCond .eq 15, 3) := by decide +kernel
theorem d_Mo_part_7 : decode b_Mo_part 7 = .ok (.aload_n 0, 1) := by decide +kernel
theorem d_Mo_part_8 : decode b_Mo_part 8 = .ok (.iload_n 2, 1) := by decide +kernel
theorem d_Mo_part_9 : decode b_Mo_part 9 = .ok (.iload_n 1, 1) := by decide +kernel
theorem d_Mo_part_10 : decode b_Mo_part 10 = .ok (.bipush 120, 2) := by decide +kernel
theorem d_Mo_part_12 : decode b_Mo_part 12 = .ok (.isub, 1) := by decide +kernel
theorem d_Mo_part_13 : decode b_Mo_part 13 = .ok (.invokevirtual 108, 3) := by decide +kernel
theorem d_Mo_part_16 : decode b_Mo_part 16 = .ok (.goto 12, 3) := by decide +kernel
theorem d_Mo_part_19 : decode b_Mo_part 19 = .ok (.iload_n 1, 1) := by decide +kernel
theorem d_Mo_part_20 : decode b_Mo_part 20 = .ok (.bipush 48, 2) := by decide +kernel
theorem d_Mo_part_22 : decode b_Mo_part 22 = .ok (.isub, 1) := by decide +kernel
theorem d_Mo_part_23 : decode b_Mo_part 23 = .ok (.aload_n 0, 1) := by decide +kernel
theorem d_Mo_part_24 : decode b_Mo_part 24 = .ok (.getfield 79, 3) := by decide +kernel
theorem d_Mo_part_27 : decode b_Mo_part 27 = .ok (.iand, 1) := by decide +kernel
theorem d_Mo_part_28 : decode b_Mo_part 28 = .ok (.ireturn, 1) := by decide +kernel
theorem d_Mo_valueOf_0 : decode b_Mo_valueOf 0 = .ok (.iload_n 1, 1) := by decide +kernel
theorem d_Mo_valueOf_1 : decode b_Mo_valueOf 1 = .ok (.iload_n 2, 1) := by decide +kernel
theorem d_Mo_valueOf_2 : decode b_Mo_valueOf 2 = .ok (.aload_n 0, 1) := by decide +kernel
theorem d_Mo_valueOf_3 : decode b_Mo_valueOf 3 = .ok (.getfield 76, 3) := by decide +kernel
theorem d_Mo_valueOf_6 : decode b_Mo_valueOf 6 = .ok (.imul, 1) := by decide +kernel
theorem d_Mo_valueOf_7 : decode b_Mo_valueOf 7 = .ok (.ishr, 1) := by decide +kernel
theorem d_Mo_valueOf_8 : decode b_Mo_valueOf 8 = .ok (.aload_n 0, 1) := by decide +kernel
theorem d_Mo_valueOf_9 : decode b_Mo_valueOf 9 = .ok (.getfield 79, 3) := by decide +kernel
theorem d_Mo_valueOf_12 : decode b_Mo_valueOf 12 = .ok (.iand, 1) := by decide +kernel
theorem d_Mo_valueOf_13 : decode b_Mo_valueOf 13 = .ok (.ireturn, 1) := by decide +kernel
theorem d_Mo_atom_0 : decode b_Mo_atom 0 = .ok (.aload_n 0, 1) := by decide +kernel
theorem d_Mo_atom_1 : decode b_Mo_atom 1 = .ok (.iload_n 1, 1) := by decide +kernel
theorem d_Mo_atom_2 : decode b_Mo_atom 2 = .ok (.iload_n 2, 1) := by decide +kernel
theorem d_Mo_atom_3 : decode b_Mo_atom 3 = .ok (.iload_n 3, 1) := by decide +kernel
theorem d_Mo_atom_4 : decode b_Mo_atom 4 = .ok (.invokevirtual 119, 3) := by decide +kernel
theorem d_Mo_atom_7 : decode b_Mo_atom 7 = .ok (.istore 4, 2) := by decide +kernel
theorem d_Mo_atom_9 : decode b_Mo_atom 9 = .ok (.aload_n 0, 1) := by decide +kernel
theorem d_Mo_atom_10 : decode b_Mo_atom 10 = .ok (.iload_n 2, 1) := by decide +kernel
theorem d_Mo_atom_11 : decode b_Mo_atom 11 = .ok (.iconst 1, 1) := by decide +kernel
theorem d_Mo_atom_12 : decode b_Mo_atom 12 = .ok (.iadd, 1) := by decide +kernel
theorem d_Mo_atom_13 : decode b_Mo_atom 13 = .ok (.aload_n 0, 1) := by decide +kernel
theorem d_Mo_atom_14 : decode b_Mo_atom 14 = .ok (.getfield 88, 3) := by decide +kernel
theorem d_Mo_atom_17 : decode b_Mo_atom 17 = .ok (.iload_n 3, 1) := by decide +kernel
theorem d_Mo_atom_18 : decode b_Mo_atom 18 = .ok (.invokevirtual 119, 3) := by decide +kernel
theorem d_Mo_atom_21 : decode b_Mo_atom 21 = .ok (.istore 5, 2) := by decide +kernel
theorem d_Mo_atom_23 : decode b_Mo_atom 23 = .ok (.aload_n 0, 1) := by decide +kernel
theorem d_Mo_atom_24 : decode b_Mo_atom 24 = .ok (.getfield 7, 3) := by decide +kernel
theorem d_Mo_atom_27 : decode b_Mo_atom 27 = .ok (.iload_n 2, 1) := by decide +kernel
theorem d_Mo_atom_28 : decode b_Mo_atom 28 = .ok (.iaload, 1) := by decide +kernel
theorem d_Mo_atom_29 : decode b_Mo_atom 29 = .ok (.bipush 60, 2) := by decide +kernel
theorem d_Mo_atom_31 : decode b_Mo_atom 31 = .ok (.if_icmp .ne 18, 3) := by decide +kernel
theorem d_Mo_atom_34 : decode b_Mo_atom 34 = .ok (.iload 4, 2) := by decide +kernel
theorem d_Mo_atom_36 : decode b_Mo_atom 36 = .ok (.iload 5, 2) := by decide +kernel
theorem d_Mo_atom_38 : decode b_Mo_atom 38 = .ok (.if_icmp .ge 7, 3) := by decide +kernel
theorem d_Mo_atom_41 : decode b_Mo_atom 41 = .ok (.iconst 1, 1) := by decide +kernel
theorem d_Mo_atom_42 : decode b_Mo_atom 42 = .ok (.goto 45, 3) := by decide +kernel
theorem d_Mo_atom_45 : decode b_Mo_atom 45 = .ok (.iconst 0, 1) := by decide +kernel
theorem d_Mo_atom_46 : decode b_Mo_atom 46 = .ok (.goto 41, 3) := by decide +kernel
theorem d_Mo_atom_49 : decode b_Mo_atom 49 = .ok (.aload_n 0, 1) := by decide +kernel
theorem d_Mo_atom_50 : decode b_Mo_atom 50 = .ok (.getfield 7, 3) := by decide +kernel
theorem d_Mo_atom_53 : decode b_Mo_atom 53 = .ok (.iload_n 2, 1) := by decide +kernel
theorem d_Mo_atom_54 : decode b_Mo_atom 54 = .ok (.iaload, 1) := by decide +kernel
theorem d_Mo_atom_55 : decode b_Mo_atom 55 = .ok (.bipush 61, 2) := by decide +kernel
theorem d_Mo_atom_57 : decode b_Mo_atom 57 = .ok (.if_icmp .ne 18, 3) := by decide +kernel
theorem d_Mo_atom_60 : decode b_Mo_atom 60 = .ok (.iload 4, 2) := by decide +kernel
theorem d_Mo_atom_62 : decode b_Mo_atom 62 = .ok (.iload 5, 2) := by decide +kernel
theorem d_Mo_atom_64 : decode b_Mo_atom 64 = .ok (.if_icmp .ne 7, 3) := by decide +kernel
theorem d_Mo_atom_67 : decode b_Mo_atom 67 = .ok (.iconst 1, 1) := by decide +kernel
theorem d_Mo_atom_68 : decode b_Mo_atom 68 = .ok (.goto 19, 3) := by decide +kernel
theorem d_Mo_atom_71 : decode b_Mo_atom 71 = .ok (.iconst 0, 1) := by decide +kernel
theorem d_Mo_atom_72 : decode b_Mo_atom 72 = .ok (.goto 15, 3) := by decide +kernel
theorem d_Mo_atom_75 : decode b_Mo_atom 75 = .ok (.iload 4, 2) := by decide +kernel
theorem d_Mo_atom_77 : decode b_Mo_atom 77 = .ok (.iload 5, 2) := by decide +kernel
theorem d_Mo_atom_79 : decode b_Mo_atom 79 = .ok (.if_icmp .eq 7, 3) := by decide +kernel
theorem d_Mo_atom_82 : decode b_Mo_atom 82 = .ok (.iconst 1, 1) := by decide +kernel
theorem d_Mo_atom_83 : decode b_Mo_atom 83 = .ok (.goto 4, 3) := by decide +kernel
theorem d_Mo_atom_86 : decode b_Mo_atom 86 = .ok (.iconst 0, 1) := by decide +kernel
theorem d_Mo_atom_87 : decode b_Mo_atom 87 = .ok (.ireturn, 1) := by decide +kernel
theorem d_Mo_forget_0 : decode b_Mo_forget 0 = .ok (.aload_n 0, 1) := by decide +kernel
theorem d_Mo_forget_1 : decode b_Mo_forget 1 = .ok (.iconst (-1), 1) := by decide +kernel
theorem d_Mo_forget_2 : decode b_Mo_forget 2 = .ok (.putfield 35, 3) := by decide +kernel
theorem d_Mo_forget_5 : decode b_Mo_forget 5 = .ok (.aload_n 0, 1) := by decide +kernel
theorem d_Mo_forget_6 : decode b_Mo_forget 6 = .ok (.iconst 0, 1) := by decide +kernel
theorem d_Mo_forget_7 : decode b_Mo_forget 7 = .ok (.putfield 123, 3) := by decide +kernel
theorem d_Mo_forget_10 : decode b_Mo_forget 10 = .ok (.aload_n 0, 1) := by decide +kernel
theorem d_Mo_forget_11 : decode b_Mo_forget 11 = .ok (.iconst (-1), 1) := by decide +kernel
theorem d_Mo_forget_12 : decode b_Mo_forget 12 = .ok (.putfield 51, 3) := by decide +kernel
theorem d_Mo_forget_15 : decode b_Mo_forget 15 = .ok (.aload_n 0, 1) := by decide +kernel
theorem d_Mo_forget_16 : decode b_Mo_forget 16 = .ok (.iconst 0, 1) := by decide +kernel
theorem d_Mo_forget_17 : decode b_Mo_forget 17 = .ok (.putfield 126, 3) := by decide +kernel
theorem d_Mo_forget_20 : decode b_Mo_forget 20 = .ok (.return_, 1) := by decide +kernel
theorem d_Mo_predicate_0 : decode b_Mo_predicate 0 = .ok (.aload_n 0, 1) := by decide +kernel
theorem d_Mo_predicate_1 : decode b_Mo_predicate 1 = .ok (.iconst 0, 1) := by decide +kernel
theorem d_Mo_predicate_2 : decode b_Mo_predicate 2 = .ok (.putfield 85, 3) := by decide +kernel
theorem d_Mo_predicate_5 : decode b_Mo_predicate 5 = .ok (.aload_n 0, 1) := by decide +kernel
theorem d_Mo_predicate_6 : decode b_Mo_predicate 6 = .ok (.iconst 0, 1) := by decide +kernel
theorem d_Mo_predicate_7 : decode b_Mo_predicate 7 = .ok (.invokevirtual 135, 3) := by decide +kernel
theorem d_Mo_predicate_10 : decode b_Mo_predicate 10 = .ok (.istore_n 1, 1) := by decide +kernel
theorem d_Mo_predicate_11 : decode b_Mo_predicate 11 = .ok (.iload_n 1, 1) := by decide +kernel
theorem d_Mo_predicate_12 : decode b_Mo_predicate 12 = .ok (.ifCond .ge 9, 3) := by decide +kernel
theorem d_Mo_predicate_15 : decode b_Mo_predicate 15 = .ok (.aload_n 0, 1) := by decide +kernel
theorem d_Mo_predicate_16 : decode b_Mo_predicate 16 = .ok (.iconst 1, 1) := by decide +kernel
theorem d_Mo_predicate_17 : decode b_Mo_predicate 17 = .ok (.invokevirtual 132, 3) := by decide +kernel
theorem d_Mo_predicate_20 : decode b_Mo_predicate 20 = .ok (.ireturn, 1) := by decide +kernel
theorem d_Mo_predicate_21 : decode b_Mo_predicate 21 = .ok (.aload_n 0, 1) := by decide +kernel
theorem d_Mo_predicate_22 : decode b_Mo_predicate 22 = .ok (.getfield 155, 3) := by decide +kernel
theorem d_Mo_predicate_25 : decode b_Mo_predicate 25 = .ok (.bipush 12, 2) := by decide +kernel
theorem d_Mo_predicate_27 : decode b_Mo_predicate 27 = .ok (.if_icmp .ne 9, 3) := by decide +kernel
theorem d_Mo_predicate_30 : decode b_Mo_predicate 30 = .ok (.aload_n 0, 1) := by decide +kernel
theorem d_Mo_predicate_31 : decode b_Mo_predicate 31 = .ok (.iconst 2, 1) := by decide +kernel
theorem d_Mo_predicate_32 : decode b_Mo_predicate 32 = .ok (.invokevirtual 132, 3) := by decide +kernel
theorem d_Mo_predicate_35 : decode b_Mo_predicate 35 = .ok (.ireturn, 1) := by decide +kernel
theorem d_Mo_predicate_36 : decode b_Mo_predicate 36 = .ok (.iconst 0, 1) := by decide +kernel
theorem d_Mo_predicate_37 : decode b_Mo_predicate 37 = .ok (.istore_n 2, 1) := by decide +kernel
theorem d_Mo_predicate_38 : decode b_Mo_predicate 38 = .ok (.iload_n 2, 1) := by decide +kernel
theorem d_Mo_predicate_39 : decode b_Mo_predicate 39 = .ok (.aload_n 0, 1) := by decide +kernel
theorem d_Mo_predicate_40 : decode b_Mo_predicate 40 = .ok (.getfield 82, 3) := by decide +kernel
theorem d_Mo_predicate_43 : decode b_Mo_predicate 43 = .ok (.if_icmp .ge 22, 3) := by decide +kernel
theorem d_Mo_predicate_46 : decode b_Mo_predicate 46 = .ok (.aload_n 0, 1) := by decide +kernel
theorem d_Mo_predicate_47 : decode b_Mo_predicate 47 = .ok (.getfield 66, 3) := by decide +kernel
theorem d_Mo_predicate_50 : decode b_Mo_predicate 50 = .ok (.iload_n 2, 1) := by decide +kernel
theorem d_Mo_predicate_51 : decode b_Mo_predicate 51 = .ok (.aload_n 0, 1) := by decide +kernel
theorem d_Mo_predicate_52 : decode b_Mo_predicate 52 = .ok (.iconst 0, 1) := by decide +kernel
theorem d_Mo_predicate_53 : decode b_Mo_predicate 53 = .ok (.iload_n 1, 1) := by decide +kernel
theorem d_Mo_predicate_54 : decode b_Mo_predicate 54 = .ok (.iload_n 2, 1) := by decide +kernel
theorem d_Mo_predicate_55 : decode b_Mo_predicate 55 = .ok (.invokevirtual 141, 3) := by decide +kernel
theorem d_Mo_predicate_58 : decode b_Mo_predicate 58 = .ok (.bastore, 1) := by decide +kernel
theorem d_Mo_predicate_59 : decode b_Mo_predicate 59 = .ok (.iinc 2 1, 3) := by decide +kernel
theorem d_Mo_predicate_62 : decode b_Mo_predicate 62 = .ok (.goto (-24), 3) := by decide +kernel
theorem d_Mo_predicate_65 : decode b_Mo_predicate 65 = .ok (.aload_n 0, 1) := by decide +kernel
theorem d_Mo_predicate_66 : decode b_Mo_predicate 66 = .ok (.invokevirtual 158, 3) := by decide +kernel
theorem d_Mo_predicate_69 : decode b_Mo_predicate 69 = .ok (.aload_n 0, 1) := by decide +kernel
theorem d_Mo_predicate_70 : decode b_Mo_predicate 70 = .ok (.iconst 0, 1) := by decide +kernel
theorem d_Mo_predicate_71 : decode b_Mo_predicate 71 = .ok (.putfield 88, 3) := by decide +kernel
theorem d_Mo_predicate_74 : decode b_Mo_predicate 74 = .ok (.aload_n 0, 1) := by decide +kernel
theorem d_Mo_predicate_75 : decode b_Mo_predicate 75 = .ok (.invokevirtual 145, 3) := by decide +kernel
theorem d_Mo_predicate_78 : decode b_Mo_predicate 78 = .ok (.aload_n 0, 1) := by decide +kernel
theorem d_Mo_predicate_79 : decode b_Mo_predicate 79 = .ok (.getfield 155, 3) := by decide +kernel
theorem d_Mo_predicate_82 : decode b_Mo_predicate 82 = .ok (.iconst 1, 1) := by decide +kernel
theorem d_Mo_predicate_83 : decode b_Mo_predicate 83 = .ok (.isub, 1) := by decide +kernel
theorem d_Mo_predicate_84 : decode b_Mo_predicate 84 = .ok (.ireturn, 1) := by decide +kernel
theorem d_Mo_addWork_0 : decode b_Mo_addWork 0 = .ok (.bipush 8, 2) := by decide +kernel
theorem d_Mo_addWork_2 : decode b_Mo_addWork 2 = .ok (.aload_n 0, 1) := by decide +kernel
theorem d_Mo_addWork_3 : decode b_Mo_addWork 3 = .ok (.getfield 155, 3) := by decide +kernel
theorem d_Mo_addWork_6 : decode b_Mo_addWork 6 = .ok (.imul, 1) := by decide +kernel
theorem d_Mo_addWork_7 : decode b_Mo_addWork 7 = .ok (.istore_n 1, 1) := by decide +kernel
theorem d_Mo_addWork_8 : decode b_Mo_addWork 8 = .ok (.iload_n 1, 1) := by decide +kernel
theorem d_Mo_addWork_9 : decode b_Mo_addWork 9 = .ok (.bipush 8, 2) := by decide +kernel
theorem d_Mo_addWork_11 : decode b_Mo_addWork 11 = .ok (.aload_n 0, 1) := by decide +kernel
theorem d_Mo_addWork_12 : decode b_Mo_addWork 12 = .ok (.getfield 155, 3) := by decide +kernel
theorem d_Mo_addWork_15 : decode b_Mo_addWork 15 = .ok (.imul, 1) := by decide +kernel
theorem d_Mo_addWork_16 : decode b_Mo_addWork 16 = .ok (.bipush 8, 2) := by decide +kernel
theorem d_Mo_addWork_18 : decode b_Mo_addWork 18 = .ok (.iadd, 1) := by decide +kernel
theorem d_Mo_addWork_19 : decode b_Mo_addWork 19 = .ok (.if_icmp .ge 16, 3) := by decide +kernel
theorem d_Mo_addWork_22 : decode b_Mo_addWork 22 = .ok (.aload_n 0, 1) := by decide +kernel
theorem d_Mo_addWork_23 : decode b_Mo_addWork 23 = .ok (.getfield 29, 3) := by decide +kernel
theorem d_Mo_addWork_26 : decode b_Mo_addWork 26 = .ok (.iload_n 1, 1) := by decide +kernel
theorem d_Mo_addWork_27 : decode b_Mo_addWork 27 = .ok (.lconst 0, 1) := by decide +kernel
theorem d_Mo_addWork_28 : decode b_Mo_addWork 28 = .ok (.lastore, 1) := by decide +kernel
theorem d_Mo_addWork_29 : decode b_Mo_addWork 29 = .ok (.iinc 1 1, 3) := by decide +kernel
theorem d_Mo_addWork_32 : decode b_Mo_addWork 32 = .ok (.goto (-24), 3) := by decide +kernel
theorem d_Mo_addWork_35 : decode b_Mo_addWork 35 = .ok (.iconst 0, 1) := by decide +kernel
theorem d_Mo_addWork_36 : decode b_Mo_addWork 36 = .ok (.istore_n 1, 1) := by decide +kernel
theorem d_Mo_addWork_37 : decode b_Mo_addWork 37 = .ok (.iload_n 1, 1) := by decide +kernel
theorem d_Mo_addWork_38 : decode b_Mo_addWork 38 = .ok (.aload_n 0, 1) := by decide +kernel
theorem d_Mo_addWork_39 : decode b_Mo_addWork 39 = .ok (.getfield 82, 3) := by decide +kernel
theorem d_Mo_addWork_42 : decode b_Mo_addWork 42 = .ok (.if_icmp .ge 62, 3) := by decide +kernel
theorem d_Mo_addWork_45 : decode b_Mo_addWork 45 = .ok (.aload_n 0, 1) := by decide +kernel
theorem d_Mo_addWork_46 : decode b_Mo_addWork 46 = .ok (.getfield 66, 3) := by decide +kernel
theorem d_Mo_addWork_49 : decode b_Mo_addWork 49 = .ok (.iload_n 1, 1) := by decide +kernel
theorem d_Mo_addWork_50 : decode b_Mo_addWork 50 = .ok (.baload, 1) := by decide +kernel
theorem d_Mo_addWork_51 : decode b_Mo_addWork 51 = .ok (.ifCond .ne 6, 3) := by decide +kernel
theorem d_Mo_addWork_54 : decode b_Mo_addWork 54 = .ok (.goto 44, 3) := by decide +kernel
theorem d_Mo_addWork_57 : decode b_Mo_addWork 57 = .ok (.aload_n 0, 1) := by decide +kernel
theorem d_Mo_addWork_58 : decode b_Mo_addWork 58 = .ok (.getfield 29, 3) := by decide +kernel
theorem d_Mo_addWork_61 : decode b_Mo_addWork 61 = .ok (.bipush 8, 2) := by decide +kernel
theorem d_Mo_addWork_63 : decode b_Mo_addWork 63 = .ok (.aload_n 0, 1) := by decide +kernel
theorem d_Mo_addWork_64 : decode b_Mo_addWork 64 = .ok (.getfield 155, 3) := by decide +kernel
theorem d_Mo_addWork_67 : decode b_Mo_addWork 67 = .ok (.imul, 1) := by decide +kernel
theorem d_Mo_addWork_68 : decode b_Mo_addWork 68 = .ok (.iload_n 1, 1) := by decide +kernel
theorem d_Mo_addWork_69 : decode b_Mo_addWork 69 = .ok (.bipush 64, 2) := by decide +kernel
theorem d_Mo_addWork_71 : decode b_Mo_addWork 71 = .ok (.idiv, 1) := by decide +kernel
theorem d_Mo_addWork_72 : decode b_Mo_addWork 72 = .ok (.iadd, 1) := by decide +kernel
theorem d_Mo_addWork_73 : decode b_Mo_addWork 73 = .ok (.dup2, 1) := by decide +kernel
theorem d_Mo_addWork_74 : decode b_Mo_addWork 74 = .ok (.laload, 1) := by decide +kernel
theorem d_Mo_addWork_75 : decode b_Mo_addWork 75 = .ok (.lconst 1, 1) := by decide +kernel
theorem d_Mo_addWork_76 : decode b_Mo_addWork 76 = .ok (.iload_n 1, 1) := by decide +kernel
theorem d_Mo_addWork_77 : decode b_Mo_addWork 77 = .ok (.bipush 64, 2) := by decide +kernel
theorem d_Mo_addWork_79 : decode b_Mo_addWork 79 = .ok (.irem, 1) := by decide +kernel
theorem d_Mo_addWork_80 : decode b_Mo_addWork 80 = .ok (.lshl, 1) := by decide +kernel
theorem d_Mo_addWork_81 : decode b_Mo_addWork 81 = .ok (.lor, 1) := by decide +kernel
theorem d_Mo_addWork_82 : decode b_Mo_addWork 82 = .ok (.lastore, 1) := by decide +kernel
theorem d_Mo_addWork_83 : decode b_Mo_addWork 83 = .ok (.aload_n 0, 1) := by decide +kernel
theorem d_Mo_addWork_84 : decode b_Mo_addWork 84 = .ok (.getfield 32, 3) := by decide +kernel
theorem d_Mo_addWork_87 : decode b_Mo_addWork 87 = .ok (.iload_n 1, 1) := by decide +kernel
theorem d_Mo_addWork_88 : decode b_Mo_addWork 88 = .ok (.dup2, 1) := by decide +kernel
theorem d_Mo_addWork_89 : decode b_Mo_addWork 89 = .ok (.iaload, 1) := by decide +kernel
theorem d_Mo_addWork_90 : decode b_Mo_addWork 90 = .ok (.iconst 1, 1) := by decide +kernel
theorem d_Mo_addWork_91 : decode b_Mo_addWork 91 = .ok (.aload_n 0, 1) := by decide +kernel
theorem d_Mo_addWork_92 : decode b_Mo_addWork 92 = .ok (.getfield 155, 3) := by decide +kernel
theorem d_Mo_addWork_95 : decode b_Mo_addWork 95 = .ok (.ishl, 1) := by decide +kernel
theorem d_Mo_addWork_96 : decode b_Mo_addWork 96 = .ok (.ior, 1) := by decide +kernel
theorem d_Mo_addWork_97 : decode b_Mo_addWork 97 = .ok (.iastore, 1) := by decide +kernel
theorem d_Mo_addWork_98 : decode b_Mo_addWork 98 = .ok (.iinc 1 1, 3) := by decide +kernel
theorem d_Mo_addWork_101 : decode b_Mo_addWork 101 = .ok (.goto (-64), 3) := by decide +kernel
theorem d_Mo_addWork_104 : decode b_Mo_addWork 104 = .ok (.aload_n 0, 1) := by decide +kernel
theorem d_Mo_addWork_105 : decode b_Mo_addWork 105 = .ok (.dup, 1) := by decide +kernel
theorem d_Mo_addWork_106 : decode b_Mo_addWork 106 = .ok (.getfield 155, 3) := by decide +kernel
theorem d_Mo_addWork_109 : decode b_Mo_addWork 109 = .ok (.iconst 1, 1) := by decide +kernel
theorem d_Mo_addWork_110 : decode b_Mo_addWork 110 = .ok (.iadd, 1) := by decide +kernel
theorem d_Mo_addWork_111 : decode b_Mo_addWork 111 = .ok (.putfield 155, 3) := by decide +kernel
theorem d_Mo_addWork_114 : decode b_Mo_addWork 114 = .ok (.return_, 1) := by decide +kernel
theorem d_Mo_clear_0 : decode b_Mo_clear 0 = .ok (.aload_n 0, 1) := by decide +kernel
theorem d_Mo_clear_1 : decode b_Mo_clear 1 = .ok (.iconst 0, 1) := by decide +kernel
theorem d_Mo_clear_2 : decode b_Mo_clear 2 = .ok (.putfield 85, 3) := by decide +kernel
