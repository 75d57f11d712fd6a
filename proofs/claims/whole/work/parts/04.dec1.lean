theorem d_PP_init_0 : decode b_PP_init 0 = .ok (.aload_n 0, 1) := by decide +kernel
theorem d_PP_init_1 : decode b_PP_init 1 = .ok (.invokespecial 1, 3) := by decide +kernel
theorem d_PP_init_4 : decode b_PP_init 4 = .ok (.new 7, 3) := by decide +kernel
theorem d_PP_init_7 : decode b_PP_init 7 = .ok (.dup, 1) := by decide +kernel
theorem d_PP_init_8 : decode b_PP_init 8 = .ok (.iload_n 1, 1) := by decide +kernel
theorem d_PP_init_9 : decode b_PP_init 9 = .ok (.invokespecial 9, 3) := by decide +kernel
theorem d_PP_init_12 : decode b_PP_init 12 = .ok (.astore_n 2, 1) := by decide +kernel
theorem d_PP_init_13 : decode b_PP_init 13 = .ok (.new 12, 3) := by decide +kernel
theorem d_PP_init_16 : decode b_PP_init 16 = .ok (.dup, 1) := by decide +kernel
theorem d_PP_init_17 : decode b_PP_init 17 = .ok (.invokespecial 14, 3) := by decide +kernel
theorem d_PP_init_20 : decode b_PP_init 20 = .ok (.astore_n 3, 1) := by decide +kernel
theorem d_PP_init_21 : decode b_PP_init 21 = .ok (.new 15, 3) := by decide +kernel
theorem d_PP_init_24 : decode b_PP_init 24 = .ok (.dup, 1) := by decide +kernel
theorem d_PP_init_25 : decode b_PP_init 25 = .ok (.aload_n 2, 1) := by decide +kernel
theorem d_PP_init_26 : decode b_PP_init 26 = .ok (.invokespecial 17, 3) := by decide +kernel
theorem d_PP_init_29 : decode b_PP_init 29 = .ok (.astore 4, 2) := by decide +kernel
theorem d_PP_init_31 : decode b_PP_init 31 = .ok (.new 20, 3) := by decide +kernel
theorem d_PP_init_34 : decode b_PP_init 34 = .ok (.dup, 1) := by decide +kernel
theorem d_PP_init_35 : decode b_PP_init 35 = .ok (.aload_n 2, 1) := by decide +kernel
theorem d_PP_init_36 : decode b_PP_init 36 = .ok (.invokespecial 22, 3) := by decide +kernel
theorem d_PP_init_39 : decode b_PP_init 39 = .ok (.astore 5, 2) := by decide +kernel
theorem d_PP_init_41 : decode b_PP_init 41 = .ok (.new 23, 3) := by decide +kernel
theorem d_PP_init_44 : decode b_PP_init 44 = .ok (.dup, 1) := by decide +kernel
theorem d_PP_init_45 : decode b_PP_init 45 = .ok (.aload_n 2, 1) := by decide +kernel
theorem d_PP_init_46 : decode b_PP_init 46 = .ok (.invokespecial 25, 3) := by decide +kernel
theorem d_PP_init_49 : decode b_PP_init 49 = .ok (.astore 6, 2) := by decide +kernel
theorem d_PP_init_51 : decode b_PP_init 51 = .ok (.new 26, 3) := by decide +kernel
theorem d_PP_init_54 : decode b_PP_init 54 = .ok (.dup, 1) := by decide +kernel
theorem d_PP_init_55 : decode b_PP_init 55 = .ok (.aload_n 2, 1) := by decide +kernel
theorem d_PP_init_56 : decode b_PP_init 56 = .ok (.aload 5, 2) := by decide +kernel
theorem d_PP_init_58 : decode b_PP_init 58 = .ok (.aload 6, 2) := by decide +kernel
theorem d_PP_init_60 : decode b_PP_init 60 = .ok (.invokespecial 28, 3) := by decide +kernel
theorem d_PP_init_63 : decode b_PP_init 63 = .ok (.astore 7, 2) := by decide +kernel
theorem d_PP_init_65 : decode b_PP_init 65 = .ok (.aload_n 0, 1) := by decide +kernel
theorem d_PP_init_66 : decode b_PP_init 66 = .ok (.aload_n 2, 1) := by decide +kernel
theorem d_PP_init_67 : decode b_PP_init 67 = .ok (.putfield 31, 3) := by decide +kernel
theorem d_PP_init_70 : decode b_PP_init 70 = .ok (.aload_n 0, 1) := by decide +kernel
theorem d_PP_init_71 : decode b_PP_init 71 = .ok (.aload_n 3, 1) := by decide +kernel
theorem d_PP_init_72 : decode b_PP_init 72 = .ok (.putfield 37, 3) := by decide +kernel
theorem d_PP_init_75 : decode b_PP_init 75 = .ok (.aload_n 0, 1) := by decide +kernel
theorem d_PP_init_76 : decode b_PP_init 76 = .ok (.aload 4, 2) := by decide +kernel
theorem d_PP_init_78 : decode b_PP_init 78 = .ok (.putfield 41, 3) := by decide +kernel
theorem d_PP_init_81 : decode b_PP_init 81 = .ok (.aload_n 0, 1) := by decide +kernel
theorem d_PP_init_82 : decode b_PP_init 82 = .ok (.new 45, 3) := by decide +kernel
theorem d_PP_init_85 : decode b_PP_init 85 = .ok (.dup, 1) := by decide +kernel
theorem d_PP_init_86 : decode b_PP_init 86 = .ok (.aload_n 3, 1) := by decide +kernel
theorem d_PP_init_87 : decode b_PP_init 87 = .ok (.aload 4, 2) := by decide +kernel
theorem d_PP_init_89 : decode b_PP_init 89 = .ok (.invokespecial 47, 3) := by decide +kernel
theorem d_PP_init_92 : decode b_PP_init 92 = .ok (.putfield 50, 3) := by decide +kernel
theorem d_PP_init_95 : decode b_PP_init 95 = .ok (.aload_n 0, 1) := by decide +kernel
theorem d_PP_init_96 : decode b_PP_init 96 = .ok (.aload 5, 2) := by decide +kernel
theorem d_PP_init_98 : decode b_PP_init 98 = .ok (.putfield 54, 3) := by decide +kernel
theorem d_PP_init_101 : decode b_PP_init 101 = .ok (.aload_n 0, 1) := by decide +kernel
theorem d_PP_init_102 : decode b_PP_init 102 = .ok (.aload 6, 2) := by decide +kernel
theorem d_PP_init_104 : decode b_PP_init 104 = .ok (.putfield 58, 3) := by decide +kernel
theorem d_PP_init_107 : decode b_PP_init 107 = .ok (.aload_n 0, 1) := by decide +kernel
theorem d_PP_init_108 : decode b_PP_init 108 = .ok (.aload 7, 2) := by decide +kernel
theorem d_PP_init_110 : decode b_PP_init 110 = .ok (.putfield 62, 3) := by decide +kernel
theorem d_PP_init_113 : decode b_PP_init 113 = .ok (.aload_n 0, 1) := by decide +kernel
theorem d_PP_init_114 : decode b_PP_init 114 = .ok (.new 66, 3) := by decide +kernel
theorem d_PP_init_117 : decode b_PP_init 117 = .ok (.dup, 1) := by decide +kernel
theorem d_PP_init_118 : decode b_PP_init 118 = .ok (.aload_n 2, 1) := by decide +kernel
theorem d_PP_init_119 : decode b_PP_init 119 = .ok (.aload 5, 2) := by decide +kernel
theorem d_PP_init_121 : decode b_PP_init 121 = .ok (.aload 7, 2) := by decide +kernel
theorem d_PP_init_123 : decode b_PP_init 123 = .ok (.invokespecial 68, 3) := by decide +kernel
theorem d_PP_init_126 : decode b_PP_init 126 = .ok (.putfield 71, 3) := by decide +kernel
theorem d_PP_init_129 : decode b_PP_init 129 = .ok (.aload_n 0, 1) := by decide +kernel
theorem d_PP_init_130 : decode b_PP_init 130 = .ok (.new 75, 3) := by decide +kernel
theorem d_PP_init_133 : decode b_PP_init 133 = .ok (.dup, 1) := by decide +kernel
theorem d_PP_init_134 : decode b_PP_init 134 = .ok (.aload_n 2, 1) := by decide +kernel
theorem d_PP_init_135 : decode b_PP_init 135 = .ok (.aload 5, 2) := by decide +kernel
theorem d_PP_init_137 : decode b_PP_init 137 = .ok (.aload 6, 2) := by decide +kernel
theorem d_PP_init_139 : decode b_PP_init 139 = .ok (.aload 7, 2) := by decide +kernel
theorem d_PP_init_141 : decode b_PP_init 141 = .ok (.invokespecial 77, 3) := by decide +kernel
theorem d_PP_init_144 : decode b_PP_init 144 = .ok (.putfield 80, 3) := by decide +kernel
theorem d_PP_init_147 : decode b_PP_init 147 = .ok (.aload_n 0, 1) := by decide +kernel
theorem d_PP_init_148 : decode b_PP_init 148 = .ok (.iconst (-1), 1) := by decide +kernel
theorem d_PP_init_149 : decode b_PP_init 149 = .ok (.putfield 84, 3) := by decide +kernel
theorem d_PP_init_152 : decode b_PP_init 152 = .ok (.return_, 1) := by decide +kernel
theorem d_Sp_init_0 : decode b_Sp_init 0 = .ok (.aload_n 0, 1) := by decide +kernel
theorem d_Sp_init_1 : decode b_Sp_init 1 = .ok (.invokespecial 3, 3) := by decide +kernel
theorem d_Sp_init_4 : decode b_Sp_init 4 = .ok (.iconst 1, 1) := by decide +kernel
theorem d_Sp_init_5 : decode b_Sp_init 5 = .ok (.iload_n 1, 1) := by decide +kernel
theorem d_Sp_init_6 : decode b_Sp_init 6 = .ok (.iconst 3, 1) := by decide +kernel
theorem d_Sp_init_7 : decode b_Sp_init 7 = .ok (.iand, 1) := by decide +kernel
theorem d_Sp_init_8 : decode b_Sp_init 8 = .ok (.iadd, 1) := by decide +kernel
theorem d_Sp_init_9 : decode b_Sp_init 9 = .ok (.istore_n 2, 1) := by decide +kernel
theorem d_Sp_init_10 : decode b_Sp_init 10 = .ok (.aload_n 0, 1) := by decide +kernel
theorem d_Sp_init_11 : decode b_Sp_init 11 = .ok (.iload_n 2, 1) := by decide +kernel
theorem d_Sp_init_12 : decode b_Sp_init 12 = .ok (.iconst 3, 1) := by decide +kernel
theorem d_Sp_init_13 : decode b_Sp_init 13 = .ok (.if_icmp .le 7, 3) := by decide +kernel
theorem d_Sp_init_16 : decode b_Sp_init 16 = .ok (.iconst 3, 1) := by decide +kernel
theorem d_Sp_init_17 : decode b_Sp_init 17 = .ok (.goto 4, 3) := by decide +kernel
theorem d_Sp_init_20 : decode b_Sp_init 20 = .ok (.iload_n 2, 1) := by decide +kernel
theorem d_Sp_init_21 : decode b_Sp_init 21 = .ok (.putfield 9, 3) := by decide +kernel
theorem d_Sp_init_24 : decode b_Sp_init 24 = .ok (.aload_n 0, 1) := by decide +kernel
theorem d_Sp_init_25 : decode b_Sp_init 25 = .ok (.iconst 1, 1) := by decide +kernel
theorem d_Sp_init_26 : decode b_Sp_init 26 = .ok (.aload_n 0, 1) := by decide +kernel
theorem d_Sp_init_27 : decode b_Sp_init 27 = .ok (.getfield 9, 3) := by decide +kernel
theorem d_Sp_init_30 : decode b_Sp_init 30 = .ok (.ishl, 1) := by decide +kernel
theorem d_Sp_init_31 : decode b_Sp_init 31 = .ok (.iconst 1, 1) := by decide +kernel
theorem d_Sp_init_32 : decode b_Sp_init 32 = .ok (.isub, 1) := by decide +kernel
theorem d_Sp_init_33 : decode b_Sp_init 33 = .ok (.putfield 15, 3) := by decide +kernel
theorem d_Sp_init_36 : decode b_Sp_init 36 = .ok (.aload_n 0, 1) := by decide +kernel
theorem d_Sp_init_37 : decode b_Sp_init 37 = .ok (.iconst 1, 1) := by decide +kernel
theorem d_Sp_init_38 : decode b_Sp_init 38 = .ok (.iconst 3, 1) := by decide +kernel
theorem d_Sp_init_39 : decode b_Sp_init 39 = .ok (.aload_n 0, 1) := by decide +kernel
theorem d_Sp_init_40 : decode b_Sp_init 40 = .ok (.getfield 9, 3) := by decide +kernel
theorem d_Sp_init_43 : decode b_Sp_init 43 = .ok (.imul, 1) := by decide +kernel
theorem d_Sp_init_44 : decode b_Sp_init 44 = .ok (.ishl, 1) := by decide +kernel
theorem d_Sp_init_45 : decode b_Sp_init 45 = .ok (.putfield 18, 3) := by decide +kernel
theorem d_Sp_init_48 : decode b_Sp_init 48 = .ok (.return_, 1) := by decide +kernel
theorem d_Li_init_0 : decode b_Li_init 0 = .ok (.aload_n 0, 1) := by decide +kernel
theorem d_Li_init_1 : decode b_Li_init 1 = .ok (.invokespecial 3, 3) := by decide +kernel
theorem d_Li_init_4 : decode b_Li_init 4 = .ok (.aload_n 0, 1) := by decide +kernel
theorem d_Li_init_5 : decode b_Li_init 5 = .ok (.bipush 24, 2) := by decide +kernel
theorem d_Li_init_7 : decode b_Li_init 7 = .ok (.newarray .char, 2) := by decide +kernel
theorem d_Li_init_9 : decode b_Li_init 9 = .ok (.putfield 9, 3) := by decide +kernel
theorem d_Li_init_12 : decode b_Li_init 12 = .ok (.aload_n 0, 1) := by decide +kernel
theorem d_Li_init_13 : decode b_Li_init 13 = .ok (.iconst 0, 1) := by decide +kernel
theorem d_Li_init_14 : decode b_Li_init 14 = .ok (.putfield 15, 3) := by decide +kernel
theorem d_Li_init_17 : decode b_Li_init 17 = .ok (.return_, 1) := by decide +kernel
theorem d_Fo_init_0 : decode b_Fo_init 0 = .ok (.aload_n 0, 1) := by decide +kernel
theorem d_Fo_init_1 : decode b_Fo_init 1 = .ok (.invokespecial 3, 3) := by decide +kernel
theorem d_Fo_init_4 : decode b_Fo_init 4 = .ok (.aload_n 0, 1) := by decide +kernel
theorem d_Fo_init_5 : decode b_Fo_init 5 = .ok (.bipush 24, 2) := by decide +kernel
theorem d_Fo_init_7 : decode b_Fo_init 7 = .ok (.newarray .char, 2) := by decide +kernel
theorem d_Fo_init_9 : decode b_Fo_init 9 = .ok (.putfield 9, 3) := by decide +kernel
theorem d_Fo_init_12 : decode b_Fo_init 12 = .ok (.aload_n 0, 1) := by decide +kernel
theorem d_Fo_init_13 : decode b_Fo_init 13 = .ok (.bipush 24, 2) := by decide +kernel
theorem d_Fo_init_15 : decode b_Fo_init 15 = .ok (.newarray .int, 2) := by decide +kernel
theorem d_Fo_init_17 : decode b_Fo_init 17 = .ok (.putfield 15, 3) := by decide +kernel
theorem d_Fo_init_20 : decode b_Fo_init 20 = .ok (.aload_n 0, 1) := by decide +kernel
theorem d_Fo_init_21 : decode b_Fo_init 21 = .ok (.iconst 0, 1) := by decide +kernel
theorem d_Fo_init_22 : decode b_Fo_init 22 = .ok (.putfield 19, 3) := by decide +kernel
theorem d_Fo_init_25 : decode b_Fo_init 25 = .ok (.aload_n 0, 1) := by decide +kernel
theorem d_Fo_init_26 : decode b_Fo_init 26 = .ok (.aload_n 1, 1) := by decide +kernel
theorem d_Fo_init_27 : decode b_Fo_init 27 = .ok (.putfield 23, 3) := by decide +kernel
theorem d_Fo_init_30 : decode b_Fo_init 30 = .ok (.return_, 1) := by decide +kernel
theorem d_Pr_init_0 : decode b_Pr_init 0 = .ok (.aload_n 0, 1) := by decide +kernel
theorem d_Pr_init_1 : decode b_Pr_init 1 = .ok (.invokespecial 3, 3) := by decide +kernel
theorem d_Pr_init_4 : decode b_Pr_init 4 = .ok (.aload_n 0, 1) := by decide +kernel
theorem d_Pr_init_5 : decode b_Pr_init 5 = .ok (.bipush 20, 2) := by decide +kernel
theorem d_Pr_init_7 : decode b_Pr_init 7 = .ok (.newarray .int, 2) := by decide +kernel
theorem d_Pr_init_9 : decode b_Pr_init 9 = .ok (.putfield 9, 3) := by decide +kernel
theorem d_Pr_init_12 : decode b_Pr_init 12 = .ok (.aload_n 0, 1) := by decide +kernel
theorem d_Pr_init_13 : decode b_Pr_init 13 = .ok (.bipush 20, 2) := by decide +kernel
theorem d_Pr_init_15 : decode b_Pr_init 15 = .ok (.newarray .int, 2) := by decide +kernel
theorem d_Pr_init_17 : decode b_Pr_init 17 = .ok (.putfield 15, 3) := by decide +kernel
theorem d_Pr_init_20 : decode b_Pr_init 20 = .ok (.aload_n 0, 1) := by decide +kernel
theorem d_Pr_init_21 : decode b_Pr_init 21 = .ok (.bipush 20, 2) := by decide +kernel
theorem d_Pr_init_23 : decode b_Pr_init 23 = .ok (.newarray .int, 2) := by decide +kernel
theorem d_Pr_init_25 : decode b_Pr_init 25 = .ok (.putfield 18, 3) := by decide +kernel
theorem d_Pr_init_28 : decode b_Pr_init 28 = .ok (.aload_n 0, 1) := by decide +kernel
theorem d_Pr_init_29 : decode b_Pr_init 29 = .ok (.bipush 20, 2) := by decide +kernel
theorem d_Pr_init_31 : decode b_Pr_init 31 = .ok (.newarray .int, 2) := by decide +kernel
theorem d_Pr_init_33 : decode b_Pr_init 33 = .ok (.putfield 21, 3) := by decide +kernel
theorem d_Pr_init_36 : decode b_Pr_init 36 = .ok (.aload_n 0, 1) := by decide +kernel
theorem d_Pr_init_37 : decode b_Pr_init 37 = .ok (.iconst 0, 1) := by decide +kernel
theorem d_Pr_init_38 : decode b_Pr_init 38 = .ok (.putfield 24, 3) := by decide +kernel
theorem d_Pr_init_41 : decode b_Pr_init 41 = .ok (.aload_n 0, 1) := by decide +kernel
theorem d_Pr_init_42 : decode b_Pr_init 42 = .ok (.aload_n 1, 1) := by decide +kernel
theorem d_Pr_init_43 : decode b_Pr_init 43 = .ok (.putfield 28, 3) := by decide +kernel
theorem d_Pr_init_46 : decode b_Pr_init 46 = .ok (.aload_n 0, 1) := by decide +kernel
theorem d_Pr_init_47 : decode b_Pr_init 47 = .ok (.bipush 20, 2) := by decide +kernel
theorem d_Pr_init_49 : decode b_Pr_init 49 = .ok (.aload_n 1, 1) := by decide +kernel
theorem d_Pr_init_50 : decode b_Pr_init 50 = .ok (.getfield 32, 3) := by decide +kernel
theorem d_Pr_init_53 : decode b_Pr_init 53 = .ok (.multianewarray 37 2, 4) := by decide +kernel
theorem d_Pr_init_57 : decode b_Pr_init 57 = .ok (.putfield 39, 3) := by decide +kernel
theorem d_Pr_init_60 : decode b_Pr_init 60 = .ok (.return_, 1) := by decide +kernel
theorem d_Gr_init_0 : decode b_Gr_init 0 = .ok (.aload_n 0, 1) := by decide +kernel
theorem d_Gr_init_1 : decode b_Gr_init 1 = .ok (.invokespecial 3, 3) := by decide +kernel
theorem d_Gr_init_4 : decode b_Gr_init 4 = .ok (.aload_n 0, 1) := by decide +kernel
theorem d_Gr_init_5 : decode b_Gr_init 5 = .ok (.iconst 0, 1) := by decide +kernel
theorem d_Gr_init_6 : decode b_Gr_init 6 = .ok (.putfield 9, 3) := by decide +kernel
theorem d_Gr_init_9 : decode b_Gr_init 9 = .ok (.aload_n 0, 1) := by decide +kernel
theorem d_Gr_init_10 : decode b_Gr_init 10 = .ok (.iconst 0, 1) := by decide +kernel
theorem d_Gr_init_11 : decode b_Gr_init 11 = .ok (.putfield 15, 3) := by decide +kernel
theorem d_Gr_init_14 : decode b_Gr_init 14 = .ok (.aload_n 0, 1) := by decide +kernel
theorem d_Gr_init_15 : decode b_Gr_init 15 = .ok (.sipush 4096, 3) := by decide +kernel
theorem d_Gr_init_18 : decode b_Gr_init 18 = .ok (.newarray .int, 2) := by decide +kernel
theorem d_Gr_init_20 : decode b_Gr_init 20 = .ok (.putfield 18, 3) := by decide +kernel
theorem d_Gr_init_23 : decode b_Gr_init 23 = .ok (.aload_n 0, 1) := by decide +kernel
theorem d_Gr_init_24 : decode b_Gr_init 24 = .ok (.aload_n 1, 1) := by decide +kernel
theorem d_Gr_init_25 : decode b_Gr_init 25 = .ok (.putfield 22, 3) := by decide +kernel
theorem d_Gr_init_28 : decode b_Gr_init 28 = .ok (.aload_n 0, 1) := by decide +kernel
theorem d_Gr_init_29 : decode b_Gr_init 29 = .ok (.aload_n 1, 1) := by decide +kernel
theorem d_Gr_init_30 : decode b_Gr_init 30 = .ok (.getfield 26, 3) := by decide +kernel
theorem d_Gr_init_33 : decode b_Gr_init 33 = .ok (.newarray .int, 2) := by decide +kernel
theorem d_Gr_init_35 : decode b_Gr_init 35 = .ok (.putfield 31, 3) := by decide +kernel
theorem d_Gr_init_38 : decode b_Gr_init 38 = .ok (.aload_n 0, 1) := by decide +kernel
theorem d_Gr_init_39 : decode b_Gr_init 39 = .ok (.aload_n 1, 1) := by decide +kernel
theorem d_Gr_init_40 : decode b_Gr_init 40 = .ok (.getfield 26, 3) := by decide +kernel
theorem d_Gr_init_43 : decode b_Gr_init 43 = .ok (.newarray .int, 2) := by decide +kernel
theorem d_Gr_init_45 : decode b_Gr_init 45 = .ok (.putfield 34, 3) := by decide +kernel
theorem d_Gr_init_48 : decode b_Gr_init 48 = .ok (.aload_n 0, 1) := by decide +kernel
theorem d_Gr_init_49 : decode b_Gr_init 49 = .ok (.aload_n 1, 1) := by decide +kernel
theorem d_Gr_init_50 : decode b_Gr_init 50 = .ok (.getfield 26, 3) := by decide +kernel
theorem d_Gr_init_53 : decode b_Gr_init 53 = .ok (.newarray .int, 2) := by decide +kernel
theorem d_Gr_init_55 : decode b_Gr_init 55 = .ok (.putfield 37, 3) := by decide +kernel
theorem d_Gr_init_58 : decode b_Gr_init 58 = .ok (.aload_n 0, 1) := by decide +kernel
theorem d_Gr_init_59 : decode b_Gr_init 59 = .ok (.aload_n 1, 1) := by decide +kernel
theorem d_Gr_init_60 : decode b_Gr_init 60 = .ok (.getfield 26, 3) := by decide +kernel
theorem d_Gr_init_63 : decode b_Gr_init 63 = .ok (.iconst 1, 1) := by decide +kernel
theorem d_Gr_init_64 : decode b_Gr_init 64 = .ok (.iadd, 1) := by decide +kernel
theorem d_Gr_init_65 : decode b_Gr_init 65 = .ok (.newarray .int, 2) := by decide +kernel
theorem d_Gr_init_67 : decode b_Gr_init 67 = .ok (.putfield 40, 3) := by decide +kernel
theorem d_Gr_init_70 : decode b_Gr_init 70 = .ok (.aload_n 0, 1) := by decide +kernel
theorem d_Gr_init_71 : decode b_Gr_init 71 = .ok (.invokevirtual 43, 3) := by decide +kernel
theorem d_Gr_init_74 : decode b_Gr_init 74 = .ok (.aload_n 0, 1) := by decide +kernel
theorem d_Gr_init_75 : decode b_Gr_init 75 = .ok (.invokevirtual 46, 3) := by decide +kernel
theorem d_Gr_init_78 : decode b_Gr_init 78 = .ok (.return_, 1) := by decide +kernel
theorem d_Gr_numberGroups_0 : decode b_Gr_numberGroups 0 = .ok (.iconst 1, 1) := by decide +kernel
theorem d_Gr_numberGroups_1 : decode b_Gr_numberGroups 1 = .ok (.aload_n 0, 1) := by decide +kernel
theorem d_Gr_numberGroups_2 : decode b_Gr_numberGroups 2 = .ok (.getfield 9, 3) := by decide +kernel
theorem d_Gr_numberGroups_5 : decode b_Gr_numberGroups 5 = .ok (.ishl, 1) := by decide +kernel
theorem d_Gr_numberGroups_6 : decode b_Gr_numberGroups 6 = .ok (.istore_n 1, 1) := by decide +kernel
theorem d_Gr_numberGroups_7 : decode b_Gr_numberGroups 7 = .ok (.aload_n 0, 1) := by decide +kernel
theorem d_Gr_numberGroups_8 : decode b_Gr_numberGroups 8 = .ok (.getfield 18, 3) := by decide +kernel
theorem d_Gr_numberGroups_11 : decode b_Gr_numberGroups 11 = .ok (.iconst 0, 1) := by decide +kernel
theorem d_Gr_numberGroups_12 : decode b_Gr_numberGroups 12 = .ok (.iload_n 1, 1) := by decide +kernel
theorem d_Gr_numberGroups_13 : decode b_Gr_numberGroups 13 = .ok (.iconst (-1), 1) := by decide +kernel
theorem d_Gr_numberGroups_14 : decode b_Gr_numberGroups 14 = .ok (.invokestatic 55, 3) := by decide +kernel
theorem d_Gr_numberGroups_17 : decode b_Gr_numberGroups 17 = .ok (.iconst 0, 1) := by decide +kernel
theorem d_Gr_numberGroups_18 : decode b_Gr_numberGroups 18 = .ok (.istore_n 2, 1) := by decide +kernel
theorem d_Gr_numberGroups_19 : decode b_Gr_numberGroups 19 = .ok (.iload_n 2, 1) := by decide +kernel
theorem d_Gr_numberGroups_20 : decode b_Gr_numberGroups 20 = .ok (.aload_n 0, 1) := by decide +kernel
theorem d_Gr_numberGroups_21 : decode b_Gr_numberGroups 21 = .ok (.getfield 22, 3) := by decide +kernel
theorem d_Gr_numberGroups_24 : decode b_Gr_numberGroups 24 = .ok (.getfield 26, 3) := by decide +kernel
theorem d_Gr_numberGroups_27 : decode b_Gr_numberGroups 27 = .ok (.if_icmp .ge 21, 3) := by decide +kernel
theorem d_Gr_numberGroups_30 : decode b_Gr_numberGroups 30 = .ok (.aload_n 0, 1) := by decide +kernel
theorem d_Gr_numberGroups_31 : decode b_Gr_numberGroups 31 = .ok (.getfield 18, 3) := by decide +kernel
theorem d_Gr_numberGroups_34 : decode b_Gr_numberGroups 34 = .ok (.aload_n 0, 1) := by decide +kernel
theorem d_Gr_numberGroups_35 : decode b_Gr_numberGroups 35 = .ok (.getfield 31, 3) := by decide +kernel
theorem d_Gr_numberGroups_38 : decode b_Gr_numberGroups 38 = .ok (.iload_n 2, 1) := by decide +kernel
theorem d_Gr_numberGroups_39 : decode b_Gr_numberGroups 39 = .ok (.iaload, 1) := by decide +kernel
theorem d_Gr_numberGroups_40 : decode b_Gr_numberGroups 40 = .ok (.iconst 0, 1) := by decide +kernel
theorem d_Gr_numberGroups_41 : decode b_Gr_numberGroups 41 = .ok (.iastore, 1) := by decide +kernel
theorem d_Gr_numberGroups_42 : decode b_Gr_numberGroups 42 = .ok (.iinc 2 1, 3) := by decide +kernel
theorem d_Gr_numberGroups_45 : decode b_Gr_numberGroups 45 = .ok (.goto (-26), 3) := by decide +kernel
theorem d_Gr_numberGroups_48 : decode b_Gr_numberGroups 48 = .ok (.aload_n 0, 1) := by decide +kernel
theorem d_Gr_numberGroups_49 : decode b_Gr_numberGroups 49 = .ok (.iconst 0, 1) := by decide +kernel
theorem d_Gr_numberGroups_50 : decode b_Gr_numberGroups 50 = .ok (.putfield 15, 3) := by decide +kernel
theorem d_Gr_numberGroups_53 : decode b_Gr_numberGroups 53 = .ok (.iconst 0, 1) := by decide +kernel
theorem d_Gr_numberGroups_54 : decode b_Gr_numberGroups 54 = .ok (.istore_n 2, 1) := by decide +kernel
theorem d_Gr_numberGroups_55 : decode b_Gr_numberGroups 55 = .ok (.iload_n 2, 1) := by decide +kernel
theorem d_Gr_numberGroups_56 : decode b_Gr_numberGroups 56 = .ok (.iload_n 1, 1) := by decide +kernel
theorem d_Gr_numberGroups_57 : decode b_Gr_numberGroups 57 = .ok (.if_icmp .ge 38, 3) := by decide +kernel
theorem d_Gr_numberGroups_60 : decode b_Gr_numberGroups 60 = .ok (.aload_n 0, 1) := by decide +kernel
theorem d_Gr_numberGroups_61 : decode b_Gr_numberGroups 61 = .ok (.getfield 18, 3) := by decide +kernel
theorem d_Gr_numberGroups_64 : decode b_Gr_numberGroups 64 = .ok (.iload_n 2, 1) := by decide +kernel
theorem d_Gr_numberGroups_65 : decode b_Gr_numberGroups 65 = .ok (.iaload, 1) := by decide +kernel
theorem d_Gr_numberGroups_66 : decode b_Gr_numberGroups 66 = .ok (.ifCond .ne 23, 3) := by decide +kernel
theorem d_Gr_numberGroups_69 : decode b_Gr_numberGroups 69 = .ok (.aload_n 0, 1) := by decide +kernel
theorem d_Gr_numberGroups_70 : decode b_Gr_numberGroups 70 = .ok (.getfield 18, 3) := by decide +kernel
theorem d_Gr_numberGroups_73 : decode b_Gr_numberGroups 73 = .ok (.iload_n 2, 1) := by decide +kernel
theorem d_Gr_numberGroups_74 : decode b_Gr_numberGroups 74 = .ok (.aload_n 0, 1) := by decide +kernel
theorem d_Gr_numberGroups_75 : decode b_Gr_numberGroups 75 = .ok (.getfield 15, 3) := by decide +kernel
theorem d_Gr_numberGroups_78 : decode b_Gr_numberGroups 78 = .ok (.iastore, 1) := by decide +kernel
theorem d_Gr_numberGroups_79 : decode b_Gr_numberGroups 79 = .ok (.aload_n 0, 1) := by decide +kernel
theorem d_Gr_numberGroups_80 : decode b_Gr_numberGroups 80 = .ok (.dup, 1) := by decide +kernel
theorem d_Gr_numberGroups_81 : decode b_Gr_numberGroups 81 = .ok (.getfield 15, 3) := by decide +kernel
theorem d_Gr_numberGroups_84 : decode b_Gr_numberGroups 84 = .ok (.iconst 1, 1) := by decide +kernel
theorem d_Gr_numberGroups_85 : decode b_Gr_numberGroups 85 = .ok (.iadd, 1) := by decide +kernel
theorem d_Gr_numberGroups_86 : decode b_Gr_numberGroups 86 = .ok (.putfield 15, 3) := by decide +kernel
theorem d_Gr_numberGroups_89 : decode b_Gr_numberGroups 89 = .ok (.iinc 2 1, 3) := by decide +kernel
theorem d_Gr_numberGroups_92 : decode b_Gr_numberGroups 92 = .ok (.goto (-37), 3) := by decide +kernel
theorem d_Gr_numberGroups_95 : decode b_Gr_numberGroups 95 = .ok (.return_, 1) := by decide +kernel
theorem d_Ar_fill_aIIII_0 : decode b_Ar_fill_aIIII 0 = .ok (.aload_n 0, 1) := by decide +kernel
theorem d_Ar_fill_aIIII_1 : decode b_Ar_fill_aIIII 1 = .ok (.arraylength, 1) := by decide +kernel
theorem d_Ar_fill_aIIII_2 : decode b_Ar_fill_aIIII 2 = .ok (.iload_n 1, 1) := by decide +kernel
theorem d_Ar_fill_aIIII_3 : decode b_Ar_fill_aIIII 3 = .ok (.iload_n 2, 1) := by decide +kernel
theorem d_Ar_fill_aIIII_4 : decode b_Ar_fill_aIIII 4 = .ok (.invokestatic 13, 3) := by decide +kernel
theorem d_Ar_fill_aIIII_7 : decode b_Ar_fill_aIIII 7 = .ok (.iload_n 1, 1) := by decide +kernel
theorem d_Ar_fill_aIIII_8 : decode b_Ar_fill_aIIII 8 = .ok (.istore 4, 2) := by decide +kernel
theorem d_Ar_fill_aIIII_10 : decode b_Ar_fill_aIIII 10 = .ok (.iload 4, 2) := by decide +kernel
theorem d_Ar_fill_aIIII_12 : decode b_Ar_fill_aIIII 12 = .ok (.iload_n 2, 1) := by decide +kernel
theorem d_Ar_fill_aIIII_13 : decode b_Ar_fill_aIIII 13 = .ok (.if_icmp .ge 14, 3) := by decide +kernel
theorem d_Ar_fill_aIIII_16 : decode b_Ar_fill_aIIII 16 = .ok (.aload_n 0, 1) := by decide +kernel
theorem d_Ar_fill_aIIII_17 : decode b_Ar_fill_aIIII 17 = .ok (.iload 4, 2) := by decide +kernel
theorem d_Ar_fill_aIIII_19 : decode b_Ar_fill_aIIII 19 = .ok (.iload_n 3, 1) := by decide +kernel
theorem d_Ar_fill_aIIII_20 : decode b_Ar_fill_aIIII 20 = .ok (.iastore, 1) := by decide +kernel
theorem d_Ar_fill_aIIII_21 : decode b_Ar_fill_aIIII 21 = .ok (.iinc 4 1, 3) := by decide +kernel
theorem d_Ar_fill_aIIII_24 : decode b_Ar_fill_aIIII 24 = .ok (.goto (-14), 3) := by decide +kernel
theorem d_Ar_fill_aIIII_27 : decode b_Ar_fill_aIIII 27 = .ok (.return_, 1) := by decide +kernel
theorem d_Ar_rangeCheck_0 : decode b_Ar_rangeCheck 0 = .ok (.iload_n 1, 1) := by decide +kernel
theorem d_Ar_rangeCheck_1 : decode b_Ar_rangeCheck 1 = .ok (.iload_n 2, 1) := by decide +kernel
theorem d_Ar_rangeCheck_2 : decode b_Ar_rangeCheck 2 = .ok (.if_icmp .le 44, 3) := by decide +kernel
theorem d_Ar_rangeCheck_5 : decode b_Ar_rangeCheck 5 = .ok (.new 43, 3) := by decide +kernel
theorem d_Ar_rangeCheck_8 : decode b_Ar_rangeCheck 8 = .ok (.dup, 1) := by decide +kernel
theorem d_Ar_rangeCheck_9 : decode b_Ar_rangeCheck 9 = .ok (.new 45, 3) := by decide +kernel
theorem d_Ar_rangeCheck_12 : decode b_Ar_rangeCheck 12 = .ok (.dup, 1) := by decide +kernel
theorem d_Ar_rangeCheck_13 : decode b_Ar_rangeCheck 13 = .ok (.invokespecial 47, 3) := by decide +kernel
theorem d_Ar_rangeCheck_16 : decode b_Ar_rangeCheck 16 = .ok (.ldc 48, 2) := by decide +kernel
theorem d_Ar_rangeCheck_18 : decode b_Ar_rangeCheck 18 = .ok (.invokevirtual 50, 3) := by decide +kernel
theorem d_Ar_rangeCheck_21 : decode b_Ar_rangeCheck 21 = .ok (.iload_n 1, 1) := by decide +kernel
theorem d_Ar_rangeCheck_22 : decode b_Ar_rangeCheck 22 = .ok (.invokevirtual 54, 3) := by decide +kernel
theorem d_Ar_rangeCheck_25 : decode b_Ar_rangeCheck 25 = .ok (.ldc 57, 2) := by decide +kernel
theorem d_Ar_rangeCheck_27 : decode b_Ar_rangeCheck 27 = .ok (.invokevirtual 50, 3) := by decide +kernel
theorem d_Ar_rangeCheck_30 : decode b_Ar_rangeCheck 30 = .ok (.iload_n 2, 1) := by decide +kernel
theorem d_Ar_rangeCheck_31 : decode b_Ar_rangeCheck 31 = .ok (.invokevirtual 54, 3) := by decide +kernel
theorem d_Ar_rangeCheck_34 : decode b_Ar_rangeCheck 34 = .ok (.ldc 59, 2) := by decide +kernel
theorem d_Ar_rangeCheck_36 : decode b_Ar_rangeCheck 36 = .ok (.invokevirtual 50, 3) := by decide +kernel
theorem d_Ar_rangeCheck_39 : decode b_Ar_rangeCheck 39 = .ok (.invokevirtual 61, 3) := by decide +kernel
theorem d_Ar_rangeCheck_42 : decode b_Ar_rangeCheck 42 = .ok (.invokespecial 65, 3) := by decide +kernel
theorem d_Ar_rangeCheck_45 : decode b_Ar_rangeCheck 45 = .ok (.athrow, 1) := by decide +kernel
theorem d_Ar_rangeCheck_46 : decode b_Ar_rangeCheck 46 = .ok (.iload_n 1, 1) := by decide +kernel
theorem d_Ar_rangeCheck_47 : decode b_Ar_rangeCheck 47 = .ok (.ifCond .ge 12, 3) := by decide +kernel
theorem d_Ar_rangeCheck_50 : decode b_Ar_rangeCheck 50 = .ok (.new 68, 3) := by decide +kernel
theorem d_Ar_rangeCheck_53 : decode b_Ar_rangeCheck 53 = .ok (.dup, 1) := by decide +kernel
theorem d_Ar_rangeCheck_54 : decode b_Ar_rangeCheck 54 = .ok (.iload_n 1, 1) := by decide +kernel
theorem d_Ar_rangeCheck_55 : decode b_Ar_rangeCheck 55 = .ok (.invokespecial 70, 3) := by decide +kernel
theorem d_Ar_rangeCheck_58 : decode b_Ar_rangeCheck 58 = .ok (.athrow, 1) := by decide +kernel
theorem d_Ar_rangeCheck_59 : decode b_Ar_rangeCheck 59 = .ok (.iload_n 2, 1) := by decide +kernel
theorem d_Ar_rangeCheck_60 : decode b_Ar_rangeCheck 60 = .ok (.iload_n 0, 1) := by decide +kernel
theorem d_Ar_rangeCheck_61 : decode b_Ar_rangeCheck 61 = .ok (.if_icmp .le 12, 3) := by decide +kernel
theorem d_Ar_rangeCheck_64 : decode b_Ar_rangeCheck 64 = .ok (.new 68, 3) := by decide +kernel
theorem d_Ar_rangeCheck_67 : decode b_Ar_rangeCheck 67 = .ok (.dup, 1) := by decide +kernel
theorem d_Ar_rangeCheck_68 : decode b_Ar_rangeCheck 68 = .ok (.iload_n 2, 1) := by decide +kernel
theorem d_Ar_rangeCheck_69 : decode b_Ar_rangeCheck 69 = .ok (.invokespecial 70, 3) := by decide +kernel
theorem d_Ar_rangeCheck_72 : decode b_Ar_rangeCheck 72 = .ok (.athrow, 1) := by decide +kernel
theorem d_Ar_rangeCheck_73 : decode b_Ar_rangeCheck 73 = .ok (.return_, 1) := by decide +kernel
theorem d_Gr_placeStates_0 : decode b_Gr_placeStates 0 = .ok (.aload_n 0, 1) := by decide +kernel
theorem d_Gr_placeStates_1 : decode b_Gr_placeStates 1 = .ok (.getfield 40, 3) := by decide +kernel
theorem d_Gr_placeStates_4 : decode b_Gr_placeStates 4 = .ok (.iconst 0, 1) := by decide +kernel
theorem d_Gr_placeStates_5 : decode b_Gr_placeStates 5 = .ok (.invokestatic 49, 3) := by decide +kernel
theorem d_Gr_placeStates_8 : decode b_Gr_placeStates 8 = .ok (.iconst 0, 1) := by decide +kernel
theorem d_Gr_placeStates_9 : decode b_Gr_placeStates 9 = .ok (.istore_n 1, 1) := by decide +kernel
theorem d_Gr_placeStates_10 : decode b_Gr_placeStates 10 = .ok (.iload_n 1, 1) := by decide +kernel
theorem d_Gr_placeStates_11 : decode b_Gr_placeStates 11 = .ok (.aload_n 0, 1) := by decide +kernel
theorem d_Gr_placeStates_12 : decode b_Gr_placeStates 12 = .ok (.getfield 22, 3) := by decide +kernel
theorem d_Gr_placeStates_15 : decode b_Gr_placeStates 15 = .ok (.getfield 26, 3) := by decide +kernel
theorem d_Gr_placeStates_18 : decode b_Gr_placeStates 18 = .ok (.if_icmp .ge 41, 3) := by decide +kernel
theorem d_Gr_placeStates_21 : decode b_Gr_placeStates 21 = .ok (.aload_n 0, 1) := by decide +kernel
theorem d_Gr_placeStates_22 : decode b_Gr_placeStates 22 = .ok (.getfield 34, 3) := by decide +kernel
theorem d_Gr_placeStates_25 : decode b_Gr_placeStates 25 = .ok (.iload_n 1, 1) := by decide +kernel
theorem d_Gr_placeStates_26 : decode b_Gr_placeStates 26 = .ok (.aload_n 0, 1) := by decide +kernel
theorem d_Gr_placeStates_27 : decode b_Gr_placeStates 27 = .ok (.getfield 18, 3) := by decide +kernel
theorem d_Gr_placeStates_30 : decode b_Gr_placeStates 30 = .ok (.aload_n 0, 1) := by decide +kernel
theorem d_Gr_placeStates_31 : decode b_Gr_placeStates 31 = .ok (.getfield 31, 3) := by decide +kernel
theorem d_Gr_placeStates_34 : decode b_Gr_placeStates 34 = .ok (.iload_n 1, 1) := by decide +kernel
theorem d_Gr_placeStates_35 : decode b_Gr_placeStates 35 = .ok (.iaload, 1) := by decide +kernel
theorem d_Gr_placeStates_36 : decode b_Gr_placeStates 36 = .ok (.iaload, 1) := by decide +kernel
theorem d_Gr_placeStates_37 : decode b_Gr_placeStates 37 = .ok (.iastore, 1) := by decide +kernel
theorem d_Gr_placeStates_38 : decode b_Gr_placeStates 38 = .ok (.aload_n 0, 1) := by decide +kernel
theorem d_Gr_placeStates_39 : decode b_Gr_placeStates 39 = .ok (.getfield 40, 3) := by decide +kernel
theorem d_Gr_placeStates_42 : decode b_Gr_placeStates 42 = .ok (.aload_n 0, 1) := by decide +kernel
theorem d_Gr_placeStates_43 : decode b_Gr_placeStates 43 = .ok (.getfield 34, 3) := by decide +kernel
theorem d_Gr_placeStates_46 : decode b_Gr_placeStates 46 = .ok (.iload_n 1, 1) := by decide +kernel
theorem d_Gr_placeStates_47 : decode b_Gr_placeStates 47 = .ok (.iaload, 1) := by decide +kernel
theorem d_Gr_placeStates_48 : decode b_Gr_placeStates 48 = .ok (.dup2, 1) := by decide +kernel
theorem d_Gr_placeStates_49 : decode b_Gr_placeStates 49 = .ok (.iaload, 1) := by decide +kernel
theorem d_Gr_placeStates_50 : decode b_Gr_placeStates 50 = .ok (.iconst 1, 1) := by decide +kernel
theorem d_Gr_placeStates_51 : decode b_Gr_placeStates 51 = .ok (.iadd, 1) := by decide +kernel
theorem d_Gr_placeStates_52 : decode b_Gr_placeStates 52 = .ok (.iastore, 1) := by decide +kernel
theorem d_Gr_placeStates_53 : decode b_Gr_placeStates 53 = .ok (.iinc 1 1, 3) := by decide +kernel
theorem d_Gr_placeStates_56 : decode b_Gr_placeStates 56 = .ok (.goto (-46), 3) := by decide +kernel
theorem d_Gr_placeStates_59 : decode b_Gr_placeStates 59 = .ok (.iconst 1, 1) := by decide +kernel
theorem d_Gr_placeStates_60 : decode b_Gr_placeStates 60 = .ok (.istore_n 1, 1) := by decide +kernel
theorem d_Gr_placeStates_61 : decode b_Gr_placeStates 61 = .ok (.iload_n 1, 1) := by decide +kernel
theorem d_Gr_placeStates_62 : decode b_Gr_placeStates 62 = .ok (.aload_n 0, 1) := by decide +kernel
theorem d_Gr_placeStates_63 : decode b_Gr_placeStates 63 = .ok (.getfield 15, 3) := by decide +kernel
theorem d_Gr_placeStates_66 : decode b_Gr_placeStates 66 = .ok (.if_icmp .gt 26, 3) := by decide +kernel
theorem d_Gr_placeStates_69 : decode b_Gr_placeStates 69 = .ok (.aload_n 0, 1) := by decide +kernel
theorem d_Gr_placeStates_70 : decode b_Gr_placeStates 70 = .ok (.getfield 40, 3) := by decide +kernel
theorem d_Gr_placeStates_73 : decode b_Gr_placeStates 73 = .ok (.iload_n 1, 1) := by decide +kernel
theorem d_Gr_placeStates_74 : decode b_Gr_placeStates 74 = .ok (.dup2, 1) := by decide +kernel
theorem d_Gr_placeStates_75 : decode b_Gr_placeStates 75 = .ok (.iaload, 1) := by decide +kernel
theorem d_Gr_placeStates_76 : decode b_Gr_placeStates 76 = .ok (.aload_n 0, 1) := by decide +kernel
theorem d_Gr_placeStates_77 : decode b_Gr_placeStates 77 = .ok (.getfield 40, 3) := by decide +kernel
theorem d_Gr_placeStates_80 : decode b_Gr_placeStates 80 = .ok (.iload_n 1, 1) := by decide +kernel
theorem d_Gr_placeStates_81 : decode b_Gr_placeStates 81 = .ok (.iconst 1, 1) := by decide +kernel
theorem d_Gr_placeStates_82 : decode b_Gr_placeStates 82 = .ok (.isub, 1) := by decide +kernel
theorem d_Gr_placeStates_83 : decode b_Gr_placeStates 83 = .ok (.iaload, 1) := by decide +kernel
theorem d_Gr_placeStates_84 : decode b_Gr_placeStates 84 = .ok (.iadd, 1) := by decide +kernel
theorem d_Gr_placeStates_85 : decode b_Gr_placeStates 85 = .ok (.iastore, 1) := by decide +kernel
theorem d_Gr_placeStates_86 : decode b_Gr_placeStates 86 = .ok (.iinc 1 1, 3) := by decide +kernel
theorem d_Gr_placeStates_89 : decode b_Gr_placeStates 89 = .ok (.goto (-28), 3) := by decide +kernel
theorem d_Gr_placeStates_92 : decode b_Gr_placeStates 92 = .ok (.iconst 0, 1) := by decide +kernel
theorem d_Gr_placeStates_93 : decode b_Gr_placeStates 93 = .ok (.istore_n 1, 1) := by decide +kernel
theorem d_Gr_placeStates_94 : decode b_Gr_placeStates 94 = .ok (.iload_n 1, 1) := by decide +kernel
theorem d_Gr_placeStates_95 : decode b_Gr_placeStates 95 = .ok (.aload_n 0, 1) := by decide +kernel
theorem d_Gr_placeStates_96 : decode b_Gr_placeStates 96 = .ok (.getfield 22, 3) := by decide +kernel
theorem d_Gr_placeStates_99 : decode b_Gr_placeStates 99 = .ok (.getfield 26, 3) := by decide +kernel
theorem d_Gr_placeStates_102 : decode b_Gr_placeStates 102 = .ok (.if_icmp .ge 38, 3) := by decide +kernel
theorem d_Gr_placeStates_105 : decode b_Gr_placeStates 105 = .ok (.aload_n 0, 1) := by decide +kernel
theorem d_Gr_placeStates_106 : decode b_Gr_placeStates 106 = .ok (.getfield 34, 3) := by decide +kernel
theorem d_Gr_placeStates_109 : decode b_Gr_placeStates 109 = .ok (.iload_n 1, 1) := by decide +kernel
theorem d_Gr_placeStates_110 : decode b_Gr_placeStates 110 = .ok (.iaload, 1) := by decide +kernel
theorem d_Gr_placeStates_111 : decode b_Gr_placeStates 111 = .ok (.istore_n 2, 1) := by decide +kernel
theorem d_Gr_placeStates_112 : decode b_Gr_placeStates 112 = .ok (.aload_n 0, 1) := by decide +kernel
theorem d_Gr_placeStates_113 : decode b_Gr_placeStates 113 = .ok (.getfield 40, 3) := by decide +kernel
theorem d_Gr_placeStates_116 : decode b_Gr_placeStates 116 = .ok (.iload_n 2, 1) := by decide +kernel
theorem d_Gr_placeStates_117 : decode b_Gr_placeStates 117 = .ok (.dup2, 1) := by decide +kernel
theorem d_Gr_placeStates_118 : decode b_Gr_placeStates 118 = .ok (.iaload, 1) := by decide +kernel
theorem d_Gr_placeStates_119 : decode b_Gr_placeStates 119 = .ok (.iconst 1, 1) := by decide +kernel
theorem d_Gr_placeStates_120 : decode b_Gr_placeStates 120 = .ok (.isub, 1) := by decide +kernel
theorem d_Gr_placeStates_121 : decode b_Gr_placeStates 121 = .ok (.iastore, 1) := by decide +kernel
theorem d_Gr_placeStates_122 : decode b_Gr_placeStates 122 = .ok (.aload_n 0, 1) := by decide +kernel
theorem d_Gr_placeStates_123 : decode b_Gr_placeStates 123 = .ok (.getfield 37, 3) := by decide +kernel
theorem d_Gr_placeStates_126 : decode b_Gr_placeStates 126 = .ok (.aload_n 0, 1) := by decide +kernel
theorem d_Gr_placeStates_127 : decode b_Gr_placeStates 127 = .ok (.getfield 40, 3) := by decide +kernel
theorem d_Gr_placeStates_130 : decode b_Gr_placeStates 130 = .ok (.iload_n 2, 1) := by decide +kernel
theorem d_Gr_placeStates_131 : decode b_Gr_placeStates 131 = .ok (.iaload, 1) := by decide +kernel
theorem d_Gr_placeStates_132 : decode b_Gr_placeStates 132 = .ok (.iload_n 1, 1) := by decide +kernel
theorem d_Gr_placeStates_133 : decode b_Gr_placeStates 133 = .ok (.iastore, 1) := by decide +kernel
theorem d_Gr_placeStates_134 : decode b_Gr_placeStates 134 = .ok (.iinc 1 1, 3) := by decide +kernel
theorem d_Gr_placeStates_137 : decode b_Gr_placeStates 137 = .ok (.goto (-43), 3) := by decide +kernel
theorem d_Gr_placeStates_140 : decode b_Gr_placeStates 140 = .ok (.return_, 1) := by decide +kernel
theorem d_Ar_fill_aII_0 : decode b_Ar_fill_aII 0 = .ok (.iconst 0, 1) := by decide +kernel
theorem d_Ar_fill_aII_1 : decode b_Ar_fill_aII 1 = .ok (.istore_n 2, 1) := by decide +kernel
theorem d_Ar_fill_aII_2 : decode b_Ar_fill_aII 2 = .ok (.aload_n 0, 1) := by decide +kernel
theorem d_Ar_fill_aII_3 : decode b_Ar_fill_aII 3 = .ok (.arraylength, 1) := by decide +kernel
theorem d_Ar_fill_aII_4 : decode b_Ar_fill_aII 4 = .ok (.istore_n 3, 1) := by decide +kernel
theorem d_Ar_fill_aII_5 : decode b_Ar_fill_aII 5 = .ok (.iload_n 2, 1) := by decide +kernel
theorem d_Ar_fill_aII_6 : decode b_Ar_fill_aII 6 = .ok (.iload_n 3, 1) := by decide +kernel
theorem d_Ar_fill_aII_7 : decode b_Ar_fill_aII 7 = .ok (.if_icmp .ge 13, 3) := by decide +kernel
theorem d_Ar_fill_aII_10 : decode b_Ar_fill_aII 10 = .ok (.aload_n 0, 1) := by decide +kernel
theorem d_Ar_fill_aII_11 : decode b_Ar_fill_aII 11 = .ok (.iload_n 2, 1) := by decide +kernel
theorem d_Ar_fill_aII_12 : decode b_Ar_fill_aII 12 = .ok (.iload_n 1, 1) := by decide +kernel
theorem d_Ar_fill_aII_13 : decode b_Ar_fill_aII 13 = .ok (.iastore, 1) := by decide +kernel
theorem d_Ar_fill_aII_14 : decode b_Ar_fill_aII 14 = .ok (.iinc 2 1, 3) := by decide +kernel
theorem d_Ar_fill_aII_17 : decode b_Ar_fill_aII 17 = .ok (.goto (-12), 3) := by decide +kernel
theorem d_Ar_fill_aII_20 : decode b_Ar_fill_aII 20 = .ok (.return_, 1) := by decide +kernel
theorem d_Se_init_0 : decode b_Se_init 0 = .ok (.aload_n 0, 1) := by decide +kernel
theorem d_Se_init_1 : decode b_Se_init 1 = .ok (.invokespecial 3, 3) := by decide +kernel
theorem d_Se_init_4 : decode b_Se_init 4 = .ok (.aload_n 0, 1) := by decide +kernel
theorem d_Se_init_5 : decode b_Se_init 5 = .ok (.iconst 0, 1) := by decide +kernel
theorem d_Se_init_6 : decode b_Se_init 6 = .ok (.putfield 9, 3) := by decide +kernel
theorem d_Se_init_9 : decode b_Se_init 9 = .ok (.aload_n 0, 1) := by decide +kernel
theorem d_Se_init_10 : decode b_Se_init 10 = .ok (.sipush 200, 3) := by decide +kernel
theorem d_Se_init_13 : decode b_Se_init 13 = .ok (.newarray .int, 2) := by decide +kernel
theorem d_Se_init_15 : decode b_Se_init 15 = .ok (.putfield 15, 3) := by decide +kernel
theorem d_Se_init_18 : decode b_Se_init 18 = .ok (.aload_n 0, 1) := by decide +kernel
theorem d_Se_init_19 : decode b_Se_init 19 = .ok (.sipush 200, 3) := by decide +kernel
theorem d_Se_init_22 : decode b_Se_init 22 = .ok (.newarray .int, 2) := by decide +kernel
theorem d_Se_init_24 : decode b_Se_init 24 = .ok (.putfield 19, 3) := by decide +kernel
theorem d_Se_init_27 : decode b_Se_init 27 = .ok (.aload_n 0, 1) := by decide +kernel
theorem d_Se_init_28 : decode b_Se_init 28 = .ok (.sipush 200, 3) := by decide +kernel
theorem d_Se_init_31 : decode b_Se_init 31 = .ok (.newarray .int, 2) := by decide +kernel
theorem d_Se_init_33 : decode b_Se_init 33 = .ok (.putfield 22, 3) := by decide +kernel
theorem d_Se_init_36 : decode b_Se_init 36 = .ok (.aload_n 0, 1) := by decide +kernel
theorem d_Se_init_37 : decode b_Se_init 37 = .ok (.sipush 200, 3) := by decide +kernel
theorem d_Se_init_40 : decode b_Se_init 40 = .ok (.newarray .int, 2) := by decide +kernel
theorem d_Se_init_42 : decode b_Se_init 42 = .ok (.putfield 25, 3) := by decide +kernel
theorem d_Se_init_45 : decode b_Se_init 45 = .ok (.aload_n 0, 1) := by decide +kernel
theorem d_Se_init_46 : decode b_Se_init 46 = .ok (.sipush 200, 3) := by decide +kernel
theorem d_Se_init_49 : decode b_Se_init 49 = .ok (.newarray .int, 2) := by decide +kernel
theorem d_Se_init_51 : decode b_Se_init 51 = .ok (.putfield 28, 3) := by decide +kernel
theorem d_Se_init_54 : decode b_Se_init 54 = .ok (.aload_n 0, 1) := by decide +kernel
theorem d_Se_init_55 : decode b_Se_init 55 = .ok (.sipush 200, 3) := by decide +kernel
theorem d_Se_init_58 : decode b_Se_init 58 = .ok (.newarray .int, 2) := by decide +kernel
theorem d_Se_init_60 : decode b_Se_init 60 = .ok (.putfield 31, 3) := by decide +kernel
theorem d_Se_init_63 : decode b_Se_init 63 = .ok (.aload_n 0, 1) := by decide +kernel
theorem d_Se_init_64 : decode b_Se_init 64 = .ok (.iconst 0, 1) := by decide +kernel
theorem d_Se_init_65 : decode b_Se_init 65 = .ok (.putfield 34, 3) := by decide +kernel
theorem d_Se_init_68 : decode b_Se_init 68 = .ok (.aload_n 0, 1) := by decide +kernel
theorem d_Se_init_69 : decode b_Se_init 69 = .ok (.iconst (-1), 1) := by decide +kernel
theorem d_Se_init_70 : decode b_Se_init 70 = .ok (.putfield 38, 3) := by decide +kernel
theorem d_Se_init_73 : decode b_Se_init 73 = .ok (.aload_n 0, 1) := by decide +kernel
theorem d_Se_init_74 : decode b_Se_init 74 = .ok (.sipush 200, 3) := by decide +kernel
theorem d_Se_init_77 : decode b_Se_init 77 = .ok (.newarray .int, 2) := by decide +kernel
theorem d_Se_init_79 : decode b_Se_init 79 = .ok (.putfield 41, 3) := by decide +kernel
theorem d_Se_init_82 : decode b_Se_init 82 = .ok (.aload_n 0, 1) := by decide +kernel
theorem d_Se_init_83 : decode b_Se_init 83 = .ok (.aload_n 1, 1) := by decide +kernel
theorem d_Se_init_84 : decode b_Se_init 84 = .ok (.putfield 44, 3) := by decide +kernel
theorem d_Se_init_87 : decode b_Se_init 87 = .ok (.aload_n 0, 1) := by decide +kernel
theorem d_Se_init_88 : decode b_Se_init 88 = .ok (.aload_n 2, 1) := by decide +kernel
theorem d_Se_init_89 : decode b_Se_init 89 = .ok (.putfield 48, 3) := by decide +kernel
theorem d_Se_init_92 : decode b_Se_init 92 = .ok (.aload_n 0, 1) := by decide +kernel
theorem d_Se_init_93 : decode b_Se_init 93 = .ok (.aload_n 3, 1) := by decide +kernel
theorem d_Se_init_94 : decode b_Se_init 94 = .ok (.putfield 52, 3) := by decide +kernel
theorem d_Se_init_97 : decode b_Se_init 97 = .ok (.aload_n 0, 1) := by decide +kernel
theorem d_Se_init_98 : decode b_Se_init 98 = .ok (.bipush 12, 2) := by decide +kernel
theorem d_Se_init_100 : decode b_Se_init 100 = .ok (.aload_n 1, 1) := by decide +kernel
theorem d_Se_init_101 : decode b_Se_init 101 = .ok (.getfield 56, 3) := by decide +kernel
theorem d_Se_init_104 : decode b_Se_init 104 = .ok (.imul, 1) := by decide +kernel
theorem d_Se_init_105 : decode b_Se_init 105 = .ok (.newarray .byte, 2) := by decide +kernel
theorem d_Se_init_107 : decode b_Se_init 107 = .ok (.putfield 61, 3) := by decide +kernel
theorem d_Se_init_110 : decode b_Se_init 110 = .ok (.aload_n 0, 1) := by decide +kernel
theorem d_Se_init_111 : decode b_Se_init 111 = .ok (.aload_n 1, 1) := by decide +kernel
theorem d_Se_init_112 : decode b_Se_init 112 = .ok (.getfield 56, 3) := by decide +kernel
theorem d_Se_init_115 : decode b_Se_init 115 = .ok (.newarray .byte, 2) := by decide +kernel
theorem d_Se_init_117 : decode b_Se_init 117 = .ok (.putfield 65, 3) := by decide +kernel
theorem d_Se_init_120 : decode b_Se_init 120 = .ok (.return_, 1) := by decide +kernel
theorem d_Pa_init_0 : decode b_Pa_init 0 = .ok (.aload_n 0, 1) := by decide +kernel
theorem d_Pa_init_1 : decode b_Pa_init 1 = .ok (.invokespecial 3, 3) := by decide +kernel
theorem d_Pa_init_4 : decode b_Pa_init 4 = .ok (.aload_n 0, 1) := by decide +kernel
theorem d_Pa_init_5 : decode b_Pa_init 5 = .ok (.iconst 0, 1) := by decide +kernel
theorem d_Pa_init_6 : decode b_Pa_init 6 = .ok (.putfield 9, 3) := by decide +kernel
theorem d_Pa_init_9 : decode b_Pa_init 9 = .ok (.aload_n 0, 1) := by decide +kernel
theorem d_Pa_init_10 : decode b_Pa_init 10 = .ok (.aload_n 1, 1) := by decide +kernel
theorem d_Pa_init_11 : decode b_Pa_init 11 = .ok (.putfield 15, 3) := by decide +kernel
theorem d_Pa_init_14 : decode b_Pa_init 14 = .ok (.aload_n 0, 1) := by decide +kernel
theorem d_Pa_init_15 : decode b_Pa_init 15 = .ok (.aload_n 2, 1) := by decide +kernel
theorem d_Pa_init_16 : decode b_Pa_init 16 = .ok (.putfield 19, 3) := by decide +kernel
theorem d_Pa_init_19 : decode b_Pa_init 19 = .ok (.return_, 1) := by decide +kernel
theorem d_Re_init_0 : decode b_Re_init 0 = .ok (.aload_n 0, 1) := by decide +kernel
theorem d_Re_init_1 : decode b_Re_init 1 = .ok (.invokespecial 3, 3) := by decide +kernel
theorem d_Re_init_4 : decode b_Re_init 4 = .ok (.aload_n 0, 1) := by decide +kernel
theorem d_Re_init_5 : decode b_Re_init 5 = .ok (.sipush 200, 3) := by decide +kernel
theorem d_Re_init_8 : decode b_Re_init 8 = .ok (.newarray .int, 2) := by decide +kernel
theorem d_Re_init_10 : decode b_Re_init 10 = .ok (.putfield 9, 3) := by decide +kernel
theorem d_Re_init_13 : decode b_Re_init 13 = .ok (.aload_n 0, 1) := by decide +kernel
theorem d_Re_init_14 : decode b_Re_init 14 = .ok (.iconst 0, 1) := by decide +kernel
theorem d_Re_init_15 : decode b_Re_init 15 = .ok (.putfield 15, 3) := by decide +kernel
theorem d_Re_init_18 : decode b_Re_init 18 = .ok (.aload_n 0, 1) := by decide +kernel
theorem d_Re_init_19 : decode b_Re_init 19 = .ok (.aload_n 1, 1) := by decide +kernel
theorem d_Re_init_20 : decode b_Re_init 20 = .ok (.putfield 19, 3) := by decide +kernel
theorem d_Re_init_23 : decode b_Re_init 23 = .ok (.aload_n 0, 1) := by decide +kernel
theorem d_Re_init_24 : decode b_Re_init 24 = .ok (.aload_n 2, 1) := by decide +kernel
theorem d_Re_init_25 : decode b_Re_init 25 = .ok (.putfield 23, 3) := by decide +kernel
theorem d_Re_init_28 : decode b_Re_init 28 = .ok (.aload_n 0, 1) := by decide +kernel
theorem d_Re_init_29 : decode b_Re_init 29 = .ok (.aload_n 3, 1) := by decide +kernel
theorem d_Re_init_30 : decode b_Re_init 30 = .ok (.putfield 27, 3) := by decide +kernel
theorem d_Re_init_33 : decode b_Re_init 33 = .ok (.aload_n 0, 1) := by decide +kernel
theorem d_Re_init_34 : decode b_Re_init 34 = .ok (.sipush 200, 3) := by decide +kernel
theorem d_Re_init_37 : decode b_Re_init 37 = .ok (.aload_n 1, 1) := by decide +kernel
theorem d_Re_init_38 : decode b_Re_init 38 = .ok (.getfield 31, 3) := by decide +kernel
theorem d_Re_init_41 : decode b_Re_init 41 = .ok (.bipush 63, 2) := by decide +kernel
theorem d_Re_init_43 : decode b_Re_init 43 = .ok (.iadd, 1) := by decide +kernel
theorem d_Re_init_44 : decode b_Re_init 44 = .ok (.bipush 64, 2) := by decide +kernel
theorem d_Re_init_46 : decode b_Re_init 46 = .ok (.idiv, 1) := by decide +kernel
theorem d_Re_init_47 : decode b_Re_init 47 = .ok (.multianewarray 36 2, 4) := by decide +kernel
theorem d_Re_init_51 : decode b_Re_init 51 = .ok (.putfield 38, 3) := by decide +kernel
theorem d_Re_init_54 : decode b_Re_init 54 = .ok (.return_, 1) := by decide +kernel
theorem d_Rf_init_0 : decode b_Rf_init 0 = .ok (.aload_n 0, 1) := by decide +kernel
theorem d_Rf_init_1 : decode b_Rf_init 1 = .ok (.invokespecial 3, 3) := by decide +kernel
theorem d_Rf_init_4 : decode b_Rf_init 4 = .ok (.aload_n 0, 1) := by decide +kernel
theorem d_Rf_init_5 : decode b_Rf_init 5 = .ok (.iconst 0, 1) := by decide +kernel
theorem d_Rf_init_6 : decode b_Rf_init 6 = .ok (.putfield 9, 3) := by decide +kernel
theorem d_Rf_init_9 : decode b_Rf_init 9 = .ok (.aload_n 0, 1) := by decide +kernel
theorem d_Rf_init_10 : decode b_Rf_init 10 = .ok (.aload_n 1, 1) := by decide +kernel
theorem d_Rf_init_11 : decode b_Rf_init 11 = .ok (.putfield 15, 3) := by decide +kernel
theorem d_Rf_init_14 : decode b_Rf_init 14 = .ok (.aload_n 0, 1) := by decide +kernel
theorem d_Rf_init_15 : decode b_Rf_init 15 = .ok (.aload_n 2, 1) := by decide +kernel
theorem d_Rf_init_16 : decode b_Rf_init 16 = .ok (.putfield 19, 3) := by decide +kernel
theorem d_Rf_init_19 : decode b_Rf_init 19 = .ok (.aload_n 0, 1) := by decide +kernel
theorem d_Rf_init_20 : decode b_Rf_init 20 = .ok (.aload_n 3, 1) := by decide +kernel
theorem d_Rf_init_21 : decode b_Rf_init 21 = .ok (.putfield 23, 3) := by decide +kernel
theorem d_Rf_init_24 : decode b_Rf_init 24 = .ok (.aload_n 0, 1) := by decide +kernel
theorem d_Rf_init_25 : decode b_Rf_init 25 = .ok (.aload 4, 2) := by decide +kernel
theorem d_Rf_init_27 : decode b_Rf_init 27 = .ok (.putfield 27, 3) := by decide +kernel
theorem d_Rf_init_30 : decode b_Rf_init 30 = .ok (.aload_n 0, 1) := by decide +kernel
theorem d_Rf_init_31 : decode b_Rf_init 31 = .ok (.iconst 4, 1) := by decide +kernel
theorem d_Rf_init_32 : decode b_Rf_init 32 = .ok (.aload_n 1, 1) := by decide +kernel
theorem d_Rf_init_33 : decode b_Rf_init 33 = .ok (.getfield 31, 3) := by decide +kernel
theorem d_Rf_init_36 : decode b_Rf_init 36 = .ok (.multianewarray 36 2, 4) := by decide +kernel
theorem d_Rf_init_40 : decode b_Rf_init 40 = .ok (.putfield 38, 3) := by decide +kernel
theorem d_Rf_init_43 : decode b_Rf_init 43 = .ok (.aload_n 0, 1) := by decide +kernel
theorem d_Rf_init_44 : decode b_Rf_init 44 = .ok (.aload_n 1, 1) := by decide +kernel
theorem d_Rf_init_45 : decode b_Rf_init 45 = .ok (.getfield 31, 3) := by decide +kernel
theorem d_Rf_init_48 : decode b_Rf_init 48 = .ok (.newarray .long, 2) := by decide +kernel
theorem d_Rf_init_50 : decode b_Rf_init 50 = .ok (.putfield 41, 3) := by decide +kernel
theorem d_Rf_init_53 : decode b_Rf_init 53 = .ok (.return_, 1) := by decide +kernel
theorem d_PP_type_0 : decode b_PP_type 0 = .ok (.aload_n 0, 1) := by decide +kernel
theorem d_PP_type_1 : decode b_PP_type 1 = .ok (.getfield 37, 3) := by decide +kernel
theorem d_PP_type_4 : decode b_PP_type 4 = .ok (.iload_n 1, 1) := by decide +kernel
theorem d_PP_type_5 : decode b_PP_type 5 = .ok (.invokevirtual 88, 3) := by decide +kernel
theorem d_PP_type_8 : decode b_PP_type 8 = .ok (.ireturn, 1) := by decide +kernel
theorem d_Li_append_0 : decode b_Li_append 0 = .ok (.iload_n 1, 1) := by decide +kernel
theorem d_Li_append_1 : decode b_Li_append 1 = .ok (.bipush 32, 2) := by decide +kernel
theorem d_Li_append_3 : decode b_Li_append 3 = .ok (.if_icmp .lt 18, 3) := by decide +kernel
theorem d_Li_append_6 : decode b_Li_append 6 = .ok (.iload_n 1, 1) := by decide +kernel
theorem d_Li_append_7 : decode b_Li_append 7 = .ok (.bipush 126, 2) := by decide +kernel
theorem d_Li_append_9 : decode b_Li_append 9 = .ok (.if_icmp .gt 12, 3) := by decide +kernel
theorem d_Li_append_12 : decode b_Li_append 12 = .ok (.aload_n 0, 1) := by decide +kernel
theorem d_Li_append_13 : decode b_Li_append 13 = .ok (.getfield 15, 3) := by decide +kernel
theorem d_Li_append_16 : decode b_Li_append 16 = .ok (.bipush 24, 2) := by decide +kernel
theorem d_Li_append_18 : decode b_Li_append 18 = .ok (.if_icmp .lt 5, 3) := by decide +kernel
theorem d_Li_append_21 : decode b_Li_append 21 = .ok (.iconst (-1), 1) := by decide +kernel
theorem d_Li_append_22 : decode b_Li_append 22 = .ok (.ireturn, 1) := by decide +kernel
theorem d_Li_append_23 : decode b_Li_append 23 = .ok (.aload_n 0, 1) := by decide +kernel
theorem d_Li_append_24 : decode b_Li_append 24 = .ok (.getfield 9, 3) := by decide +kernel
theorem d_Li_append_27 : decode b_Li_append 27 = .ok (.aload_n 0, 1) := by decide +kernel
theorem d_Li_append_28 : decode b_Li_append 28 = .ok (.getfield 15, 3) := by decide +kernel
theorem d_Li_append_31 : decode b_Li_append 31 = .ok (.iload_n 1, 1) := by decide +kernel
theorem d_Li_append_32 : decode b_Li_append 32 = .ok (.castore, 1) := by decide +kernel
theorem d_Li_append_33 : decode b_Li_append 33 = .ok (.aload_n 0, 1) := by decide +kernel
theorem d_Li_append_34 : decode b_Li_append 34 = .ok (.dup, 1) := by decide +kernel
theorem d_Li_append_35 : decode b_Li_append 35 = .ok (.getfield 15, 3) := by decide +kernel
theorem d_Li_append_38 : decode b_Li_append 38 = .ok (.iconst 1, 1) := by decide +kernel
theorem d_Li_append_39 : decode b_Li_append 39 = .ok (.iadd, 1) := by decide +kernel
theorem d_Li_append_40 : decode b_Li_append 40 = .ok (.putfield 15, 3) := by decide +kernel
theorem d_Li_append_43 : decode b_Li_append 43 = .ok (.aload_n 0, 1) := by decide +kernel
theorem d_Li_append_44 : decode b_Li_append 44 = .ok (.getfield 15, 3) := by decide +kernel
theorem d_Li_append_47 : decode b_Li_append 47 = .ok (.ireturn, 1) := by decide +kernel
theorem d_PP_wipe_0 : decode b_PP_wipe 0 = .ok (.aload_n 0, 1) := by decide +kernel
theorem d_PP_wipe_1 : decode b_PP_wipe 1 = .ok (.getfield 37, 3) := by decide +kernel
theorem d_PP_wipe_4 : decode b_PP_wipe 4 = .ok (.invokevirtual 92, 3) := by decide +kernel
theorem d_PP_wipe_7 : decode b_PP_wipe 7 = .ok (.return_, 1) := by decide +kernel
theorem d_Li_makeEmpty_0 : decode b_Li_makeEmpty 0 = .ok (.aload_n 0, 1) := by decide +kernel
theorem d_Li_makeEmpty_1 : decode b_Li_makeEmpty 1 = .ok (.iconst 0, 1) := by decide +kernel
theorem d_Li_makeEmpty_2 : decode b_Li_makeEmpty 2 = .ok (.putfield 15, 3) := by decide +kernel
theorem d_Li_makeEmpty_5 : decode b_Li_makeEmpty 5 = .ok (.return_, 1) := by decide +kernel
theorem d_PP_clear_0 : decode b_PP_clear 0 = .ok (.aload_n 0, 1) := by decide +kernel
theorem d_PP_clear_1 : decode b_PP_clear 1 = .ok (.getfield 37, 3) := by decide +kernel
theorem d_PP_clear_4 : decode b_PP_clear 4 = .ok (.invokevirtual 92, 3) := by decide +kernel
theorem d_PP_clear_7 : decode b_PP_clear 7 = .ok (.aload_n 0, 1) := by decide +kernel
theorem d_PP_clear_8 : decode b_PP_clear 8 = .ok (.getfield 54, 3) := by decide +kernel
theorem d_PP_clear_11 : decode b_PP_clear 11 = .ok (.iconst 0, 1) := by decide +kernel
theorem d_PP_clear_12 : decode b_PP_clear 12 = .ok (.putfield 147, 3) := by decide +kernel
theorem d_PP_clear_15 : decode b_PP_clear 15 = .ok (.aload_n 0, 1) := by decide +kernel
theorem d_PP_clear_16 : decode b_PP_clear 16 = .ok (.getfield 58, 3) := by decide +kernel
theorem d_PP_clear_19 : decode b_PP_clear 19 = .ok (.invokevirtual 148, 3) := by decide +kernel
theorem d_PP_clear_22 : decode b_PP_clear 22 = .ok (.aload_n 0, 1) := by decide +kernel
theorem d_PP_clear_23 : decode b_PP_clear 23 = .ok (.invokevirtual 119, 3) := by decide +kernel
theorem d_PP_clear_26 : decode b_PP_clear 26 = .ok (.return_, 1) := by decide +kernel
theorem d_Gr_dropPredicates_0 : decode b_Gr_dropPredicates 0 = .ok (.aload_n 0, 1) := by decide +kernel
theorem d_Gr_dropPredicates_1 : decode b_Gr_dropPredicates 1 = .ok (.iconst 0, 1) := by decide +kernel
theorem d_Gr_dropPredicates_2 : decode b_Gr_dropPredicates 2 = .ok (.putfield 9, 3) := by decide +kernel
theorem d_Gr_dropPredicates_5 : decode b_Gr_dropPredicates 5 = .ok (.aload_n 0, 1) := by decide +kernel
theorem d_Gr_dropPredicates_6 : decode b_Gr_dropPredicates 6 = .ok (.getfield 31, 3) := by decide +kernel
theorem d_Gr_dropPredicates_9 : decode b_Gr_dropPredicates 9 = .ok (.iconst 0, 1) := by decide +kernel
theorem d_Gr_dropPredicates_10 : decode b_Gr_dropPredicates 10 = .ok (.invokestatic 49, 3) := by decide +kernel
theorem d_Gr_dropPredicates_13 : decode b_Gr_dropPredicates 13 = .ok (.aload_n 0, 1) := by decide +kernel
theorem d_Gr_dropPredicates_14 : decode b_Gr_dropPredicates 14 = .ok (.invokevirtual 43, 3) := by decide +kernel
theorem d_Gr_dropPredicates_17 : decode b_Gr_dropPredicates 17 = .ok (.aload_n 0, 1) := by decide +kernel
theorem d_Gr_dropPredicates_18 : decode b_Gr_dropPredicates 18 = .ok (.invokevirtual 46, 3) := by decide +kernel
theorem d_Gr_dropPredicates_21 : decode b_Gr_dropPredicates 21 = .ok (.return_, 1) := by decide +kernel
theorem d_PP_forgetSearch_0 : decode b_PP_forgetSearch 0 = .ok (.aload_n 0, 1) := by decide +kernel
theorem d_PP_forgetSearch_1 : decode b_PP_forgetSearch 1 = .ok (.getfield 62, 3) := by decide +kernel
theorem d_PP_forgetSearch_4 : decode b_PP_forgetSearch 4 = .ok (.invokevirtual 207, 3) := by decide +kernel
theorem d_PP_forgetSearch_7 : decode b_PP_forgetSearch 7 = .ok (.aload_n 0, 1) := by decide +kernel
theorem d_PP_forgetSearch_8 : decode b_PP_forgetSearch 8 = .ok (.getfield 71, 3) := by decide +kernel
theorem d_PP_forgetSearch_11 : decode b_PP_forgetSearch 11 = .ok (.invokevirtual 210, 3) := by decide +kernel
theorem d_PP_forgetSearch_14 : decode b_PP_forgetSearch 14 = .ok (.aload_n 0, 1) := by decide +kernel
theorem d_PP_forgetSearch_15 : decode b_PP_forgetSearch 15 = .ok (.iconst (-1), 1) := by decide +kernel
theorem d_PP_forgetSearch_16 : decode b_PP_forgetSearch 16 = .ok (.putfield 84, 3) := by decide +kernel
theorem d_PP_forgetSearch_19 : decode b_PP_forgetSearch 19 = .ok (.return_, 1) := by decide +kernel
theorem d_Se_forget_0 : decode b_Se_forget 0 = .ok (.aload_n 0, 1) := by decide +kernel
theorem d_Se_forget_1 : decode b_Se_forget 1 = .ok (.iconst 0, 1) := by decide +kernel
theorem d_Se_forget_2 : decode b_Se_forget 2 = .ok (.putfield 9, 3) := by decide +kernel
theorem d_Se_forget_5 : decode b_Se_forget 5 = .ok (.aload_n 0, 1) := by decide +kernel
theorem d_Se_forget_6 : decode b_Se_forget 6 = .ok (.iconst 0, 1) := by decide +kernel
theorem d_Se_forget_7 : decode b_Se_forget 7 = .ok (.putfield 34, 3) := by decide +kernel
theorem d_Se_forget_10 : decode b_Se_forget 10 = .ok (.aload_n 0, 1) := by decide +kernel
theorem d_Se_forget_11 : decode b_Se_forget 11 = .ok (.iconst (-1), 1) := by decide +kernel
theorem d_Se_forget_12 : decode b_Se_forget 12 = .ok (.putfield 38, 3) := by decide +kernel
theorem d_Se_forget_15 : decode b_Se_forget 15 = .ok (.return_, 1) := by decide +kernel
theorem d_Re_forget_0 : decode b_Re_forget 0 = .ok (.aload_n 0, 1) := by decide +kernel
theorem d_Re_forget_1 : decode b_Re_forget 1 = .ok (.iconst 0, 1) := by decide +kernel
theorem d_Re_forget_2 : decode b_Re_forget 2 = .ok (.putfield 15, 3) := by decide +kernel
theorem d_Re_forget_5 : decode b_Re_forget 5 = .ok (.return_, 1) := by decide +kernel
theorem d_PP_outcome_0 : decode b_PP_outcome 0 = .ok (.aload_n 0, 1) := by decide +kernel
theorem d_PP_outcome_1 : decode b_PP_outcome 1 = .ok (.getfield 84, 3) := by decide +kernel
theorem d_PP_outcome_4 : decode b_PP_outcome 4 = .ok (.ireturn, 1) := by decide +kernel
theorem d_PP_edges_0 : decode b_PP_edges 0 = .ok (.aload_n 0, 1) := by decide +kernel
theorem d_PP_edges_1 : decode b_PP_edges 1 = .ok (.getfield 54, 3) := by decide +kernel
theorem d_PP_edges_4 : decode b_PP_edges 4 = .ok (.getfield 147, 3) := by decide +kernel
theorem d_PP_edges_7 : decode b_PP_edges 7 = .ok (.ireturn, 1) := by decide +kernel
theorem d_PP_predicates_0 : decode b_PP_predicates 0 = .ok (.aload_n 0, 1) := by decide +kernel
theorem d_PP_predicates_1 : decode b_PP_predicates 1 = .ok (.getfield 58, 3) := by decide +kernel
theorem d_PP_predicates_4 : decode b_PP_predicates 4 = .ok (.getfield 131, 3) := by decide +kernel
theorem d_PP_predicates_7 : decode b_PP_predicates 7 = .ok (.ireturn, 1) := by decide +kernel
theorem d_PP_nodes_0 : decode b_PP_nodes 0 = .ok (.aload_n 0, 1) := by decide +kernel
theorem d_PP_nodes_1 : decode b_PP_nodes 1 = .ok (.getfield 62, 3) := by decide +kernel
theorem d_PP_nodes_4 : decode b_PP_nodes 4 = .ok (.getfield 176, 3) := by decide +kernel
theorem d_PP_nodes_7 : decode b_PP_nodes 7 = .ok (.ireturn, 1) := by decide +kernel
theorem d_PP_length_0 : decode b_PP_length 0 = .ok (.aload_n 0, 1) := by decide +kernel
theorem d_PP_length_1 : decode b_PP_length 1 = .ok (.getfield 62, 3) := by decide +kernel
theorem d_PP_length_4 : decode b_PP_length 4 = .ok (.getfield 191, 3) := by decide +kernel
theorem d_PP_length_7 : decode b_PP_length 7 = .ok (.ireturn, 1) := by decide +kernel
theorem d_Lw_cell_0 : decode b_Lw_cell 0 = .ok (.iload_n 1, 1) := by decide +kernel
theorem d_Lw_cell_1 : decode b_Lw_cell 1 = .ok (.aload_n 0, 1) := by decide +kernel
theorem d_Lw_cell_2 : decode b_Lw_cell 2 = .ok (.arraylength, 1) := by decide +kernel
theorem d_Lw_cell_3 : decode b_Lw_cell 3 = .ok (.if_icmp .ge 9, 3) := by decide +kernel
theorem d_Lw_cell_6 : decode b_Lw_cell 6 = .ok (.aload_n 0, 1) := by decide +kernel
theorem d_Lw_cell_7 : decode b_Lw_cell 7 = .ok (.iload_n 1, 1) := by decide +kernel
theorem d_Lw_cell_8 : decode b_Lw_cell 8 = .ok (.iaload, 1) := by decide +kernel
theorem d_Lw_cell_9 : decode b_Lw_cell 9 = .ok (.goto 4, 3) := by decide +kernel
theorem d_Lw_cell_12 : decode b_Lw_cell 12 = .ok (.iconst 0, 1) := by decide +kernel
theorem d_Lw_cell_13 : decode b_Lw_cell 13 = .ok (.ireturn, 1) := by decide +kernel
theorem d_Lw_edge_0 : decode b_Lw_edge 0 = .ok (.aload_n 1, 1) := by decide +kernel
theorem d_Lw_edge_1 : decode b_Lw_edge 1 = .ok (.iconst 0, 1) := by decide +kernel
theorem d_Lw_edge_2 : decode b_Lw_edge 2 = .ok (.aload_n 0, 1) := by decide +kernel
theorem d_Lw_edge_3 : decode b_Lw_edge 3 = .ok (.invokevirtual 7, 3) := by decide +kernel
theorem d_Lw_edge_6 : decode b_Lw_edge 6 = .ok (.i2l, 1) := by decide +kernel
theorem d_Lw_edge_7 : decode b_Lw_edge 7 = .ok (.lastore, 1) := by decide +kernel
theorem d_Lw_edge_8 : decode b_Lw_edge 8 = .ok (.goto 9, 3) := by decide +kernel
theorem d_Lw_edge_11 : decode b_Lw_edge 11 = .ok (.astore_n 2, 1) := by decide +kernel
theorem d_Lw_edge_12 : decode b_Lw_edge 12 = .ok (.iconst 1, 1) := by decide +kernel
theorem d_Lw_edge_13 : decode b_Lw_edge 13 = .ok (.ireturn, 1) := by decide +kernel
theorem d_Lw_edge_14 : decode b_Lw_edge 14 = .ok (.astore_n 2, 1) := by decide +kernel
theorem d_Lw_edge_15 : decode b_Lw_edge 15 = .ok (.iconst 2, 1) := by decide +kernel
theorem d_Lw_edge_16 : decode b_Lw_edge 16 = .ok (.ireturn, 1) := by decide +kernel
theorem d_Lw_edge_17 : decode b_Lw_edge 17 = .ok (.iconst 0, 1) := by decide +kernel
theorem d_Lw_edge_18 : decode b_Lw_edge 18 = .ok (.ireturn, 1) := by decide +kernel
theorem d_PP_edge_0 : decode b_PP_edge 0 = .ok (.aload_n 0, 1) := by decide +kernel
theorem d_PP_edge_1 : decode b_PP_edge 1 = .ok (.getfield 50, 3) := by decide +kernel
theorem d_PP_edge_4 : decode b_PP_edge 4 = .ok (.invokevirtual 95, 3) := by decide +kernel
theorem d_PP_edge_7 : decode b_PP_edge 7 = .ok (.istore_n 1, 1) := by decide +kernel
theorem d_PP_edge_8 : decode b_PP_edge 8 = .ok (.iload_n 1, 1) := by decide +kernel
theorem d_PP_edge_9 : decode b_PP_edge 9 = .ok (.iconst (-1), 1) := by decide +kernel
theorem d_PP_edge_10 : decode b_PP_edge 10 = .ok (.if_icmp .ne 13, 3) := by decide +kernel
theorem d_PP_edge_13 : decode b_PP_edge 13 = .ok (.new 99, 3) := by decide +kernel
theorem d_PP_edge_16 : decode b_PP_edge 16 = .ok (.dup, 1) := by decide +kernel
theorem d_PP_edge_17 : decode b_PP_edge 17 = .ok (.ldc 101, 2) := by decide +kernel
theorem d_PP_edge_19 : decode b_PP_edge 19 = .ok (.invokespecial 103, 3) := by decide +kernel
theorem d_PP_edge_22 : decode b_PP_edge 22 = .ok (.athrow, 1) := by decide +kernel
theorem d_PP_edge_23 : decode b_PP_edge 23 = .ok (.aload_n 0, 1) := by decide +kernel
theorem d_PP_edge_24 : decode b_PP_edge 24 = .ok (.getfield 54, 3) := by decide +kernel
theorem d_PP_edge_27 : decode b_PP_edge 27 = .ok (.invokevirtual 106, 3) := by decide +kernel
theorem d_PP_edge_30 : decode b_PP_edge 30 = .ok (.ifCond .eq 13, 3) := by decide +kernel
theorem d_PP_edge_33 : decode b_PP_edge 33 = .ok (.new 110, 3) := by decide +kernel
theorem d_PP_edge_36 : decode b_PP_edge 36 = .ok (.dup, 1) := by decide +kernel
theorem d_PP_edge_37 : decode b_PP_edge 37 = .ok (.ldc 112, 2) := by decide +kernel
theorem d_PP_edge_39 : decode b_PP_edge 39 = .ok (.invokespecial 114, 3) := by decide +kernel
theorem d_PP_edge_42 : decode b_PP_edge 42 = .ok (.athrow, 1) := by decide +kernel
theorem d_PP_edge_43 : decode b_PP_edge 43 = .ok (.aload_n 0, 1) := by decide +kernel
theorem d_PP_edge_44 : decode b_PP_edge 44 = .ok (.getfield 54, 3) := by decide +kernel
theorem d_PP_edge_47 : decode b_PP_edge 47 = .ok (.iload_n 1, 1) := by decide +kernel
theorem d_PP_edge_48 : decode b_PP_edge 48 = .ok (.aload_n 0, 1) := by decide +kernel
theorem d_PP_edge_49 : decode b_PP_edge 49 = .ok (.getfield 37, 3) := by decide +kernel
theorem d_PP_edge_52 : decode b_PP_edge 52 = .ok (.aload_n 0, 1) := by decide +kernel
theorem d_PP_edge_53 : decode b_PP_edge 53 = .ok (.getfield 41, 3) := by decide +kernel
theorem d_PP_edge_56 : decode b_PP_edge 56 = .ok (.invokevirtual 115, 3) := by decide +kernel
theorem d_PP_edge_59 : decode b_PP_edge 59 = .ok (.istore_n 2, 1) := by decide +kernel
theorem d_PP_edge_60 : decode b_PP_edge 60 = .ok (.aload_n 0, 1) := by decide +kernel
theorem d_PP_edge_61 : decode b_PP_edge 61 = .ok (.getfield 37, 3) := by decide +kernel
theorem d_PP_edge_64 : decode b_PP_edge 64 = .ok (.invokevirtual 92, 3) := by decide +kernel
theorem d_PP_edge_67 : decode b_PP_edge 67 = .ok (.aload_n 0, 1) := by decide +kernel
theorem d_PP_edge_68 : decode b_PP_edge 68 = .ok (.invokevirtual 119, 3) := by decide +kernel
theorem d_PP_edge_71 : decode b_PP_edge 71 = .ok (.iload_n 2, 1) := by decide +kernel
theorem d_PP_edge_72 : decode b_PP_edge 72 = .ok (.ireturn, 1) := by decide +kernel
theorem d_Pa_readEdge_0 : decode b_Pa_readEdge 0 = .ok (.aload_n 0, 1) := by decide +kernel
theorem d_Pa_readEdge_1 : decode b_Pa_readEdge 1 = .ok (.getfield 15, 3) := by decide +kernel
theorem d_Pa_readEdge_4 : decode b_Pa_readEdge 4 = .ok (.iconst 0, 1) := by decide +kernel
theorem d_Pa_readEdge_5 : decode b_Pa_readEdge 5 = .ok (.invokevirtual 23, 3) := by decide +kernel
theorem d_Pa_readEdge_8 : decode b_Pa_readEdge 8 = .ok (.invokestatic 29, 3) := by decide +kernel
theorem d_Pa_readEdge_11 : decode b_Pa_readEdge 11 = .ok (.ifCond .eq 30, 3) := by decide +kernel
theorem d_Pa_readEdge_14 : decode b_Pa_readEdge 14 = .ok (.aload_n 0, 1) := by decide +kernel
theorem d_Pa_readEdge_15 : decode b_Pa_readEdge 15 = .ok (.getfield 15, 3) := by decide +kernel
theorem d_Pa_readEdge_18 : decode b_Pa_readEdge 18 = .ok (.iconst 1, 1) := by decide +kernel
theorem d_Pa_readEdge_19 : decode b_Pa_readEdge 19 = .ok (.invokevirtual 23, 3) := by decide +kernel
theorem d_Pa_readEdge_22 : decode b_Pa_readEdge 22 = .ok (.invokestatic 29, 3) := by decide +kernel
theorem d_Pa_readEdge_25 : decode b_Pa_readEdge 25 = .ok (.ifCond .eq 16, 3) := by decide +kernel
theorem d_Pa_readEdge_28 : decode b_Pa_readEdge 28 = .ok (.aload_n 0, 1) := by decide +kernel
theorem d_Pa_readEdge_29 : decode b_Pa_readEdge 29 = .ok (.getfield 15, 3) := by decide +kernel
theorem d_Pa_readEdge_32 : decode b_Pa_readEdge 32 = .ok (.iconst 2, 1) := by decide +kernel
theorem d_Pa_readEdge_33 : decode b_Pa_readEdge 33 = .ok (.invokevirtual 23, 3) := by decide +kernel
theorem d_Pa_readEdge_36 : decode b_Pa_readEdge 36 = .ok (.bipush 32, 2) := by decide +kernel
theorem d_Pa_readEdge_38 : decode b_Pa_readEdge 38 = .ok (.if_icmp .eq 5, 3) := by decide +kernel
theorem d_Pa_readEdge_41 : decode b_Pa_readEdge 41 = .ok (.iconst (-1), 1) := by decide +kernel
theorem d_Pa_readEdge_42 : decode b_Pa_readEdge 42 = .ok (.ireturn, 1) := by decide +kernel
theorem d_Pa_readEdge_43 : decode b_Pa_readEdge 43 = .ok (.aload_n 0, 1) := by decide +kernel
theorem d_Pa_readEdge_44 : decode b_Pa_readEdge 44 = .ok (.getfield 15, 3) := by decide +kernel
theorem d_Pa_readEdge_47 : decode b_Pa_readEdge 47 = .ok (.iconst 3, 1) := by decide +kernel
theorem d_Pa_readEdge_48 : decode b_Pa_readEdge 48 = .ok (.invokevirtual 23, 3) := by decide +kernel
theorem d_Pa_readEdge_51 : decode b_Pa_readEdge 51 = .ok (.invokestatic 33, 3) := by decide +kernel
theorem d_Pa_readEdge_54 : decode b_Pa_readEdge 54 = .ok (.ifCond .eq 33, 3) := by decide +kernel
theorem d_Pa_readEdge_57 : decode b_Pa_readEdge 57 = .ok (.aload_n 0, 1) := by decide +kernel
theorem d_Pa_readEdge_58 : decode b_Pa_readEdge 58 = .ok (.getfield 15, 3) := by decide +kernel
theorem d_Pa_readEdge_61 : decode b_Pa_readEdge 61 = .ok (.iconst 4, 1) := by decide +kernel
theorem d_Pa_readEdge_62 : decode b_Pa_readEdge 62 = .ok (.invokevirtual 23, 3) := by decide +kernel
theorem d_Pa_readEdge_65 : decode b_Pa_readEdge 65 = .ok (.bipush 63, 2) := by decide +kernel
theorem d_Pa_readEdge_67 : decode b_Pa_readEdge 67 = .ok (.if_icmp .ne 20, 3) := by decide +kernel
theorem d_Pa_readEdge_70 : decode b_Pa_readEdge 70 = .ok (.aload_n 0, 1) := by decide +kernel
theorem d_Pa_readEdge_71 : decode b_Pa_readEdge 71 = .ok (.getfield 15, 3) := by decide +kernel
theorem d_Pa_readEdge_74 : decode b_Pa_readEdge 74 = .ok (.iconst 5, 1) := by decide +kernel
theorem d_Pa_readEdge_75 : decode b_Pa_readEdge 75 = .ok (.invokevirtual 23, 3) := by decide +kernel
theorem d_Pa_readEdge_78 : decode b_Pa_readEdge 78 = .ok (.ifCond .ne 7, 3) := by decide +kernel
theorem d_Pa_readEdge_81 : decode b_Pa_readEdge 81 = .ok (.iconst 2, 1) := by decide +kernel
theorem d_Pa_readEdge_82 : decode b_Pa_readEdge 82 = .ok (.goto 4, 3) := by decide +kernel
theorem d_Pa_readEdge_85 : decode b_Pa_readEdge 85 = .ok (.iconst (-1), 1) := by decide +kernel
theorem d_Pa_readEdge_86 : decode b_Pa_readEdge 86 = .ok (.ireturn, 1) := by decide +kernel
theorem d_Pa_readEdge_87 : decode b_Pa_readEdge 87 = .ok (.aload_n 0, 1) := by decide +kernel
theorem d_Pa_readEdge_88 : decode b_Pa_readEdge 88 = .ok (.getfield 15, 3) := by decide +kernel
theorem d_Pa_readEdge_91 : decode b_Pa_readEdge 91 = .ok (.iconst 3, 1) := by decide +kernel
theorem d_Pa_readEdge_92 : decode b_Pa_readEdge 92 = .ok (.invokevirtual 23, 3) := by decide +kernel
theorem d_Pa_readEdge_95 : decode b_Pa_readEdge 95 = .ok (.invokestatic 33, 3) := by decide +kernel
theorem d_Pa_readEdge_98 : decode b_Pa_readEdge 98 = .ok (.ifCond .eq 30, 3) := by decide +kernel
theorem d_Pa_readEdge_101 : decode b_Pa_readEdge 101 = .ok (.aload_n 0, 1) := by decide +kernel
theorem d_Pa_readEdge_102 : decode b_Pa_readEdge 102 = .ok (.getfield 15, 3) := by decide +kernel
theorem d_Pa_readEdge_105 : decode b_Pa_readEdge 105 = .ok (.iconst 4, 1) := by decide +kernel
theorem d_Pa_readEdge_106 : decode b_Pa_readEdge 106 = .ok (.invokevirtual 23, 3) := by decide +kernel
theorem d_Pa_readEdge_109 : decode b_Pa_readEdge 109 = .ok (.bipush 58, 2) := by decide +kernel
theorem d_Pa_readEdge_111 : decode b_Pa_readEdge 111 = .ok (.if_icmp .ne 17, 3) := by decide +kernel
theorem d_Pa_readEdge_114 : decode b_Pa_readEdge 114 = .ok (.aload_n 0, 1) := by decide +kernel
theorem d_Pa_readEdge_115 : decode b_Pa_readEdge 115 = .ok (.iconst 5, 1) := by decide +kernel
theorem d_Pa_readEdge_116 : decode b_Pa_readEdge 116 = .ok (.invokevirtual 38, 3) := by decide +kernel
theorem d_Pa_readEdge_119 : decode b_Pa_readEdge 119 = .ok (.ifCond .eq 7, 3) := by decide +kernel
theorem d_Pa_readEdge_122 : decode b_Pa_readEdge 122 = .ok (.iconst 1, 1) := by decide +kernel
theorem d_Pa_readEdge_123 : decode b_Pa_readEdge 123 = .ok (.goto 4, 3) := by decide +kernel
theorem d_Pa_readEdge_126 : decode b_Pa_readEdge 126 = .ok (.iconst (-1), 1) := by decide +kernel
theorem d_Pa_readEdge_127 : decode b_Pa_readEdge 127 = .ok (.ireturn, 1) := by decide +kernel
theorem d_Pa_readEdge_128 : decode b_Pa_readEdge 128 = .ok (.aload_n 0, 1) := by decide +kernel
theorem d_Pa_readEdge_129 : decode b_Pa_readEdge 129 = .ok (.iconst 3, 1) := by decide +kernel
theorem d_Pa_readEdge_130 : decode b_Pa_readEdge 130 = .ok (.invokevirtual 42, 3) := by decide +kernel
theorem d_Pa_readEdge_133 : decode b_Pa_readEdge 133 = .ok (.ifCond .eq 7, 3) := by decide +kernel
theorem d_Pa_readEdge_136 : decode b_Pa_readEdge 136 = .ok (.iconst 0, 1) := by decide +kernel
theorem d_Pa_readEdge_137 : decode b_Pa_readEdge 137 = .ok (.goto 4, 3) := by decide +kernel
theorem d_Pa_readEdge_140 : decode b_Pa_readEdge 140 = .ok (.iconst (-1), 1) := by decide +kernel
theorem d_Pa_readEdge_141 : decode b_Pa_readEdge 141 = .ok (.ireturn, 1) := by decide +kernel
theorem d_Li_at_0 : decode b_Li_at 0 = .ok (.iload_n 1, 1) := by decide +kernel
theorem d_Li_at_1 : decode b_Li_at 1 = .ok (.ifCond .lt 20, 3) := by decide +kernel
theorem d_Li_at_4 : decode b_Li_at 4 = .ok (.iload_n 1, 1) := by decide +kernel
theorem d_Li_at_5 : decode b_Li_at 5 = .ok (.aload_n 0, 1) := by decide +kernel
theorem d_Li_at_6 : decode b_Li_at 6 = .ok (.getfield 15, 3) := by decide +kernel
theorem d_Li_at_9 : decode b_Li_at 9 = .ok (.if_icmp .ge 12, 3) := by decide +kernel
theorem d_Li_at_12 : decode b_Li_at 12 = .ok (.aload_n 0, 1) := by decide +kernel
theorem d_Li_at_13 : decode b_Li_at 13 = .ok (.getfield 9, 3) := by decide +kernel
theorem d_Li_at_16 : decode b_Li_at 16 = .ok (.iload_n 1, 1) := by decide +kernel
theorem d_Li_at_17 : decode b_Li_at 17 = .ok (.caload, 1) := by decide +kernel
theorem d_Li_at_18 : decode b_Li_at 18 = .ok (.goto 4, 3) := by decide +kernel
theorem d_Li_at_21 : decode b_Li_at 21 = .ok (.iconst 0, 1) := by decide +kernel
theorem d_Li_at_22 : decode b_Li_at 22 = .ok (.ireturn, 1) := by decide +kernel
theorem d_Pa_isLocation_0 : decode b_Pa_isLocation 0 = .ok (.iload_n 0, 1) := by decide +kernel
theorem d_Pa_isLocation_1 : decode b_Pa_isLocation 1 = .ok (.bipush 65, 2) := by decide +kernel
theorem d_Pa_isLocation_3 : decode b_Pa_isLocation 3 = .ok (.if_icmp .lt 13, 3) := by decide +kernel
theorem d_Pa_isLocation_6 : decode b_Pa_isLocation 6 = .ok (.iload_n 0, 1) := by decide +kernel
theorem d_Pa_isLocation_7 : decode b_Pa_isLocation 7 = .ok (.bipush 77, 2) := by decide +kernel
theorem d_Pa_isLocation_9 : decode b_Pa_isLocation 9 = .ok (.if_icmp .ge 7, 3) := by decide +kernel
theorem d_Pa_isLocation_12 : decode b_Pa_isLocation 12 = .ok (.iconst 1, 1) := by decide +kernel
theorem d_Pa_isLocation_13 : decode b_Pa_isLocation 13 = .ok (.goto 4, 3) := by decide +kernel
theorem d_Pa_isLocation_16 : decode b_Pa_isLocation 16 = .ok (.iconst 0, 1) := by decide +kernel
theorem d_Pa_isLocation_17 : decode b_Pa_isLocation 17 = .ok (.ireturn, 1) := by decide +kernel
theorem d_Fo_isVariable_0 : decode b_Fo_isVariable 0 = .ok (.iload_n 0, 1) := by decide +kernel
theorem d_Fo_isVariable_1 : decode b_Fo_isVariable 1 = .ok (.bipush 120, 2) := by decide +kernel
theorem d_Fo_isVariable_3 : decode b_Fo_isVariable 3 = .ok (.if_icmp .lt 13, 3) := by decide +kernel
theorem d_Fo_isVariable_6 : decode b_Fo_isVariable 6 = .ok (.iload_n 0, 1) := by decide +kernel
theorem d_Fo_isVariable_7 : decode b_Fo_isVariable 7 = .ok (.bipush 122, 2) := by decide +kernel
theorem d_Fo_isVariable_9 : decode b_Fo_isVariable 9 = .ok (.if_icmp .gt 7, 3) := by decide +kernel
theorem d_Fo_isVariable_12 : decode b_Fo_isVariable 12 = .ok (.iconst 1, 1) := by decide +kernel
theorem d_Fo_isVariable_13 : decode b_Fo_isVariable 13 = .ok (.goto 4, 3) := by decide +kernel
theorem d_Fo_isVariable_16 : decode b_Fo_isVariable 16 = .ok (.iconst 0, 1) := by decide +kernel
theorem d_Fo_isVariable_17 : decode b_Fo_isVariable 17 = .ok (.ireturn, 1) := by decide +kernel
theorem d_Pa_readTerm_0 : decode b_Pa_readTerm 0 = .ok (.aload_n 0, 1) := by decide +kernel
theorem d_Pa_readTerm_1 : decode b_Pa_readTerm 1 = .ok (.iload_n 1, 1) := by decide +kernel
theorem d_Pa_readTerm_2 : decode b_Pa_readTerm 2 = .ok (.putfield 9, 3) := by decide +kernel
theorem d_Pa_readTerm_5 : decode b_Pa_readTerm 5 = .ok (.aload_n 0, 1) := by decide +kernel
theorem d_Pa_readTerm_6 : decode b_Pa_readTerm 6 = .ok (.getfield 19, 3) := by decide +kernel
theorem d_Pa_readTerm_9 : decode b_Pa_readTerm 9 = .ok (.invokevirtual 45, 3) := by decide +kernel
theorem d_Pa_readTerm_12 : decode b_Pa_readTerm 12 = .ok (.aload_n 0, 1) := by decide +kernel
theorem d_Pa_readTerm_13 : decode b_Pa_readTerm 13 = .ok (.iconst 0, 1) := by decide +kernel
theorem d_Pa_readTerm_14 : decode b_Pa_readTerm 14 = .ok (.invokevirtual 48, 3) := by decide +kernel
theorem d_Pa_readTerm_17 : decode b_Pa_readTerm 17 = .ok (.ifCond .eq 21, 3) := by decide +kernel
theorem d_Pa_readTerm_20 : decode b_Pa_readTerm 20 = .ok (.aload_n 0, 1) := by decide +kernel
theorem d_Pa_readTerm_21 : decode b_Pa_readTerm 21 = .ok (.getfield 15, 3) := by decide +kernel
theorem d_Pa_readTerm_24 : decode b_Pa_readTerm 24 = .ok (.aload_n 0, 1) := by decide +kernel
theorem d_Pa_readTerm_25 : decode b_Pa_readTerm 25 = .ok (.getfield 9, 3) := by decide +kernel
theorem d_Pa_readTerm_28 : decode b_Pa_readTerm 28 = .ok (.invokevirtual 23, 3) := by decide +kernel
theorem d_Pa_readTerm_31 : decode b_Pa_readTerm 31 = .ok (.ifCond .ne 7, 3) := by decide +kernel
theorem d_Pa_readTerm_34 : decode b_Pa_readTerm 34 = .ok (.iconst 1, 1) := by decide +kernel
theorem d_Pa_readTerm_35 : decode b_Pa_readTerm 35 = .ok (.goto 4, 3) := by decide +kernel
theorem d_Pa_readTerm_38 : decode b_Pa_readTerm 38 = .ok (.iconst 0, 1) := by decide +kernel
theorem d_Pa_readTerm_39 : decode b_Pa_readTerm 39 = .ok (.ireturn, 1) := by decide +kernel
theorem d_Fo_begin_0 : decode b_Fo_begin 0 = .ok (.aload_n 0, 1) := by decide +kernel
theorem d_Fo_begin_1 : decode b_Fo_begin 1 = .ok (.iconst 0, 1) := by decide +kernel
theorem d_Fo_begin_2 : decode b_Fo_begin 2 = .ok (.putfield 19, 3) := by decide +kernel
theorem d_Fo_begin_5 : decode b_Fo_begin 5 = .ok (.return_, 1) := by decide +kernel
theorem d_Pa_passTerm_0 : decode b_Pa_passTerm 0 = .ok (.aload_n 0, 1) := by decide +kernel
theorem d_Pa_passTerm_1 : decode b_Pa_passTerm 1 = .ok (.iload_n 1, 1) := by decide +kernel
theorem d_Pa_passTerm_2 : decode b_Pa_passTerm 2 = .ok (.invokevirtual 58, 3) := by decide +kernel
theorem d_Pa_passTerm_5 : decode b_Pa_passTerm 5 = .ok (.ifCond .ne 5, 3) := by decide +kernel
theorem d_Pa_passTerm_8 : decode b_Pa_passTerm 8 = .ok (.iconst 0, 1) := by decide +kernel
theorem d_Pa_passTerm_9 : decode b_Pa_passTerm 9 = .ok (.ireturn, 1) := by decide +kernel
theorem d_Pa_passTerm_10 : decode b_Pa_passTerm 10 = .ok (.iconst 0, 1) := by decide +kernel
theorem d_Pa_passTerm_11 : decode b_Pa_passTerm 11 = .ok (.istore_n 2, 1) := by decide +kernel
theorem d_Pa_passTerm_12 : decode b_Pa_passTerm 12 = .ok (.iload_n 2, 1) := by decide +kernel
theorem d_Pa_passTerm_13 : decode b_Pa_passTerm 13 = .ok (.bipush 24, 2) := by decide +kernel
theorem d_Pa_passTerm_15 : decode b_Pa_passTerm 15 = .ok (.if_icmp .ge 66, 3) := by decide +kernel
theorem d_Pa_passTerm_18 : decode b_Pa_passTerm 18 = .ok (.aload_n 0, 1) := by decide +kernel
theorem d_Pa_passTerm_19 : decode b_Pa_passTerm 19 = .ok (.getfield 15, 3) := by decide +kernel
theorem d_Pa_passTerm_22 : decode b_Pa_passTerm 22 = .ok (.aload_n 0, 1) := by decide +kernel
theorem d_Pa_passTerm_23 : decode b_Pa_passTerm 23 = .ok (.getfield 9, 3) := by decide +kernel
theorem d_Pa_passTerm_26 : decode b_Pa_passTerm 26 = .ok (.invokevirtual 23, 3) := by decide +kernel
theorem d_Pa_passTerm_29 : decode b_Pa_passTerm 29 = .ok (.invokestatic 61, 3) := by decide +kernel
theorem d_Pa_passTerm_32 : decode b_Pa_passTerm 32 = .ok (.ifCond .eq 49, 3) := by decide +kernel
theorem d_Pa_passTerm_35 : decode b_Pa_passTerm 35 = .ok (.aload_n 0, 1) := by decide +kernel
theorem d_Pa_passTerm_36 : decode b_Pa_passTerm 36 = .ok (.getfield 15, 3) := by decide +kernel
theorem d_Pa_passTerm_39 : decode b_Pa_passTerm 39 = .ok (.aload_n 0, 1) := by decide +kernel
theorem d_Pa_passTerm_40 : decode b_Pa_passTerm 40 = .ok (.getfield 9, 3) := by decide +kernel
theorem d_Pa_passTerm_43 : decode b_Pa_passTerm 43 = .ok (.invokevirtual 23, 3) := by decide +kernel
theorem d_Pa_passTerm_46 : decode b_Pa_passTerm 46 = .ok (.istore_n 3, 1) := by decide +kernel
theorem d_Pa_passTerm_47 : decode b_Pa_passTerm 47 = .ok (.aload_n 0, 1) := by decide +kernel
theorem d_Pa_passTerm_48 : decode b_Pa_passTerm 48 = .ok (.dup, 1) := by decide +kernel
theorem d_Pa_passTerm_49 : decode b_Pa_passTerm 49 = .ok (.getfield 9, 3) := by decide +kernel
theorem d_Pa_passTerm_52 : decode b_Pa_passTerm 52 = .ok (.iconst 1, 1) := by decide +kernel
theorem d_Pa_passTerm_53 : decode b_Pa_passTerm 53 = .ok (.iadd, 1) := by decide +kernel
theorem d_Pa_passTerm_54 : decode b_Pa_passTerm 54 = .ok (.putfield 9, 3) := by decide +kernel
theorem d_Pa_passTerm_57 : decode b_Pa_passTerm 57 = .ok (.aload_n 0, 1) := by decide +kernel
theorem d_Pa_passTerm_58 : decode b_Pa_passTerm 58 = .ok (.iload_n 1, 1) := by decide +kernel
theorem d_Pa_passTerm_59 : decode b_Pa_passTerm 59 = .ok (.invokevirtual 58, 3) := by decide +kernel
theorem d_Pa_passTerm_62 : decode b_Pa_passTerm 62 = .ok (.ifCond .ne 5, 3) := by decide +kernel
theorem d_Pa_passTerm_65 : decode b_Pa_passTerm 65 = .ok (.iconst 0, 1) := by decide +kernel
theorem d_Pa_passTerm_66 : decode b_Pa_passTerm 66 = .ok (.ireturn, 1) := by decide +kernel
theorem d_Pa_passTerm_67 : decode b_Pa_passTerm 67 = .ok (.aload_n 0, 1) := by decide +kernel
theorem d_Pa_passTerm_68 : decode b_Pa_passTerm 68 = .ok (.getfield 19, 3) := by decide +kernel
theorem d_Pa_passTerm_71 : decode b_Pa_passTerm 71 = .ok (.iload_n 3, 1) := by decide +kernel
theorem d_Pa_passTerm_72 : decode b_Pa_passTerm 72 = .ok (.invokevirtual 54, 3) := by decide +kernel
theorem d_Pa_passTerm_75 : decode b_Pa_passTerm 75 = .ok (.iinc 2 1, 3) := by decide +kernel
theorem d_Pa_passTerm_78 : decode b_Pa_passTerm 78 = .ok (.goto (-66), 3) := by decide +kernel
theorem d_Pa_passTerm_81 : decode b_Pa_passTerm 81 = .ok (.iconst 1, 1) := by decide +kernel
theorem d_Pa_passTerm_82 : decode b_Pa_passTerm 82 = .ok (.ireturn, 1) := by decide +kernel
theorem d_Pa_passPart_0 : decode b_Pa_passPart 0 = .ok (.aload_n 0, 1) := by decide +kernel
theorem d_Pa_passPart_1 : decode b_Pa_passPart 1 = .ok (.getfield 15, 3) := by decide +kernel
theorem d_Pa_passPart_4 : decode b_Pa_passPart 4 = .ok (.aload_n 0, 1) := by decide +kernel
theorem d_Pa_passPart_5 : decode b_Pa_passPart 5 = .ok (.getfield 9, 3) := by decide +kernel
theorem d_Pa_passPart_8 : decode b_Pa_passPart 8 = .ok (.invokevirtual 23, 3) := by decide +kernel
