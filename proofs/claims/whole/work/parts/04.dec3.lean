theorem d_Pr_choices_0 : decode b_Pr_choices 0 = .ok (.aload_n 0, 1) := by decide +kernel
theorem d_Pr_choices_1 : decode b_Pr_choices 1 = .ok (.getfield 18, 3) := by decide +kernel
theorem d_Pr_choices_4 : decode b_Pr_choices 4 = .ok (.iload_n 1, 1) := by decide +kernel
theorem d_Pr_choices_5 : decode b_Pr_choices 5 = .ok (.iaload, 1) := by decide +kernel
theorem d_Pr_choices_6 : decode b_Pr_choices 6 = .ok (.iconst 2, 1) := by decide +kernel
theorem d_Pr_choices_7 : decode b_Pr_choices 7 = .ok (.if_icmp .ne 15, 3) := by decide +kernel
theorem d_Pr_choices_10 : decode b_Pr_choices 10 = .ok (.aload_n 0, 1) := by decide +kernel
theorem d_Pr_choices_11 : decode b_Pr_choices 11 = .ok (.getfield 28, 3) := by decide +kernel
theorem d_Pr_choices_14 : decode b_Pr_choices 14 = .ok (.getfield 62, 3) := by decide +kernel
theorem d_Pr_choices_17 : decode b_Pr_choices 17 = .ok (.iconst 1, 1) := by decide +kernel
theorem d_Pr_choices_18 : decode b_Pr_choices 18 = .ok (.iadd, 1) := by decide +kernel
theorem d_Pr_choices_19 : decode b_Pr_choices 19 = .ok (.goto 4, 3) := by decide +kernel
theorem d_Pr_choices_22 : decode b_Pr_choices 22 = .ok (.iconst 1, 1) := by decide +kernel
theorem d_Pr_choices_23 : decode b_Pr_choices 23 = .ok (.ireturn, 1) := by decide +kernel
theorem d_Pr_step_0 : decode b_Pr_step 0 = .ok (.aload_n 0, 1) := by decide +kernel
theorem d_Pr_step_1 : decode b_Pr_step 1 = .ok (.getfield 39, 3) := by decide +kernel
theorem d_Pr_step_4 : decode b_Pr_step 4 = .ok (.iload_n 1, 1) := by decide +kernel
theorem d_Pr_step_5 : decode b_Pr_step 5 = .ok (.aaload, 1) := by decide +kernel
theorem d_Pr_step_6 : decode b_Pr_step 6 = .ok (.iload_n 2, 1) := by decide +kernel
theorem d_Pr_step_7 : decode b_Pr_step 7 = .ok (.iaload, 1) := by decide +kernel
theorem d_Pr_step_8 : decode b_Pr_step 8 = .ok (.istore 4, 2) := by decide +kernel
theorem d_Pr_step_10 : decode b_Pr_step 10 = .ok (.aload_n 0, 1) := by decide +kernel
theorem d_Pr_step_11 : decode b_Pr_step 11 = .ok (.getfield 18, 3) := by decide +kernel
theorem d_Pr_step_14 : decode b_Pr_step 14 = .ok (.iload_n 1, 1) := by decide +kernel
theorem d_Pr_step_15 : decode b_Pr_step 15 = .ok (.iaload, 1) := by decide +kernel
theorem d_Pr_step_16 : decode b_Pr_step 16 = .ok (.iconst 2, 1) := by decide +kernel
theorem d_Pr_step_17 : decode b_Pr_step 17 = .ok (.if_icmp .ne 22, 3) := by decide +kernel
theorem d_Pr_step_20 : decode b_Pr_step 20 = .ok (.aload_n 0, 1) := by decide +kernel
theorem d_Pr_step_21 : decode b_Pr_step 21 = .ok (.getfield 28, 3) := by decide +kernel
theorem d_Pr_step_24 : decode b_Pr_step 24 = .ok (.iload 4, 2) := by decide +kernel
theorem d_Pr_step_26 : decode b_Pr_step 26 = .ok (.aload_n 0, 1) := by decide +kernel
theorem d_Pr_step_27 : decode b_Pr_step 27 = .ok (.getfield 21, 3) := by decide +kernel
theorem d_Pr_step_30 : decode b_Pr_step 30 = .ok (.iload_n 1, 1) := by decide +kernel
theorem d_Pr_step_31 : decode b_Pr_step 31 = .ok (.iaload, 1) := by decide +kernel
theorem d_Pr_step_32 : decode b_Pr_step 32 = .ok (.iload_n 3, 1) := by decide +kernel
theorem d_Pr_step_33 : decode b_Pr_step 33 = .ok (.invokevirtual 52, 3) := by decide +kernel
theorem d_Pr_step_36 : decode b_Pr_step 36 = .ok (.goto 5, 3) := by decide +kernel
theorem d_Pr_step_39 : decode b_Pr_step 39 = .ok (.iload 4, 2) := by decide +kernel
theorem d_Pr_step_41 : decode b_Pr_step 41 = .ok (.ireturn, 1) := by decide +kernel
theorem d_Se_tracePath_0 : decode b_Se_tracePath 0 = .ok (.aload_n 0, 1) := by decide +kernel
theorem d_Se_tracePath_1 : decode b_Se_tracePath 1 = .ok (.aload_n 0, 1) := by decide +kernel
theorem d_Se_tracePath_2 : decode b_Se_tracePath 2 = .ok (.getfield 31, 3) := by decide +kernel
theorem d_Se_tracePath_5 : decode b_Se_tracePath 5 = .ok (.iload_n 1, 1) := by decide +kernel
theorem d_Se_tracePath_6 : decode b_Se_tracePath 6 = .ok (.iaload, 1) := by decide +kernel
theorem d_Se_tracePath_7 : decode b_Se_tracePath 7 = .ok (.putfield 38, 3) := by decide +kernel
theorem d_Se_tracePath_10 : decode b_Se_tracePath 10 = .ok (.iload_n 1, 1) := by decide +kernel
theorem d_Se_tracePath_11 : decode b_Se_tracePath 11 = .ok (.istore_n 2, 1) := by decide +kernel
theorem d_Se_tracePath_12 : decode b_Se_tracePath 12 = .ok (.aload_n 0, 1) := by decide +kernel
theorem d_Se_tracePath_13 : decode b_Se_tracePath 13 = .ok (.getfield 38, 3) := by decide +kernel
theorem d_Se_tracePath_16 : decode b_Se_tracePath 16 = .ok (.iconst 1, 1) := by decide +kernel
theorem d_Se_tracePath_17 : decode b_Se_tracePath 17 = .ok (.isub, 1) := by decide +kernel
theorem d_Se_tracePath_18 : decode b_Se_tracePath 18 = .ok (.istore_n 3, 1) := by decide +kernel
theorem d_Se_tracePath_19 : decode b_Se_tracePath 19 = .ok (.iload_n 3, 1) := by decide +kernel
theorem d_Se_tracePath_20 : decode b_Se_tracePath 20 = .ok (.ifCond .lt 28, 3) := by decide +kernel
theorem d_Se_tracePath_23 : decode b_Se_tracePath 23 = .ok (.aload_n 0, 1) := by decide +kernel
theorem d_Se_tracePath_24 : decode b_Se_tracePath 24 = .ok (.getfield 41, 3) := by decide +kernel
theorem d_Se_tracePath_27 : decode b_Se_tracePath 27 = .ok (.iload_n 3, 1) := by decide +kernel
theorem d_Se_tracePath_28 : decode b_Se_tracePath 28 = .ok (.aload_n 0, 1) := by decide +kernel
theorem d_Se_tracePath_29 : decode b_Se_tracePath 29 = .ok (.getfield 25, 3) := by decide +kernel
theorem d_Se_tracePath_32 : decode b_Se_tracePath 32 = .ok (.iload_n 2, 1) := by decide +kernel
theorem d_Se_tracePath_33 : decode b_Se_tracePath 33 = .ok (.iaload, 1) := by decide +kernel
theorem d_Se_tracePath_34 : decode b_Se_tracePath 34 = .ok (.iastore, 1) := by decide +kernel
theorem d_Se_tracePath_35 : decode b_Se_tracePath 35 = .ok (.aload_n 0, 1) := by decide +kernel
theorem d_Se_tracePath_36 : decode b_Se_tracePath 36 = .ok (.getfield 22, 3) := by decide +kernel
theorem d_Se_tracePath_39 : decode b_Se_tracePath 39 = .ok (.iload_n 2, 1) := by decide +kernel
theorem d_Se_tracePath_40 : decode b_Se_tracePath 40 = .ok (.iaload, 1) := by decide +kernel
theorem d_Se_tracePath_41 : decode b_Se_tracePath 41 = .ok (.istore_n 2, 1) := by decide +kernel
theorem d_Se_tracePath_42 : decode b_Se_tracePath 42 = .ok (.iinc 3 (-1), 3) := by decide +kernel
theorem d_Se_tracePath_45 : decode b_Se_tracePath 45 = .ok (.goto (-26), 3) := by decide +kernel
theorem d_Se_tracePath_48 : decode b_Se_tracePath 48 = .ok (.return_, 1) := by decide +kernel
theorem d_Re_succeeds_0 : decode b_Re_succeeds 0 = .ok (.aload_n 0, 1) := by decide +kernel
theorem d_Re_succeeds_1 : decode b_Re_succeeds 1 = .ok (.getfield 38, 3) := by decide +kernel
theorem d_Re_succeeds_4 : decode b_Re_succeeds 4 = .ok (.aload_n 0, 1) := by decide +kernel
theorem d_Re_succeeds_5 : decode b_Re_succeeds 5 = .ok (.getfield 27, 3) := by decide +kernel
theorem d_Re_succeeds_8 : decode b_Re_succeeds 8 = .ok (.getfield 41, 3) := by decide +kernel
theorem d_Re_succeeds_11 : decode b_Re_succeeds 11 = .ok (.aaload, 1) := by decide +kernel
theorem d_Re_succeeds_12 : decode b_Re_succeeds 12 = .ok (.ldc2_w 46, 3) := by decide +kernel
theorem d_Re_succeeds_15 : decode b_Re_succeeds 15 = .ok (.invokestatic 48, 3) := by decide +kernel
theorem d_Re_succeeds_18 : decode b_Re_succeeds 18 = .ok (.aload_n 0, 1) := by decide +kernel
theorem d_Re_succeeds_19 : decode b_Re_succeeds 19 = .ok (.getfield 27, 3) := by decide +kernel
theorem d_Re_succeeds_22 : decode b_Re_succeeds 22 = .ok (.getfield 41, 3) := by decide +kernel
theorem d_Re_succeeds_25 : decode b_Re_succeeds 25 = .ok (.iconst 1, 1) := by decide +kernel
theorem d_Re_succeeds_26 : decode b_Re_succeeds 26 = .ok (.isub, 1) := by decide +kernel
theorem d_Re_succeeds_27 : decode b_Re_succeeds 27 = .ok (.istore_n 1, 1) := by decide +kernel
theorem d_Re_succeeds_28 : decode b_Re_succeeds 28 = .ok (.iload_n 1, 1) := by decide +kernel
theorem d_Re_succeeds_29 : decode b_Re_succeeds 29 = .ok (.ifCond .lt 14, 3) := by decide +kernel
theorem d_Re_succeeds_32 : decode b_Re_succeeds 32 = .ok (.aload_n 0, 1) := by decide +kernel
theorem d_Re_succeeds_33 : decode b_Re_succeeds 33 = .ok (.iload_n 1, 1) := by decide +kernel
theorem d_Re_succeeds_34 : decode b_Re_succeeds 34 = .ok (.invokevirtual 54, 3) := by decide +kernel
theorem d_Re_succeeds_37 : decode b_Re_succeeds 37 = .ok (.iinc 1 (-1), 3) := by decide +kernel
theorem d_Re_succeeds_40 : decode b_Re_succeeds 40 = .ok (.goto (-12), 3) := by decide +kernel
theorem d_Re_succeeds_43 : decode b_Re_succeeds 43 = .ok (.aload_n 0, 1) := by decide +kernel
theorem d_Re_succeeds_44 : decode b_Re_succeeds 44 = .ok (.iconst 0, 1) := by decide +kernel
theorem d_Re_succeeds_45 : decode b_Re_succeeds 45 = .ok (.iconst 0, 1) := by decide +kernel
theorem d_Re_succeeds_46 : decode b_Re_succeeds 46 = .ok (.invokevirtual 58, 3) := by decide +kernel
theorem d_Re_succeeds_49 : decode b_Re_succeeds 49 = .ok (.ifCond .ne 5, 3) := by decide +kernel
theorem d_Re_succeeds_52 : decode b_Re_succeeds 52 = .ok (.iconst 0, 1) := by decide +kernel
theorem d_Re_succeeds_53 : decode b_Re_succeeds 53 = .ok (.ireturn, 1) := by decide +kernel
theorem d_Re_succeeds_54 : decode b_Re_succeeds 54 = .ok (.aload_n 0, 1) := by decide +kernel
theorem d_Re_succeeds_55 : decode b_Re_succeeds 55 = .ok (.invokevirtual 62, 3) := by decide +kernel
theorem d_Re_succeeds_58 : decode b_Re_succeeds 58 = .ok (.iconst 1, 1) := by decide +kernel
theorem d_Re_succeeds_59 : decode b_Re_succeeds 59 = .ok (.ireturn, 1) := by decide +kernel
theorem d_Ar_fill_aJJ_0 : decode b_Ar_fill_aJJ 0 = .ok (.iconst 0, 1) := by decide +kernel
theorem d_Ar_fill_aJJ_1 : decode b_Ar_fill_aJJ 1 = .ok (.istore_n 3, 1) := by decide +kernel
theorem d_Ar_fill_aJJ_2 : decode b_Ar_fill_aJJ 2 = .ok (.aload_n 0, 1) := by decide +kernel
theorem d_Ar_fill_aJJ_3 : decode b_Ar_fill_aJJ 3 = .ok (.arraylength, 1) := by decide +kernel
theorem d_Ar_fill_aJJ_4 : decode b_Ar_fill_aJJ 4 = .ok (.istore 4, 2) := by decide +kernel
theorem d_Ar_fill_aJJ_6 : decode b_Ar_fill_aJJ 6 = .ok (.iload_n 3, 1) := by decide +kernel
theorem d_Ar_fill_aJJ_7 : decode b_Ar_fill_aJJ 7 = .ok (.iload 4, 2) := by decide +kernel
theorem d_Ar_fill_aJJ_9 : decode b_Ar_fill_aJJ 9 = .ok (.if_icmp .ge 13, 3) := by decide +kernel
theorem d_Ar_fill_aJJ_12 : decode b_Ar_fill_aJJ 12 = .ok (.aload_n 0, 1) := by decide +kernel
theorem d_Ar_fill_aJJ_13 : decode b_Ar_fill_aJJ 13 = .ok (.iload_n 3, 1) := by decide +kernel
theorem d_Ar_fill_aJJ_14 : decode b_Ar_fill_aJJ 14 = .ok (.lload_n 1, 1) := by decide +kernel
theorem d_Ar_fill_aJJ_15 : decode b_Ar_fill_aJJ 15 = .ok (.lastore, 1) := by decide +kernel
theorem d_Ar_fill_aJJ_16 : decode b_Ar_fill_aJJ 16 = .ok (.iinc 3 1, 3) := by decide +kernel
theorem d_Ar_fill_aJJ_19 : decode b_Ar_fill_aJJ 19 = .ok (.goto (-13), 3) := by decide +kernel
theorem d_Ar_fill_aJJ_22 : decode b_Ar_fill_aJJ 22 = .ok (.return_, 1) := by decide +kernel
theorem d_Re_openBefore_0 : decode b_Re_openBefore 0 = .ok (.aload_n 0, 1) := by decide +kernel
theorem d_Re_openBefore_1 : decode b_Re_openBefore 1 = .ok (.getfield 38, 3) := by decide +kernel
theorem d_Re_openBefore_4 : decode b_Re_openBefore 4 = .ok (.iload_n 1, 1) := by decide +kernel
theorem d_Re_openBefore_5 : decode b_Re_openBefore 5 = .ok (.aaload, 1) := by decide +kernel
theorem d_Re_openBefore_6 : decode b_Re_openBefore 6 = .ok (.lconst 0, 1) := by decide +kernel
theorem d_Re_openBefore_7 : decode b_Re_openBefore 7 = .ok (.invokestatic 48, 3) := by decide +kernel
theorem d_Re_openBefore_10 : decode b_Re_openBefore 10 = .ok (.iconst 0, 1) := by decide +kernel
theorem d_Re_openBefore_11 : decode b_Re_openBefore 11 = .ok (.istore_n 2, 1) := by decide +kernel
theorem d_Re_openBefore_12 : decode b_Re_openBefore 12 = .ok (.iload_n 2, 1) := by decide +kernel
theorem d_Re_openBefore_13 : decode b_Re_openBefore 13 = .ok (.aload_n 0, 1) := by decide +kernel
theorem d_Re_openBefore_14 : decode b_Re_openBefore 14 = .ok (.getfield 19, 3) := by decide +kernel
theorem d_Re_openBefore_17 : decode b_Re_openBefore 17 = .ok (.getfield 31, 3) := by decide +kernel
theorem d_Re_openBefore_20 : decode b_Re_openBefore 20 = .ok (.if_icmp .ge 38, 3) := by decide +kernel
theorem d_Re_openBefore_23 : decode b_Re_openBefore 23 = .ok (.aload_n 0, 1) := by decide +kernel
theorem d_Re_openBefore_24 : decode b_Re_openBefore 24 = .ok (.iload_n 1, 1) := by decide +kernel
theorem d_Re_openBefore_25 : decode b_Re_openBefore 25 = .ok (.iload_n 2, 1) := by decide +kernel
theorem d_Re_openBefore_26 : decode b_Re_openBefore 26 = .ok (.invokevirtual 65, 3) := by decide +kernel
theorem d_Re_openBefore_29 : decode b_Re_openBefore 29 = .ok (.ifCond .lt 23, 3) := by decide +kernel
theorem d_Re_openBefore_32 : decode b_Re_openBefore 32 = .ok (.aload_n 0, 1) := by decide +kernel
theorem d_Re_openBefore_33 : decode b_Re_openBefore 33 = .ok (.getfield 38, 3) := by decide +kernel
theorem d_Re_openBefore_36 : decode b_Re_openBefore 36 = .ok (.iload_n 1, 1) := by decide +kernel
theorem d_Re_openBefore_37 : decode b_Re_openBefore 37 = .ok (.aaload, 1) := by decide +kernel
theorem d_Re_openBefore_38 : decode b_Re_openBefore 38 = .ok (.iload_n 2, 1) := by decide +kernel
theorem d_Re_openBefore_39 : decode b_Re_openBefore 39 = .ok (.bipush 6, 2) := by decide +kernel
theorem d_Re_openBefore_41 : decode b_Re_openBefore 41 = .ok (.ishr, 1) := by decide +kernel
theorem d_Re_openBefore_42 : decode b_Re_openBefore 42 = .ok (.dup2, 1) := by decide +kernel
theorem d_Re_openBefore_43 : decode b_Re_openBefore 43 = .ok (.laload, 1) := by decide +kernel
theorem d_Re_openBefore_44 : decode b_Re_openBefore 44 = .ok (.lconst 1, 1) := by decide +kernel
theorem d_Re_openBefore_45 : decode b_Re_openBefore 45 = .ok (.iload_n 2, 1) := by decide +kernel
theorem d_Re_openBefore_46 : decode b_Re_openBefore 46 = .ok (.bipush 63, 2) := by decide +kernel
theorem d_Re_openBefore_48 : decode b_Re_openBefore 48 = .ok (.iand, 1) := by decide +kernel
theorem d_Re_openBefore_49 : decode b_Re_openBefore 49 = .ok (.lshl, 1) := by decide +kernel
theorem d_Re_openBefore_50 : decode b_Re_openBefore 50 = .ok (.lor, 1) := by decide +kernel
theorem d_Re_openBefore_51 : decode b_Re_openBefore 51 = .ok (.lastore, 1) := by decide +kernel
theorem d_Re_openBefore_52 : decode b_Re_openBefore 52 = .ok (.iinc 2 1, 3) := by decide +kernel
theorem d_Re_openBefore_55 : decode b_Re_openBefore 55 = .ok (.goto (-43), 3) := by decide +kernel
theorem d_Re_openBefore_58 : decode b_Re_openBefore 58 = .ok (.return_, 1) := by decide +kernel
theorem d_Re_leastInput_0 : decode b_Re_leastInput 0 = .ok (.aload_n 0, 1) := by decide +kernel
theorem d_Re_leastInput_1 : decode b_Re_leastInput 1 = .ok (.getfield 27, 3) := by decide +kernel
theorem d_Re_leastInput_4 : decode b_Re_leastInput 4 = .ok (.getfield 69, 3) := by decide +kernel
theorem d_Re_leastInput_7 : decode b_Re_leastInput 7 = .ok (.iload_n 1, 1) := by decide +kernel
theorem d_Re_leastInput_8 : decode b_Re_leastInput 8 = .ok (.iaload, 1) := by decide +kernel
theorem d_Re_leastInput_9 : decode b_Re_leastInput 9 = .ok (.istore_n 3, 1) := by decide +kernel
theorem d_Re_leastInput_10 : decode b_Re_leastInput 10 = .ok (.aload_n 0, 1) := by decide +kernel
theorem d_Re_leastInput_11 : decode b_Re_leastInput 11 = .ok (.getfield 23, 3) := by decide +kernel
theorem d_Re_leastInput_14 : decode b_Re_leastInput 14 = .ok (.iload_n 3, 1) := by decide +kernel
theorem d_Re_leastInput_15 : decode b_Re_leastInput 15 = .ok (.invokevirtual 72, 3) := by decide +kernel
theorem d_Re_leastInput_18 : decode b_Re_leastInput 18 = .ok (.istore 4, 2) := by decide +kernel
theorem d_Re_leastInput_20 : decode b_Re_leastInput 20 = .ok (.iconst 0, 1) := by decide +kernel
theorem d_Re_leastInput_21 : decode b_Re_leastInput 21 = .ok (.istore 5, 2) := by decide +kernel
theorem d_Re_leastInput_23 : decode b_Re_leastInput 23 = .ok (.iload 5, 2) := by decide +kernel
theorem d_Re_leastInput_25 : decode b_Re_leastInput 25 = .ok (.iload 4, 2) := by decide +kernel
theorem d_Re_leastInput_27 : decode b_Re_leastInput 27 = .ok (.if_icmp .ge 42, 3) := by decide +kernel
theorem d_Re_leastInput_30 : decode b_Re_leastInput 30 = .ok (.aload_n 0, 1) := by decide +kernel
theorem d_Re_leastInput_31 : decode b_Re_leastInput 31 = .ok (.getfield 23, 3) := by decide +kernel
theorem d_Re_leastInput_34 : decode b_Re_leastInput 34 = .ok (.iload_n 3, 1) := by decide +kernel
theorem d_Re_leastInput_35 : decode b_Re_leastInput 35 = .ok (.iload_n 2, 1) := by decide +kernel
theorem d_Re_leastInput_36 : decode b_Re_leastInput 36 = .ok (.iload 5, 2) := by decide +kernel
theorem d_Re_leastInput_38 : decode b_Re_leastInput 38 = .ok (.invokevirtual 78, 3) := by decide +kernel
theorem d_Re_leastInput_41 : decode b_Re_leastInput 41 = .ok (.istore 6, 2) := by decide +kernel
theorem d_Re_leastInput_43 : decode b_Re_leastInput 43 = .ok (.iload 6, 2) := by decide +kernel
theorem d_Re_leastInput_45 : decode b_Re_leastInput 45 = .ok (.ifCond .lt 18, 3) := by decide +kernel
theorem d_Re_leastInput_48 : decode b_Re_leastInput 48 = .ok (.aload_n 0, 1) := by decide +kernel
theorem d_Re_leastInput_49 : decode b_Re_leastInput 49 = .ok (.iload_n 1, 1) := by decide +kernel
theorem d_Re_leastInput_50 : decode b_Re_leastInput 50 = .ok (.iconst 1, 1) := by decide +kernel
theorem d_Re_leastInput_51 : decode b_Re_leastInput 51 = .ok (.iadd, 1) := by decide +kernel
theorem d_Re_leastInput_52 : decode b_Re_leastInput 52 = .ok (.iload 6, 2) := by decide +kernel
theorem d_Re_leastInput_54 : decode b_Re_leastInput 54 = .ok (.invokevirtual 58, 3) := by decide +kernel
theorem d_Re_leastInput_57 : decode b_Re_leastInput 57 = .ok (.ifCond .eq 6, 3) := by decide +kernel
theorem d_Re_leastInput_60 : decode b_Re_leastInput 60 = .ok (.iload 5, 2) := by decide +kernel
theorem d_Re_leastInput_62 : decode b_Re_leastInput 62 = .ok (.ireturn, 1) := by decide +kernel
theorem d_Re_leastInput_63 : decode b_Re_leastInput 63 = .ok (.iinc 5 1, 3) := by decide +kernel
theorem d_Re_leastInput_66 : decode b_Re_leastInput 66 = .ok (.goto (-43), 3) := by decide +kernel
theorem d_Re_leastInput_69 : decode b_Re_leastInput 69 = .ok (.iconst (-1), 1) := by decide +kernel
theorem d_Re_leastInput_70 : decode b_Re_leastInput 70 = .ok (.ireturn, 1) := by decide +kernel
theorem d_Re_isOpen_0 : decode b_Re_isOpen 0 = .ok (.aload_n 0, 1) := by decide +kernel
theorem d_Re_isOpen_1 : decode b_Re_isOpen 1 = .ok (.getfield 38, 3) := by decide +kernel
theorem d_Re_isOpen_4 : decode b_Re_isOpen 4 = .ok (.iload_n 1, 1) := by decide +kernel
theorem d_Re_isOpen_5 : decode b_Re_isOpen 5 = .ok (.aaload, 1) := by decide +kernel
theorem d_Re_isOpen_6 : decode b_Re_isOpen 6 = .ok (.iload_n 2, 1) := by decide +kernel
theorem d_Re_isOpen_7 : decode b_Re_isOpen 7 = .ok (.bipush 6, 2) := by decide +kernel
theorem d_Re_isOpen_9 : decode b_Re_isOpen 9 = .ok (.ishr, 1) := by decide +kernel
theorem d_Re_isOpen_10 : decode b_Re_isOpen 10 = .ok (.laload, 1) := by decide +kernel
theorem d_Re_isOpen_11 : decode b_Re_isOpen 11 = .ok (.iload_n 2, 1) := by decide +kernel
theorem d_Re_isOpen_12 : decode b_Re_isOpen 12 = .ok (.bipush 63, 2) := by decide +kernel
theorem d_Re_isOpen_14 : decode b_Re_isOpen 14 = .ok (.iand, 1) := by decide +kernel
theorem d_Re_isOpen_15 : decode b_Re_isOpen 15 = .ok (.lushr, 1) := by decide +kernel
theorem d_Re_isOpen_16 : decode b_Re_isOpen 16 = .ok (.lconst 1, 1) := by decide +kernel
theorem d_Re_isOpen_17 : decode b_Re_isOpen 17 = .ok (.land, 1) := by decide +kernel
theorem d_Re_isOpen_18 : decode b_Re_isOpen 18 = .ok (.lconst 0, 1) := by decide +kernel
theorem d_Re_isOpen_19 : decode b_Re_isOpen 19 = .ok (.lcmp, 1) := by decide +kernel
theorem d_Re_isOpen_20 : decode b_Re_isOpen 20 = .ok (.ifCond .eq 7, 3) := by decide +kernel
theorem d_Re_isOpen_23 : decode b_Re_isOpen 23 = .ok (.iconst 1, 1) := by decide +kernel
theorem d_Re_isOpen_24 : decode b_Re_isOpen 24 = .ok (.goto 4, 3) := by decide +kernel
theorem d_Re_isOpen_27 : decode b_Re_isOpen 27 = .ok (.iconst 0, 1) := by decide +kernel
theorem d_Re_isOpen_28 : decode b_Re_isOpen 28 = .ok (.ireturn, 1) := by decide +kernel
theorem d_Re_collectInputs_0 : decode b_Re_collectInputs 0 = .ok (.iconst 0, 1) := by decide +kernel
theorem d_Re_collectInputs_1 : decode b_Re_collectInputs 1 = .ok (.istore_n 1, 1) := by decide +kernel
theorem d_Re_collectInputs_2 : decode b_Re_collectInputs 2 = .ok (.iconst 0, 1) := by decide +kernel
theorem d_Re_collectInputs_3 : decode b_Re_collectInputs 3 = .ok (.istore_n 2, 1) := by decide +kernel
theorem d_Re_collectInputs_4 : decode b_Re_collectInputs 4 = .ok (.iload_n 2, 1) := by decide +kernel
theorem d_Re_collectInputs_5 : decode b_Re_collectInputs 5 = .ok (.aload_n 0, 1) := by decide +kernel
theorem d_Re_collectInputs_6 : decode b_Re_collectInputs 6 = .ok (.getfield 27, 3) := by decide +kernel
theorem d_Re_collectInputs_9 : decode b_Re_collectInputs 9 = .ok (.getfield 41, 3) := by decide +kernel
theorem d_Re_collectInputs_12 : decode b_Re_collectInputs 12 = .ok (.if_icmp .ge 77, 3) := by decide +kernel
theorem d_Re_collectInputs_15 : decode b_Re_collectInputs 15 = .ok (.iload_n 1, 1) := by decide +kernel
theorem d_Re_collectInputs_16 : decode b_Re_collectInputs 16 = .ok (.ifCond .lt 73, 3) := by decide +kernel
theorem d_Re_collectInputs_19 : decode b_Re_collectInputs 19 = .ok (.aload_n 0, 1) := by decide +kernel
theorem d_Re_collectInputs_20 : decode b_Re_collectInputs 20 = .ok (.getfield 27, 3) := by decide +kernel
theorem d_Re_collectInputs_23 : decode b_Re_collectInputs 23 = .ok (.getfield 69, 3) := by decide +kernel
theorem d_Re_collectInputs_26 : decode b_Re_collectInputs 26 = .ok (.iload_n 2, 1) := by decide +kernel
theorem d_Re_collectInputs_27 : decode b_Re_collectInputs 27 = .ok (.iaload, 1) := by decide +kernel
theorem d_Re_collectInputs_28 : decode b_Re_collectInputs 28 = .ok (.istore_n 3, 1) := by decide +kernel
theorem d_Re_collectInputs_29 : decode b_Re_collectInputs 29 = .ok (.aload_n 0, 1) := by decide +kernel
theorem d_Re_collectInputs_30 : decode b_Re_collectInputs 30 = .ok (.iload_n 2, 1) := by decide +kernel
theorem d_Re_collectInputs_31 : decode b_Re_collectInputs 31 = .ok (.iload_n 1, 1) := by decide +kernel
theorem d_Re_collectInputs_32 : decode b_Re_collectInputs 32 = .ok (.invokevirtual 65, 3) := by decide +kernel
theorem d_Re_collectInputs_35 : decode b_Re_collectInputs 35 = .ok (.istore 4, 2) := by decide +kernel
theorem d_Re_collectInputs_37 : decode b_Re_collectInputs 37 = .ok (.aload_n 0, 1) := by decide +kernel
theorem d_Re_collectInputs_38 : decode b_Re_collectInputs 38 = .ok (.getfield 23, 3) := by decide +kernel
theorem d_Re_collectInputs_41 : decode b_Re_collectInputs 41 = .ok (.getfield 82, 3) := by decide +kernel
theorem d_Re_collectInputs_44 : decode b_Re_collectInputs 44 = .ok (.iload_n 3, 1) := by decide +kernel
theorem d_Re_collectInputs_45 : decode b_Re_collectInputs 45 = .ok (.iaload, 1) := by decide +kernel
theorem d_Re_collectInputs_46 : decode b_Re_collectInputs 46 = .ok (.iconst 2, 1) := by decide +kernel
theorem d_Re_collectInputs_47 : decode b_Re_collectInputs 47 = .ok (.if_icmp .ne 24, 3) := by decide +kernel
theorem d_Re_collectInputs_50 : decode b_Re_collectInputs 50 = .ok (.aload_n 0, 1) := by decide +kernel
theorem d_Re_collectInputs_51 : decode b_Re_collectInputs 51 = .ok (.getfield 9, 3) := by decide +kernel
theorem d_Re_collectInputs_54 : decode b_Re_collectInputs 54 = .ok (.aload_n 0, 1) := by decide +kernel
theorem d_Re_collectInputs_55 : decode b_Re_collectInputs 55 = .ok (.getfield 15, 3) := by decide +kernel
theorem d_Re_collectInputs_58 : decode b_Re_collectInputs 58 = .ok (.iload 4, 2) := by decide +kernel
theorem d_Re_collectInputs_60 : decode b_Re_collectInputs 60 = .ok (.iastore, 1) := by decide +kernel
theorem d_Re_collectInputs_61 : decode b_Re_collectInputs 61 = .ok (.aload_n 0, 1) := by decide +kernel
theorem d_Re_collectInputs_62 : decode b_Re_collectInputs 62 = .ok (.dup, 1) := by decide +kernel
theorem d_Re_collectInputs_63 : decode b_Re_collectInputs 63 = .ok (.getfield 15, 3) := by decide +kernel
theorem d_Re_collectInputs_66 : decode b_Re_collectInputs 66 = .ok (.iconst 1, 1) := by decide +kernel
theorem d_Re_collectInputs_67 : decode b_Re_collectInputs 67 = .ok (.iadd, 1) := by decide +kernel
theorem d_Re_collectInputs_68 : decode b_Re_collectInputs 68 = .ok (.putfield 15, 3) := by decide +kernel
theorem d_Re_collectInputs_71 : decode b_Re_collectInputs 71 = .ok (.aload_n 0, 1) := by decide +kernel
theorem d_Re_collectInputs_72 : decode b_Re_collectInputs 72 = .ok (.getfield 23, 3) := by decide +kernel
theorem d_Re_collectInputs_75 : decode b_Re_collectInputs 75 = .ok (.iload_n 3, 1) := by decide +kernel
theorem d_Re_collectInputs_76 : decode b_Re_collectInputs 76 = .ok (.iload_n 1, 1) := by decide +kernel
theorem d_Re_collectInputs_77 : decode b_Re_collectInputs 77 = .ok (.iload 4, 2) := by decide +kernel
theorem d_Re_collectInputs_79 : decode b_Re_collectInputs 79 = .ok (.invokevirtual 78, 3) := by decide +kernel
theorem d_Re_collectInputs_82 : decode b_Re_collectInputs 82 = .ok (.istore_n 1, 1) := by decide +kernel
theorem d_Re_collectInputs_83 : decode b_Re_collectInputs 83 = .ok (.iinc 2 1, 3) := by decide +kernel
theorem d_Re_collectInputs_86 : decode b_Re_collectInputs 86 = .ok (.goto (-82), 3) := by decide +kernel
theorem d_Re_collectInputs_89 : decode b_Re_collectInputs 89 = .ok (.return_, 1) := by decide +kernel
theorem d_Rf_refine_0 : decode b_Rf_refine 0 = .ok (.aload_n 0, 1) := by decide +kernel
theorem d_Rf_refine_1 : decode b_Rf_refine 1 = .ok (.getfield 23, 3) := by decide +kernel
theorem d_Rf_refine_4 : decode b_Rf_refine 4 = .ok (.getfield 45, 3) := by decide +kernel
theorem d_Rf_refine_7 : decode b_Rf_refine 7 = .ok (.istore_n 1, 1) := by decide +kernel
theorem d_Rf_refine_8 : decode b_Rf_refine 8 = .ok (.aload_n 0, 1) := by decide +kernel
theorem d_Rf_refine_9 : decode b_Rf_refine 9 = .ok (.iconst 0, 1) := by decide +kernel
theorem d_Rf_refine_10 : decode b_Rf_refine 10 = .ok (.putfield 9, 3) := by decide +kernel
theorem d_Rf_refine_13 : decode b_Rf_refine 13 = .ok (.aload_n 0, 1) := by decide +kernel
theorem d_Rf_refine_14 : decode b_Rf_refine 14 = .ok (.getfield 27, 3) := by decide +kernel
theorem d_Rf_refine_17 : decode b_Rf_refine 17 = .ok (.getfield 50, 3) := by decide +kernel
theorem d_Rf_refine_20 : decode b_Rf_refine 20 = .ok (.iconst 1, 1) := by decide +kernel
theorem d_Rf_refine_21 : decode b_Rf_refine 21 = .ok (.isub, 1) := by decide +kernel
theorem d_Rf_refine_22 : decode b_Rf_refine 22 = .ok (.istore_n 2, 1) := by decide +kernel
theorem d_Rf_refine_23 : decode b_Rf_refine 23 = .ok (.iload_n 2, 1) := by decide +kernel
theorem d_Rf_refine_24 : decode b_Rf_refine 24 = .ok (.ifCond .lt 31, 3) := by decide +kernel
theorem d_Rf_refine_27 : decode b_Rf_refine 27 = .ok (.aload_n 0, 1) := by decide +kernel
theorem d_Rf_refine_28 : decode b_Rf_refine 28 = .ok (.aload_n 0, 1) := by decide +kernel
theorem d_Rf_refine_29 : decode b_Rf_refine 29 = .ok (.getfield 27, 3) := by decide +kernel
theorem d_Rf_refine_32 : decode b_Rf_refine 32 = .ok (.getfield 55, 3) := by decide +kernel
theorem d_Rf_refine_35 : decode b_Rf_refine 35 = .ok (.iload_n 2, 1) := by decide +kernel
theorem d_Rf_refine_36 : decode b_Rf_refine 36 = .ok (.iaload, 1) := by decide +kernel
theorem d_Rf_refine_37 : decode b_Rf_refine 37 = .ok (.invokevirtual 59, 3) := by decide +kernel
theorem d_Rf_refine_40 : decode b_Rf_refine 40 = .ok (.aload_n 0, 1) := by decide +kernel
theorem d_Rf_refine_41 : decode b_Rf_refine 41 = .ok (.invokevirtual 63, 3) := by decide +kernel
theorem d_Rf_refine_44 : decode b_Rf_refine 44 = .ok (.ifCond .ne 5, 3) := by decide +kernel
theorem d_Rf_refine_47 : decode b_Rf_refine 47 = .ok (.iconst 0, 1) := by decide +kernel
theorem d_Rf_refine_48 : decode b_Rf_refine 48 = .ok (.ireturn, 1) := by decide +kernel
theorem d_Rf_refine_49 : decode b_Rf_refine 49 = .ok (.iinc 2 (-1), 3) := by decide +kernel
theorem d_Rf_refine_52 : decode b_Rf_refine 52 = .ok (.goto (-29), 3) := by decide +kernel
theorem d_Rf_refine_55 : decode b_Rf_refine 55 = .ok (.aload_n 0, 1) := by decide +kernel
theorem d_Rf_refine_56 : decode b_Rf_refine 56 = .ok (.getfield 23, 3) := by decide +kernel
theorem d_Rf_refine_59 : decode b_Rf_refine 59 = .ok (.getfield 45, 3) := by decide +kernel
theorem d_Rf_refine_62 : decode b_Rf_refine 62 = .ok (.iload_n 1, 1) := by decide +kernel
theorem d_Rf_refine_63 : decode b_Rf_refine 63 = .ok (.if_icmp .gt 10, 3) := by decide +kernel
theorem d_Rf_refine_66 : decode b_Rf_refine 66 = .ok (.aload_n 0, 1) := by decide +kernel
theorem d_Rf_refine_67 : decode b_Rf_refine 67 = .ok (.invokevirtual 67, 3) := by decide +kernel
theorem d_Rf_refine_70 : decode b_Rf_refine 70 = .ok (.ifCond .eq 7, 3) := by decide +kernel
theorem d_Rf_refine_73 : decode b_Rf_refine 73 = .ok (.iconst 1, 1) := by decide +kernel
theorem d_Rf_refine_74 : decode b_Rf_refine 74 = .ok (.goto 4, 3) := by decide +kernel
theorem d_Rf_refine_77 : decode b_Rf_refine 77 = .ok (.iconst 0, 1) := by decide +kernel
theorem d_Rf_refine_78 : decode b_Rf_refine 78 = .ok (.ireturn, 1) := by decide +kernel
theorem d_Rf_passEdge_0 : decode b_Rf_passEdge 0 = .ok (.aload_n 0, 1) := by decide +kernel
theorem d_Rf_passEdge_1 : decode b_Rf_passEdge 1 = .ok (.getfield 19, 3) := by decide +kernel
theorem d_Rf_passEdge_4 : decode b_Rf_passEdge 4 = .ok (.getfield 70, 3) := by decide +kernel
theorem d_Rf_passEdge_7 : decode b_Rf_passEdge 7 = .ok (.iload_n 1, 1) := by decide +kernel
theorem d_Rf_passEdge_8 : decode b_Rf_passEdge 8 = .ok (.iaload, 1) := by decide +kernel
theorem d_Rf_passEdge_9 : decode b_Rf_passEdge 9 = .ok (.istore_n 2, 1) := by decide +kernel
theorem d_Rf_passEdge_10 : decode b_Rf_passEdge 10 = .ok (.iload_n 2, 1) := by decide +kernel
theorem d_Rf_passEdge_11 : decode b_Rf_passEdge 11 = .ok (.ifCond .ne 17, 3) := by decide +kernel
theorem d_Rf_passEdge_14 : decode b_Rf_passEdge 14 = .ok (.aload_n 0, 1) := by decide +kernel
theorem d_Rf_passEdge_15 : decode b_Rf_passEdge 15 = .ok (.aload_n 0, 1) := by decide +kernel
theorem d_Rf_passEdge_16 : decode b_Rf_passEdge 16 = .ok (.getfield 19, 3) := by decide +kernel
theorem d_Rf_passEdge_19 : decode b_Rf_passEdge 19 = .ok (.getfield 75, 3) := by decide +kernel
theorem d_Rf_passEdge_22 : decode b_Rf_passEdge 22 = .ok (.iload_n 1, 1) := by decide +kernel
theorem d_Rf_passEdge_23 : decode b_Rf_passEdge 23 = .ok (.aaload, 1) := by decide +kernel
theorem d_Rf_passEdge_24 : decode b_Rf_passEdge 24 = .ok (.invokevirtual 79, 3) := by decide +kernel
theorem d_Rf_passEdge_27 : decode b_Rf_passEdge 27 = .ok (.return_, 1) := by decide +kernel
theorem d_Rf_passEdge_28 : decode b_Rf_passEdge 28 = .ok (.iconst 0, 1) := by decide +kernel
theorem d_Rf_passEdge_29 : decode b_Rf_passEdge 29 = .ok (.istore_n 3, 1) := by decide +kernel
theorem d_Rf_passEdge_30 : decode b_Rf_passEdge 30 = .ok (.iload_n 3, 1) := by decide +kernel
theorem d_Rf_passEdge_31 : decode b_Rf_passEdge 31 = .ok (.aload_n 0, 1) := by decide +kernel
theorem d_Rf_passEdge_32 : decode b_Rf_passEdge 32 = .ok (.invokevirtual 83, 3) := by decide +kernel
theorem d_Rf_passEdge_35 : decode b_Rf_passEdge 35 = .ok (.if_icmp .ge 55, 3) := by decide +kernel
theorem d_Rf_passEdge_38 : decode b_Rf_passEdge 38 = .ok (.iload_n 2, 1) := by decide +kernel
theorem d_Rf_passEdge_39 : decode b_Rf_passEdge 39 = .ok (.iconst 1, 1) := by decide +kernel
theorem d_Rf_passEdge_40 : decode b_Rf_passEdge 40 = .ok (.if_icmp .ne 25, 3) := by decide +kernel
theorem d_Rf_passEdge_43 : decode b_Rf_passEdge 43 = .ok (.aload_n 0, 1) := by decide +kernel
theorem d_Rf_passEdge_44 : decode b_Rf_passEdge 44 = .ok (.aload_n 0, 1) := by decide +kernel
theorem d_Rf_passEdge_45 : decode b_Rf_passEdge 45 = .ok (.getfield 38, 3) := by decide +kernel
theorem d_Rf_passEdge_48 : decode b_Rf_passEdge 48 = .ok (.iload_n 3, 1) := by decide +kernel
theorem d_Rf_passEdge_49 : decode b_Rf_passEdge 49 = .ok (.aaload, 1) := by decide +kernel
theorem d_Rf_passEdge_50 : decode b_Rf_passEdge 50 = .ok (.aload_n 0, 1) := by decide +kernel
theorem d_Rf_passEdge_51 : decode b_Rf_passEdge 51 = .ok (.getfield 19, 3) := by decide +kernel
theorem d_Rf_passEdge_54 : decode b_Rf_passEdge 54 = .ok (.getfield 75, 3) := by decide +kernel
theorem d_Rf_passEdge_57 : decode b_Rf_passEdge 57 = .ok (.iload_n 1, 1) := by decide +kernel
theorem d_Rf_passEdge_58 : decode b_Rf_passEdge 58 = .ok (.aaload, 1) := by decide +kernel
theorem d_Rf_passEdge_59 : decode b_Rf_passEdge 59 = .ok (.invokevirtual 87, 3) := by decide +kernel
theorem d_Rf_passEdge_62 : decode b_Rf_passEdge 62 = .ok (.goto 22, 3) := by decide +kernel
theorem d_Rf_passEdge_65 : decode b_Rf_passEdge 65 = .ok (.aload_n 0, 1) := by decide +kernel
theorem d_Rf_passEdge_66 : decode b_Rf_passEdge 66 = .ok (.aload_n 0, 1) := by decide +kernel
theorem d_Rf_passEdge_67 : decode b_Rf_passEdge 67 = .ok (.getfield 38, 3) := by decide +kernel
theorem d_Rf_passEdge_70 : decode b_Rf_passEdge 70 = .ok (.iload_n 3, 1) := by decide +kernel
theorem d_Rf_passEdge_71 : decode b_Rf_passEdge 71 = .ok (.aaload, 1) := by decide +kernel
theorem d_Rf_passEdge_72 : decode b_Rf_passEdge 72 = .ok (.aload_n 0, 1) := by decide +kernel
theorem d_Rf_passEdge_73 : decode b_Rf_passEdge 73 = .ok (.getfield 19, 3) := by decide +kernel
theorem d_Rf_passEdge_76 : decode b_Rf_passEdge 76 = .ok (.getfield 75, 3) := by decide +kernel
theorem d_Rf_passEdge_79 : decode b_Rf_passEdge 79 = .ok (.iload_n 1, 1) := by decide +kernel
theorem d_Rf_passEdge_80 : decode b_Rf_passEdge 80 = .ok (.aaload, 1) := by decide +kernel
theorem d_Rf_passEdge_81 : decode b_Rf_passEdge 81 = .ok (.invokevirtual 91, 3) := by decide +kernel
theorem d_Rf_passEdge_84 : decode b_Rf_passEdge 84 = .ok (.iinc 3 1, 3) := by decide +kernel
theorem d_Rf_passEdge_87 : decode b_Rf_passEdge 87 = .ok (.goto (-57), 3) := by decide +kernel
theorem d_Rf_passEdge_90 : decode b_Rf_passEdge 90 = .ok (.return_, 1) := by decide +kernel
theorem d_Rf_takeAlong_0 : decode b_Rf_takeAlong 0 = .ok (.aload_n 0, 1) := by decide +kernel
theorem d_Rf_takeAlong_1 : decode b_Rf_takeAlong 1 = .ok (.getfield 38, 3) := by decide +kernel
theorem d_Rf_takeAlong_4 : decode b_Rf_takeAlong 4 = .ok (.aload_n 0, 1) := by decide +kernel
theorem d_Rf_takeAlong_5 : decode b_Rf_takeAlong 5 = .ok (.getfield 9, 3) := by decide +kernel
theorem d_Rf_takeAlong_8 : decode b_Rf_takeAlong 8 = .ok (.bipush 64, 2) := by decide +kernel
theorem d_Rf_takeAlong_10 : decode b_Rf_takeAlong 10 = .ok (.idiv, 1) := by decide +kernel
theorem d_Rf_takeAlong_11 : decode b_Rf_takeAlong 11 = .ok (.aaload, 1) := by decide +kernel
theorem d_Rf_takeAlong_12 : decode b_Rf_takeAlong 12 = .ok (.astore_n 2, 1) := by decide +kernel
theorem d_Rf_takeAlong_13 : decode b_Rf_takeAlong 13 = .ok (.aload_n 0, 1) := by decide +kernel
theorem d_Rf_takeAlong_14 : decode b_Rf_takeAlong 14 = .ok (.getfield 9, 3) := by decide +kernel
theorem d_Rf_takeAlong_17 : decode b_Rf_takeAlong 17 = .ok (.bipush 64, 2) := by decide +kernel
theorem d_Rf_takeAlong_19 : decode b_Rf_takeAlong 19 = .ok (.irem, 1) := by decide +kernel
theorem d_Rf_takeAlong_20 : decode b_Rf_takeAlong 20 = .ok (.istore_n 3, 1) := by decide +kernel
theorem d_Rf_takeAlong_21 : decode b_Rf_takeAlong 21 = .ok (.iload_n 3, 1) := by decide +kernel
theorem d_Rf_takeAlong_22 : decode b_Rf_takeAlong 22 = .ok (.ifCond .ne 8, 3) := by decide +kernel
theorem d_Rf_takeAlong_25 : decode b_Rf_takeAlong 25 = .ok (.aload_n 2, 1) := by decide +kernel
theorem d_Rf_takeAlong_26 : decode b_Rf_takeAlong 26 = .ok (.lconst 0, 1) := by decide +kernel
theorem d_Rf_takeAlong_27 : decode b_Rf_takeAlong 27 = .ok (.invokestatic 94, 3) := by decide +kernel
theorem d_Rf_takeAlong_30 : decode b_Rf_takeAlong 30 = .ok (.iconst 0, 1) := by decide +kernel
theorem d_Rf_takeAlong_31 : decode b_Rf_takeAlong 31 = .ok (.istore 4, 2) := by decide +kernel
theorem d_Rf_takeAlong_33 : decode b_Rf_takeAlong 33 = .ok (.iload 4, 2) := by decide +kernel
theorem d_Rf_takeAlong_35 : decode b_Rf_takeAlong 35 = .ok (.aload_n 0, 1) := by decide +kernel
theorem d_Rf_takeAlong_36 : decode b_Rf_takeAlong 36 = .ok (.getfield 15, 3) := by decide +kernel
theorem d_Rf_takeAlong_39 : decode b_Rf_takeAlong 39 = .ok (.getfield 31, 3) := by decide +kernel
theorem d_Rf_takeAlong_42 : decode b_Rf_takeAlong 42 = .ok (.if_icmp .ge 26, 3) := by decide +kernel
theorem d_Rf_takeAlong_45 : decode b_Rf_takeAlong 45 = .ok (.aload_n 1, 1) := by decide +kernel
theorem d_Rf_takeAlong_46 : decode b_Rf_takeAlong 46 = .ok (.iload 4, 2) := by decide +kernel
theorem d_Rf_takeAlong_48 : decode b_Rf_takeAlong 48 = .ok (.iaload, 1) := by decide +kernel
theorem d_Rf_takeAlong_49 : decode b_Rf_takeAlong 49 = .ok (.ifCond .lt 13, 3) := by decide +kernel
theorem d_Rf_takeAlong_52 : decode b_Rf_takeAlong 52 = .ok (.aload_n 2, 1) := by decide +kernel
theorem d_Rf_takeAlong_53 : decode b_Rf_takeAlong 53 = .ok (.iload 4, 2) := by decide +kernel
theorem d_Rf_takeAlong_55 : decode b_Rf_takeAlong 55 = .ok (.dup2, 1) := by decide +kernel
theorem d_Rf_takeAlong_56 : decode b_Rf_takeAlong 56 = .ok (.laload, 1) := by decide +kernel
theorem d_Rf_takeAlong_57 : decode b_Rf_takeAlong 57 = .ok (.lconst 1, 1) := by decide +kernel
theorem d_Rf_takeAlong_58 : decode b_Rf_takeAlong 58 = .ok (.iload_n 3, 1) := by decide +kernel
theorem d_Rf_takeAlong_59 : decode b_Rf_takeAlong 59 = .ok (.lshl, 1) := by decide +kernel
theorem d_Rf_takeAlong_60 : decode b_Rf_takeAlong 60 = .ok (.lor, 1) := by decide +kernel
theorem d_Rf_takeAlong_61 : decode b_Rf_takeAlong 61 = .ok (.lastore, 1) := by decide +kernel
theorem d_Rf_takeAlong_62 : decode b_Rf_takeAlong 62 = .ok (.iinc 4 1, 3) := by decide +kernel
theorem d_Rf_takeAlong_65 : decode b_Rf_takeAlong 65 = .ok (.goto (-32), 3) := by decide +kernel
theorem d_Rf_takeAlong_68 : decode b_Rf_takeAlong 68 = .ok (.aload_n 0, 1) := by decide +kernel
theorem d_Rf_takeAlong_69 : decode b_Rf_takeAlong 69 = .ok (.dup, 1) := by decide +kernel
theorem d_Rf_takeAlong_70 : decode b_Rf_takeAlong 70 = .ok (.getfield 9, 3) := by decide +kernel
theorem d_Rf_takeAlong_73 : decode b_Rf_takeAlong 73 = .ok (.iconst 1, 1) := by decide +kernel
theorem d_Rf_takeAlong_74 : decode b_Rf_takeAlong 74 = .ok (.iadd, 1) := by decide +kernel
theorem d_Rf_takeAlong_75 : decode b_Rf_takeAlong 75 = .ok (.putfield 9, 3) := by decide +kernel
theorem d_Rf_takeAlong_78 : decode b_Rf_takeAlong 78 = .ok (.return_, 1) := by decide +kernel
theorem d_Rf_rowsInUse_0 : decode b_Rf_rowsInUse 0 = .ok (.aload_n 0, 1) := by decide +kernel
theorem d_Rf_rowsInUse_1 : decode b_Rf_rowsInUse 1 = .ok (.getfield 9, 3) := by decide +kernel
theorem d_Rf_rowsInUse_4 : decode b_Rf_rowsInUse 4 = .ok (.bipush 64, 2) := by decide +kernel
theorem d_Rf_rowsInUse_6 : decode b_Rf_rowsInUse 6 = .ok (.iadd, 1) := by decide +kernel
theorem d_Rf_rowsInUse_7 : decode b_Rf_rowsInUse 7 = .ok (.iconst 1, 1) := by decide +kernel
theorem d_Rf_rowsInUse_8 : decode b_Rf_rowsInUse 8 = .ok (.isub, 1) := by decide +kernel
theorem d_Rf_rowsInUse_9 : decode b_Rf_rowsInUse 9 = .ok (.bipush 64, 2) := by decide +kernel
theorem d_Rf_rowsInUse_11 : decode b_Rf_rowsInUse 11 = .ok (.idiv, 1) := by decide +kernel
theorem d_Rf_rowsInUse_12 : decode b_Rf_rowsInUse 12 = .ok (.ireturn, 1) := by decide +kernel
theorem d_Rf_pullBack_0 : decode b_Rf_pullBack 0 = .ok (.iconst 0, 1) := by decide +kernel
theorem d_Rf_pullBack_1 : decode b_Rf_pullBack 1 = .ok (.istore_n 3, 1) := by decide +kernel
theorem d_Rf_pullBack_2 : decode b_Rf_pullBack 2 = .ok (.iload_n 3, 1) := by decide +kernel
theorem d_Rf_pullBack_3 : decode b_Rf_pullBack 3 = .ok (.aload_n 0, 1) := by decide +kernel
theorem d_Rf_pullBack_4 : decode b_Rf_pullBack 4 = .ok (.getfield 15, 3) := by decide +kernel
theorem d_Rf_pullBack_7 : decode b_Rf_pullBack 7 = .ok (.getfield 31, 3) := by decide +kernel
theorem d_Rf_pullBack_10 : decode b_Rf_pullBack 10 = .ok (.if_icmp .ge 20, 3) := by decide +kernel
theorem d_Rf_pullBack_13 : decode b_Rf_pullBack 13 = .ok (.aload_n 0, 1) := by decide +kernel
theorem d_Rf_pullBack_14 : decode b_Rf_pullBack 14 = .ok (.getfield 41, 3) := by decide +kernel
theorem d_Rf_pullBack_17 : decode b_Rf_pullBack 17 = .ok (.iload_n 3, 1) := by decide +kernel
theorem d_Rf_pullBack_18 : decode b_Rf_pullBack 18 = .ok (.aload_n 1, 1) := by decide +kernel
theorem d_Rf_pullBack_19 : decode b_Rf_pullBack 19 = .ok (.aload_n 2, 1) := by decide +kernel
theorem d_Rf_pullBack_20 : decode b_Rf_pullBack 20 = .ok (.iload_n 3, 1) := by decide +kernel
theorem d_Rf_pullBack_21 : decode b_Rf_pullBack 21 = .ok (.iaload, 1) := by decide +kernel
theorem d_Rf_pullBack_22 : decode b_Rf_pullBack 22 = .ok (.laload, 1) := by decide +kernel
theorem d_Rf_pullBack_23 : decode b_Rf_pullBack 23 = .ok (.lastore, 1) := by decide +kernel
theorem d_Rf_pullBack_24 : decode b_Rf_pullBack 24 = .ok (.iinc 3 1, 3) := by decide +kernel
theorem d_Rf_pullBack_27 : decode b_Rf_pullBack 27 = .ok (.goto (-25), 3) := by decide +kernel
theorem d_Rf_pullBack_30 : decode b_Rf_pullBack 30 = .ok (.aload_n 0, 1) := by decide +kernel
theorem d_Rf_pullBack_31 : decode b_Rf_pullBack 31 = .ok (.getfield 41, 3) := by decide +kernel
theorem d_Rf_pullBack_34 : decode b_Rf_pullBack 34 = .ok (.iconst 0, 1) := by decide +kernel
theorem d_Rf_pullBack_35 : decode b_Rf_pullBack 35 = .ok (.aload_n 1, 1) := by decide +kernel
theorem d_Rf_pullBack_36 : decode b_Rf_pullBack 36 = .ok (.iconst 0, 1) := by decide +kernel
theorem d_Rf_pullBack_37 : decode b_Rf_pullBack 37 = .ok (.aload_n 0, 1) := by decide +kernel
theorem d_Rf_pullBack_38 : decode b_Rf_pullBack 38 = .ok (.getfield 15, 3) := by decide +kernel
theorem d_Rf_pullBack_41 : decode b_Rf_pullBack 41 = .ok (.getfield 31, 3) := by decide +kernel
theorem d_Rf_pullBack_44 : decode b_Rf_pullBack 44 = .ok (.invokestatic 100, 3) := by decide +kernel
theorem d_Rf_pullBack_47 : decode b_Rf_pullBack 47 = .ok (.return_, 1) := by decide +kernel
theorem d_Rf_leaveBehind_0 : decode b_Rf_leaveBehind 0 = .ok (.lconst 0, 1) := by decide +kernel
theorem d_Rf_leaveBehind_1 : decode b_Rf_leaveBehind 1 = .ok (.lstore_n 3, 1) := by decide +kernel
theorem d_Rf_leaveBehind_2 : decode b_Rf_leaveBehind 2 = .ok (.iconst 0, 1) := by decide +kernel
theorem d_Rf_leaveBehind_3 : decode b_Rf_leaveBehind 3 = .ok (.istore 5, 2) := by decide +kernel
theorem d_Rf_leaveBehind_5 : decode b_Rf_leaveBehind 5 = .ok (.iload 5, 2) := by decide +kernel
theorem d_Rf_leaveBehind_7 : decode b_Rf_leaveBehind 7 = .ok (.aload_n 0, 1) := by decide +kernel
theorem d_Rf_leaveBehind_8 : decode b_Rf_leaveBehind 8 = .ok (.getfield 15, 3) := by decide +kernel
theorem d_Rf_leaveBehind_11 : decode b_Rf_leaveBehind 11 = .ok (.getfield 31, 3) := by decide +kernel
theorem d_Rf_leaveBehind_14 : decode b_Rf_leaveBehind 14 = .ok (.if_icmp .ge 23, 3) := by decide +kernel
theorem d_Rf_leaveBehind_17 : decode b_Rf_leaveBehind 17 = .ok (.lload_n 3, 1) := by decide +kernel
theorem d_Rf_leaveBehind_18 : decode b_Rf_leaveBehind 18 = .ok (.aload_n 1, 1) := by decide +kernel
theorem d_Rf_leaveBehind_19 : decode b_Rf_leaveBehind 19 = .ok (.iload 5, 2) := by decide +kernel
theorem d_Rf_leaveBehind_21 : decode b_Rf_leaveBehind 21 = .ok (.laload, 1) := by decide +kernel
theorem d_Rf_leaveBehind_22 : decode b_Rf_leaveBehind 22 = .ok (.aload_n 1, 1) := by decide +kernel
theorem d_Rf_leaveBehind_23 : decode b_Rf_leaveBehind 23 = .ok (.aload_n 2, 1) := by decide +kernel
theorem d_Rf_leaveBehind_24 : decode b_Rf_leaveBehind 24 = .ok (.iload 5, 2) := by decide +kernel
theorem d_Rf_leaveBehind_26 : decode b_Rf_leaveBehind 26 = .ok (.iaload, 1) := by decide +kernel
theorem d_Rf_leaveBehind_27 : decode b_Rf_leaveBehind 27 = .ok (.laload, 1) := by decide +kernel
theorem d_Rf_leaveBehind_28 : decode b_Rf_leaveBehind 28 = .ok (.lxor, 1) := by decide +kernel
theorem d_Rf_leaveBehind_29 : decode b_Rf_leaveBehind 29 = .ok (.lor, 1) := by decide +kernel
theorem d_Rf_leaveBehind_30 : decode b_Rf_leaveBehind 30 = .ok (.lstore_n 3, 1) := by decide +kernel
theorem d_Rf_leaveBehind_31 : decode b_Rf_leaveBehind 31 = .ok (.iinc 5 1, 3) := by decide +kernel
theorem d_Rf_leaveBehind_34 : decode b_Rf_leaveBehind 34 = .ok (.goto (-29), 3) := by decide +kernel
theorem d_Rf_leaveBehind_37 : decode b_Rf_leaveBehind 37 = .ok (.iconst 0, 1) := by decide +kernel
theorem d_Rf_leaveBehind_38 : decode b_Rf_leaveBehind 38 = .ok (.istore 5, 2) := by decide +kernel
theorem d_Rf_leaveBehind_40 : decode b_Rf_leaveBehind 40 = .ok (.iload 5, 2) := by decide +kernel
theorem d_Rf_leaveBehind_42 : decode b_Rf_leaveBehind 42 = .ok (.aload_n 0, 1) := by decide +kernel
theorem d_Rf_leaveBehind_43 : decode b_Rf_leaveBehind 43 = .ok (.getfield 15, 3) := by decide +kernel
theorem d_Rf_leaveBehind_46 : decode b_Rf_leaveBehind 46 = .ok (.getfield 31, 3) := by decide +kernel
theorem d_Rf_leaveBehind_49 : decode b_Rf_leaveBehind 49 = .ok (.if_icmp .ge 21, 3) := by decide +kernel
theorem d_Rf_leaveBehind_52 : decode b_Rf_leaveBehind 52 = .ok (.aload_n 1, 1) := by decide +kernel
theorem d_Rf_leaveBehind_53 : decode b_Rf_leaveBehind 53 = .ok (.iload 5, 2) := by decide +kernel
theorem d_Rf_leaveBehind_55 : decode b_Rf_leaveBehind 55 = .ok (.dup2, 1) := by decide +kernel
theorem d_Rf_leaveBehind_56 : decode b_Rf_leaveBehind 56 = .ok (.laload, 1) := by decide +kernel
theorem d_Rf_leaveBehind_57 : decode b_Rf_leaveBehind 57 = .ok (.lload_n 3, 1) := by decide +kernel
theorem d_Rf_leaveBehind_58 : decode b_Rf_leaveBehind 58 = .ok (.ldc2_w 106, 3) := by decide +kernel
theorem d_Rf_leaveBehind_61 : decode b_Rf_leaveBehind 61 = .ok (.lxor, 1) := by decide +kernel
theorem d_Rf_leaveBehind_62 : decode b_Rf_leaveBehind 62 = .ok (.land, 1) := by decide +kernel
theorem d_Rf_leaveBehind_63 : decode b_Rf_leaveBehind 63 = .ok (.lastore, 1) := by decide +kernel
theorem d_Rf_leaveBehind_64 : decode b_Rf_leaveBehind 64 = .ok (.iinc 5 1, 3) := by decide +kernel
theorem d_Rf_leaveBehind_67 : decode b_Rf_leaveBehind 67 = .ok (.goto (-27), 3) := by decide +kernel
theorem d_Rf_leaveBehind_70 : decode b_Rf_leaveBehind 70 = .ok (.return_, 1) := by decide +kernel
theorem d_Rf_adoptTaken_0 : decode b_Rf_adoptTaken 0 = .ok (.iconst 0, 1) := by decide +kernel
theorem d_Rf_adoptTaken_1 : decode b_Rf_adoptTaken 1 = .ok (.istore_n 1, 1) := by decide +kernel
theorem d_Rf_adoptTaken_2 : decode b_Rf_adoptTaken 2 = .ok (.iload_n 1, 1) := by decide +kernel
theorem d_Rf_adoptTaken_3 : decode b_Rf_adoptTaken 3 = .ok (.aload_n 0, 1) := by decide +kernel
theorem d_Rf_adoptTaken_4 : decode b_Rf_adoptTaken 4 = .ok (.invokevirtual 83, 3) := by decide +kernel
theorem d_Rf_adoptTaken_7 : decode b_Rf_adoptTaken 7 = .ok (.if_icmp .ge 97, 3) := by decide +kernel
theorem d_Rf_adoptTaken_10 : decode b_Rf_adoptTaken 10 = .ok (.aload_n 0, 1) := by decide +kernel
theorem d_Rf_adoptTaken_11 : decode b_Rf_adoptTaken 11 = .ok (.getfield 23, 3) := by decide +kernel
theorem d_Rf_adoptTaken_14 : decode b_Rf_adoptTaken 14 = .ok (.aload_n 0, 1) := by decide +kernel
theorem d_Rf_adoptTaken_15 : decode b_Rf_adoptTaken 15 = .ok (.getfield 38, 3) := by decide +kernel
theorem d_Rf_adoptTaken_18 : decode b_Rf_adoptTaken 18 = .ok (.iload_n 1, 1) := by decide +kernel
theorem d_Rf_adoptTaken_19 : decode b_Rf_adoptTaken 19 = .ok (.aaload, 1) := by decide +kernel
theorem d_Rf_adoptTaken_20 : decode b_Rf_adoptTaken 20 = .ok (.invokevirtual 108, 3) := by decide +kernel
theorem d_Rf_adoptTaken_23 : decode b_Rf_adoptTaken 23 = .ok (.lstore_n 2, 1) := by decide +kernel
theorem d_Rf_adoptTaken_24 : decode b_Rf_adoptTaken 24 = .ok (.iconst 0, 1) := by decide +kernel
theorem d_Rf_adoptTaken_25 : decode b_Rf_adoptTaken 25 = .ok (.istore 4, 2) := by decide +kernel
theorem d_Rf_adoptTaken_27 : decode b_Rf_adoptTaken 27 = .ok (.iload 4, 2) := by decide +kernel
theorem d_Rf_adoptTaken_29 : decode b_Rf_adoptTaken 29 = .ok (.bipush 64, 2) := by decide +kernel
theorem d_Rf_adoptTaken_31 : decode b_Rf_adoptTaken 31 = .ok (.if_icmp .ge 67, 3) := by decide +kernel
theorem d_Rf_adoptTaken_34 : decode b_Rf_adoptTaken 34 = .ok (.lload_n 2, 1) := by decide +kernel
theorem d_Rf_adoptTaken_35 : decode b_Rf_adoptTaken 35 = .ok (.lconst 0, 1) := by decide +kernel
theorem d_Rf_adoptTaken_36 : decode b_Rf_adoptTaken 36 = .ok (.lcmp, 1) := by decide +kernel
theorem d_Rf_adoptTaken_37 : decode b_Rf_adoptTaken 37 = .ok (.ifCond .eq 61, 3) := by decide +kernel
theorem d_Rf_adoptTaken_40 : decode b_Rf_adoptTaken 40 = .ok (.lload_n 2, 1) := by decide +kernel
theorem d_Rf_adoptTaken_41 : decode b_Rf_adoptTaken 41 = .ok (.iload 4, 2) := by decide +kernel
theorem d_Rf_adoptTaken_43 : decode b_Rf_adoptTaken 43 = .ok (.lushr, 1) := by decide +kernel
theorem d_Rf_adoptTaken_44 : decode b_Rf_adoptTaken 44 = .ok (.lconst 1, 1) := by decide +kernel
theorem d_Rf_adoptTaken_45 : decode b_Rf_adoptTaken 45 = .ok (.land, 1) := by decide +kernel
theorem d_Rf_adoptTaken_46 : decode b_Rf_adoptTaken 46 = .ok (.lconst 0, 1) := by decide +kernel
theorem d_Rf_adoptTaken_47 : decode b_Rf_adoptTaken 47 = .ok (.lcmp, 1) := by decide +kernel
theorem d_Rf_adoptTaken_48 : decode b_Rf_adoptTaken 48 = .ok (.ifCond .ne 6, 3) := by decide +kernel
theorem d_Rf_adoptTaken_51 : decode b_Rf_adoptTaken 51 = .ok (.goto 41, 3) := by decide +kernel
theorem d_Rf_adoptTaken_54 : decode b_Rf_adoptTaken 54 = .ok (.aload_n 0, 1) := by decide +kernel
theorem d_Rf_adoptTaken_55 : decode b_Rf_adoptTaken 55 = .ok (.getfield 23, 3) := by decide +kernel
theorem d_Rf_adoptTaken_58 : decode b_Rf_adoptTaken 58 = .ok (.invokevirtual 112, 3) := by decide +kernel
theorem d_Rf_adoptTaken_61 : decode b_Rf_adoptTaken 61 = .ok (.ifCond .eq 5, 3) := by decide +kernel
theorem d_Rf_adoptTaken_64 : decode b_Rf_adoptTaken 64 = .ok (.iconst 0, 1) := by decide +kernel
theorem d_Rf_adoptTaken_65 : decode b_Rf_adoptTaken 65 = .ok (.ireturn, 1) := by decide +kernel
theorem d_Rf_adoptTaken_66 : decode b_Rf_adoptTaken 66 = .ok (.aload_n 0, 1) := by decide +kernel
theorem d_Rf_adoptTaken_67 : decode b_Rf_adoptTaken 67 = .ok (.aload_n 0, 1) := by decide +kernel
theorem d_Rf_adoptTaken_68 : decode b_Rf_adoptTaken 68 = .ok (.getfield 38, 3) := by decide +kernel
theorem d_Rf_adoptTaken_71 : decode b_Rf_adoptTaken 71 = .ok (.iload_n 1, 1) := by decide +kernel
theorem d_Rf_adoptTaken_72 : decode b_Rf_adoptTaken 72 = .ok (.aaload, 1) := by decide +kernel
theorem d_Rf_adoptTaken_73 : decode b_Rf_adoptTaken 73 = .ok (.iload 4, 2) := by decide +kernel
theorem d_Rf_adoptTaken_75 : decode b_Rf_adoptTaken 75 = .ok (.invokevirtual 115, 3) := by decide +kernel
theorem d_Rf_adoptTaken_78 : decode b_Rf_adoptTaken 78 = .ok (.aload_n 0, 1) := by decide +kernel
theorem d_Rf_adoptTaken_79 : decode b_Rf_adoptTaken 79 = .ok (.getfield 23, 3) := by decide +kernel
theorem d_Rf_adoptTaken_82 : decode b_Rf_adoptTaken 82 = .ok (.aload_n 0, 1) := by decide +kernel
theorem d_Rf_adoptTaken_83 : decode b_Rf_adoptTaken 83 = .ok (.getfield 38, 3) := by decide +kernel
theorem d_Rf_adoptTaken_86 : decode b_Rf_adoptTaken 86 = .ok (.iload_n 1, 1) := by decide +kernel
theorem d_Rf_adoptTaken_87 : decode b_Rf_adoptTaken 87 = .ok (.aaload, 1) := by decide +kernel
theorem d_Rf_adoptTaken_88 : decode b_Rf_adoptTaken 88 = .ok (.invokevirtual 108, 3) := by decide +kernel
theorem d_Rf_adoptTaken_91 : decode b_Rf_adoptTaken 91 = .ok (.lstore_n 2, 1) := by decide +kernel
theorem d_Rf_adoptTaken_92 : decode b_Rf_adoptTaken 92 = .ok (.iinc 4 1, 3) := by decide +kernel
theorem d_Rf_adoptTaken_95 : decode b_Rf_adoptTaken 95 = .ok (.goto (-68), 3) := by decide +kernel
theorem d_Rf_adoptTaken_98 : decode b_Rf_adoptTaken 98 = .ok (.iinc 1 1, 3) := by decide +kernel
theorem d_Rf_adoptTaken_101 : decode b_Rf_adoptTaken 101 = .ok (.goto (-99), 3) := by decide +kernel
theorem d_Rf_adoptTaken_104 : decode b_Rf_adoptTaken 104 = .ok (.iconst 1, 1) := by decide +kernel
theorem d_Rf_adoptTaken_105 : decode b_Rf_adoptTaken 105 = .ok (.ireturn, 1) := by decide +kernel
theorem d_Gr_splitting_0 : decode b_Gr_splitting 0 = .ok (.lconst 0, 1) := by decide +kernel
theorem d_Gr_splitting_1 : decode b_Gr_splitting 1 = .ok (.lstore_n 2, 1) := by decide +kernel
theorem d_Gr_splitting_2 : decode b_Gr_splitting 2 = .ok (.iconst 0, 1) := by decide +kernel
theorem d_Gr_splitting_3 : decode b_Gr_splitting 3 = .ok (.istore 4, 2) := by decide +kernel
theorem d_Gr_splitting_5 : decode b_Gr_splitting 5 = .ok (.iload 4, 2) := by decide +kernel
theorem d_Gr_splitting_7 : decode b_Gr_splitting 7 = .ok (.aload_n 0, 1) := by decide +kernel
theorem d_Gr_splitting_8 : decode b_Gr_splitting 8 = .ok (.getfield 22, 3) := by decide +kernel
theorem d_Gr_splitting_11 : decode b_Gr_splitting 11 = .ok (.getfield 26, 3) := by decide +kernel
theorem d_Gr_splitting_14 : decode b_Gr_splitting 14 = .ok (.if_icmp .ge 36, 3) := by decide +kernel
theorem d_Gr_splitting_17 : decode b_Gr_splitting 17 = .ok (.lload_n 2, 1) := by decide +kernel
theorem d_Gr_splitting_18 : decode b_Gr_splitting 18 = .ok (.aload_n 1, 1) := by decide +kernel
theorem d_Gr_splitting_19 : decode b_Gr_splitting 19 = .ok (.iload 4, 2) := by decide +kernel
theorem d_Gr_splitting_21 : decode b_Gr_splitting 21 = .ok (.laload, 1) := by decide +kernel
theorem d_Gr_splitting_22 : decode b_Gr_splitting 22 = .ok (.aload_n 1, 1) := by decide +kernel
theorem d_Gr_splitting_23 : decode b_Gr_splitting 23 = .ok (.aload_n 0, 1) := by decide +kernel
theorem d_Gr_splitting_24 : decode b_Gr_splitting 24 = .ok (.getfield 37, 3) := by decide +kernel
theorem d_Gr_splitting_27 : decode b_Gr_splitting 27 = .ok (.aload_n 0, 1) := by decide +kernel
theorem d_Gr_splitting_28 : decode b_Gr_splitting 28 = .ok (.getfield 40, 3) := by decide +kernel
theorem d_Gr_splitting_31 : decode b_Gr_splitting 31 = .ok (.aload_n 0, 1) := by decide +kernel
theorem d_Gr_splitting_32 : decode b_Gr_splitting 32 = .ok (.getfield 34, 3) := by decide +kernel
theorem d_Gr_splitting_35 : decode b_Gr_splitting 35 = .ok (.iload 4, 2) := by decide +kernel
theorem d_Gr_splitting_37 : decode b_Gr_splitting 37 = .ok (.iaload, 1) := by decide +kernel
theorem d_Gr_splitting_38 : decode b_Gr_splitting 38 = .ok (.iaload, 1) := by decide +kernel
theorem d_Gr_splitting_39 : decode b_Gr_splitting 39 = .ok (.iaload, 1) := by decide +kernel
theorem d_Gr_splitting_40 : decode b_Gr_splitting 40 = .ok (.laload, 1) := by decide +kernel
theorem d_Gr_splitting_41 : decode b_Gr_splitting 41 = .ok (.lxor, 1) := by decide +kernel
theorem d_Gr_splitting_42 : decode b_Gr_splitting 42 = .ok (.lor, 1) := by decide +kernel
theorem d_Gr_splitting_43 : decode b_Gr_splitting 43 = .ok (.lstore_n 2, 1) := by decide +kernel
theorem d_Gr_splitting_44 : decode b_Gr_splitting 44 = .ok (.iinc 4 1, 3) := by decide +kernel
theorem d_Gr_splitting_47 : decode b_Gr_splitting 47 = .ok (.goto (-42), 3) := by decide +kernel
theorem d_Gr_splitting_50 : decode b_Gr_splitting 50 = .ok (.lload_n 2, 1) := by decide +kernel
theorem d_Gr_splitting_51 : decode b_Gr_splitting 51 = .ok (.lreturn, 1) := by decide +kernel
theorem d_Rf_adopt_0 : decode b_Rf_adopt 0 = .ok (.iconst 0, 1) := by decide +kernel
theorem d_Rf_adopt_1 : decode b_Rf_adopt 1 = .ok (.istore_n 3, 1) := by decide +kernel
theorem d_Rf_adopt_2 : decode b_Rf_adopt 2 = .ok (.iload_n 3, 1) := by decide +kernel
theorem d_Rf_adopt_3 : decode b_Rf_adopt 3 = .ok (.aload_n 0, 1) := by decide +kernel
theorem d_Rf_adopt_4 : decode b_Rf_adopt 4 = .ok (.getfield 15, 3) := by decide +kernel
theorem d_Rf_adopt_7 : decode b_Rf_adopt 7 = .ok (.getfield 31, 3) := by decide +kernel
theorem d_Rf_adopt_10 : decode b_Rf_adopt 10 = .ok (.if_icmp .ge 29, 3) := by decide +kernel
theorem d_Rf_adopt_13 : decode b_Rf_adopt 13 = .ok (.aload_n 1, 1) := by decide +kernel
theorem d_Rf_adopt_14 : decode b_Rf_adopt 14 = .ok (.iload_n 3, 1) := by decide +kernel
theorem d_Rf_adopt_15 : decode b_Rf_adopt 15 = .ok (.laload, 1) := by decide +kernel
theorem d_Rf_adopt_16 : decode b_Rf_adopt 16 = .ok (.iload_n 2, 1) := by decide +kernel
theorem d_Rf_adopt_17 : decode b_Rf_adopt 17 = .ok (.lushr, 1) := by decide +kernel
theorem d_Rf_adopt_18 : decode b_Rf_adopt 18 = .ok (.lconst 1, 1) := by decide +kernel
theorem d_Rf_adopt_19 : decode b_Rf_adopt 19 = .ok (.land, 1) := by decide +kernel
theorem d_Rf_adopt_20 : decode b_Rf_adopt 20 = .ok (.lconst 0, 1) := by decide +kernel
theorem d_Rf_adopt_21 : decode b_Rf_adopt 21 = .ok (.lcmp, 1) := by decide +kernel
theorem d_Rf_adopt_22 : decode b_Rf_adopt 22 = .ok (.ifCond .eq 11, 3) := by decide +kernel
theorem d_Rf_adopt_25 : decode b_Rf_adopt 25 = .ok (.aload_n 0, 1) := by decide +kernel
theorem d_Rf_adopt_26 : decode b_Rf_adopt 26 = .ok (.getfield 23, 3) := by decide +kernel
theorem d_Rf_adopt_29 : decode b_Rf_adopt 29 = .ok (.iload_n 3, 1) := by decide +kernel
theorem d_Rf_adopt_30 : decode b_Rf_adopt 30 = .ok (.invokevirtual 119, 3) := by decide +kernel
theorem d_Rf_adopt_33 : decode b_Rf_adopt 33 = .ok (.iinc 3 1, 3) := by decide +kernel
theorem d_Rf_adopt_36 : decode b_Rf_adopt 36 = .ok (.goto (-34), 3) := by decide +kernel
theorem d_Rf_adopt_39 : decode b_Rf_adopt 39 = .ok (.aload_n 0, 1) := by decide +kernel
theorem d_Rf_adopt_40 : decode b_Rf_adopt 40 = .ok (.getfield 23, 3) := by decide +kernel
theorem d_Rf_adopt_43 : decode b_Rf_adopt 43 = .ok (.invokevirtual 122, 3) := by decide +kernel
theorem d_Rf_adopt_46 : decode b_Rf_adopt 46 = .ok (.return_, 1) := by decide +kernel
theorem d_Rf_adoptVariableBit_0 : decode b_Rf_adoptVariableBit 0 = .ok (.iconst 0, 1) := by decide +kernel
theorem d_Rf_adoptVariableBit_1 : decode b_Rf_adoptVariableBit 1 = .ok (.istore_n 1, 1) := by decide +kernel
theorem d_Rf_adoptVariableBit_2 : decode b_Rf_adoptVariableBit 2 = .ok (.iload_n 1, 1) := by decide +kernel
theorem d_Rf_adoptVariableBit_3 : decode b_Rf_adoptVariableBit 3 = .ok (.aload_n 0, 1) := by decide +kernel
theorem d_Rf_adoptVariableBit_4 : decode b_Rf_adoptVariableBit 4 = .ok (.getfield 15, 3) := by decide +kernel
theorem d_Rf_adoptVariableBit_7 : decode b_Rf_adoptVariableBit 7 = .ok (.getfield 31, 3) := by decide +kernel
theorem d_Rf_adoptVariableBit_10 : decode b_Rf_adoptVariableBit 10 = .ok (.if_icmp .ge 17, 3) := by decide +kernel
theorem d_Rf_adoptVariableBit_13 : decode b_Rf_adoptVariableBit 13 = .ok (.aload_n 0, 1) := by decide +kernel
theorem d_Rf_adoptVariableBit_14 : decode b_Rf_adoptVariableBit 14 = .ok (.getfield 41, 3) := by decide +kernel
theorem d_Rf_adoptVariableBit_17 : decode b_Rf_adoptVariableBit 17 = .ok (.iload_n 1, 1) := by decide +kernel
theorem d_Rf_adoptVariableBit_18 : decode b_Rf_adoptVariableBit 18 = .ok (.iload_n 1, 1) := by decide +kernel
theorem d_Rf_adoptVariableBit_19 : decode b_Rf_adoptVariableBit 19 = .ok (.i2l, 1) := by decide +kernel
theorem d_Rf_adoptVariableBit_20 : decode b_Rf_adoptVariableBit 20 = .ok (.lastore, 1) := by decide +kernel
theorem d_Rf_adoptVariableBit_21 : decode b_Rf_adoptVariableBit 21 = .ok (.iinc 1 1, 3) := by decide +kernel
theorem d_Rf_adoptVariableBit_24 : decode b_Rf_adoptVariableBit 24 = .ok (.goto (-22), 3) := by decide +kernel
theorem d_Rf_adoptVariableBit_27 : decode b_Rf_adoptVariableBit 27 = .ok (.aload_n 0, 1) := by decide +kernel
theorem d_Rf_adoptVariableBit_28 : decode b_Rf_adoptVariableBit 28 = .ok (.getfield 23, 3) := by decide +kernel
theorem d_Rf_adoptVariableBit_31 : decode b_Rf_adoptVariableBit 31 = .ok (.aload_n 0, 1) := by decide +kernel
theorem d_Rf_adoptVariableBit_32 : decode b_Rf_adoptVariableBit 32 = .ok (.getfield 41, 3) := by decide +kernel
theorem d_Rf_adoptVariableBit_35 : decode b_Rf_adoptVariableBit 35 = .ok (.invokevirtual 108, 3) := by decide +kernel
theorem d_Rf_adoptVariableBit_38 : decode b_Rf_adoptVariableBit 38 = .ok (.lstore_n 1, 1) := by decide +kernel
theorem d_Rf_adoptVariableBit_39 : decode b_Rf_adoptVariableBit 39 = .ok (.iconst 0, 1) := by decide +kernel
theorem d_Rf_adoptVariableBit_40 : decode b_Rf_adoptVariableBit 40 = .ok (.istore_n 3, 1) := by decide +kernel
theorem d_Rf_adoptVariableBit_41 : decode b_Rf_adoptVariableBit 41 = .ok (.iload_n 3, 1) := by decide +kernel
theorem d_Rf_adoptVariableBit_42 : decode b_Rf_adoptVariableBit 42 = .ok (.iconst 3, 1) := by decide +kernel
theorem d_Rf_adoptVariableBit_43 : decode b_Rf_adoptVariableBit 43 = .ok (.aload_n 0, 1) := by decide +kernel
theorem d_Rf_adoptVariableBit_44 : decode b_Rf_adoptVariableBit 44 = .ok (.getfield 15, 3) := by decide +kernel
theorem d_Rf_adoptVariableBit_47 : decode b_Rf_adoptVariableBit 47 = .ok (.getfield 125, 3) := by decide +kernel
theorem d_Rf_adoptVariableBit_50 : decode b_Rf_adoptVariableBit 50 = .ok (.imul, 1) := by decide +kernel
theorem d_Rf_adoptVariableBit_51 : decode b_Rf_adoptVariableBit 51 = .ok (.if_icmp .ge 42, 3) := by decide +kernel
theorem d_Rf_adoptVariableBit_54 : decode b_Rf_adoptVariableBit 54 = .ok (.lload_n 1, 1) := by decide +kernel
theorem d_Rf_adoptVariableBit_55 : decode b_Rf_adoptVariableBit 55 = .ok (.iload_n 3, 1) := by decide +kernel
theorem d_Rf_adoptVariableBit_56 : decode b_Rf_adoptVariableBit 56 = .ok (.lushr, 1) := by decide +kernel
theorem d_Rf_adoptVariableBit_57 : decode b_Rf_adoptVariableBit 57 = .ok (.lconst 1, 1) := by decide +kernel
theorem d_Rf_adoptVariableBit_58 : decode b_Rf_adoptVariableBit 58 = .ok (.land, 1) := by decide +kernel
theorem d_Rf_adoptVariableBit_59 : decode b_Rf_adoptVariableBit 59 = .ok (.lconst 0, 1) := by decide +kernel
theorem d_Rf_adoptVariableBit_60 : decode b_Rf_adoptVariableBit 60 = .ok (.lcmp, 1) := by decide +kernel
theorem d_Rf_adoptVariableBit_61 : decode b_Rf_adoptVariableBit 61 = .ok (.ifCond .eq 26, 3) := by decide +kernel
theorem d_Rf_adoptVariableBit_64 : decode b_Rf_adoptVariableBit 64 = .ok (.aload_n 0, 1) := by decide +kernel
theorem d_Rf_adoptVariableBit_65 : decode b_Rf_adoptVariableBit 65 = .ok (.getfield 23, 3) := by decide +kernel
theorem d_Rf_adoptVariableBit_68 : decode b_Rf_adoptVariableBit 68 = .ok (.invokevirtual 112, 3) := by decide +kernel
theorem d_Rf_adoptVariableBit_71 : decode b_Rf_adoptVariableBit 71 = .ok (.ifCond .eq 5, 3) := by decide +kernel
theorem d_Rf_adoptVariableBit_74 : decode b_Rf_adoptVariableBit 74 = .ok (.iconst 0, 1) := by decide +kernel
theorem d_Rf_adoptVariableBit_75 : decode b_Rf_adoptVariableBit 75 = .ok (.ireturn, 1) := by decide +kernel
theorem d_Rf_adoptVariableBit_76 : decode b_Rf_adoptVariableBit 76 = .ok (.aload_n 0, 1) := by decide +kernel
theorem d_Rf_adoptVariableBit_77 : decode b_Rf_adoptVariableBit 77 = .ok (.aload_n 0, 1) := by decide +kernel
theorem d_Rf_adoptVariableBit_78 : decode b_Rf_adoptVariableBit 78 = .ok (.getfield 41, 3) := by decide +kernel
theorem d_Rf_adoptVariableBit_81 : decode b_Rf_adoptVariableBit 81 = .ok (.iload_n 3, 1) := by decide +kernel
theorem d_Rf_adoptVariableBit_82 : decode b_Rf_adoptVariableBit 82 = .ok (.invokevirtual 115, 3) := by decide +kernel
theorem d_Rf_adoptVariableBit_85 : decode b_Rf_adoptVariableBit 85 = .ok (.iconst 1, 1) := by decide +kernel
theorem d_Rf_adoptVariableBit_86 : decode b_Rf_adoptVariableBit 86 = .ok (.ireturn, 1) := by decide +kernel
theorem d_Rf_adoptVariableBit_87 : decode b_Rf_adoptVariableBit 87 = .ok (.iinc 3 1, 3) := by decide +kernel
theorem d_Rf_adoptVariableBit_90 : decode b_Rf_adoptVariableBit 90 = .ok (.goto (-49), 3) := by decide +kernel
theorem d_Rf_adoptVariableBit_93 : decode b_Rf_adoptVariableBit 93 = .ok (.iconst 1, 1) := by decide +kernel
theorem d_Rf_adoptVariableBit_94 : decode b_Rf_adoptVariableBit 94 = .ok (.ireturn, 1) := by decide +kernel
theorem d_Lw_holds_0 : decode b_Lw_holds 0 = .ok (.aload_n 3, 1) := by decide +kernel
theorem d_Lw_holds_1 : decode b_Lw_holds 1 = .ok (.iconst 0, 1) := by decide +kernel
theorem d_Lw_holds_2 : decode b_Lw_holds 2 = .ok (.aload_n 0, 1) := by decide +kernel
theorem d_Lw_holds_3 : decode b_Lw_holds 3 = .ok (.iload_n 1, 1) := by decide +kernel
theorem d_Lw_holds_4 : decode b_Lw_holds 4 = .ok (.iload_n 2, 1) := by decide +kernel
theorem d_Lw_holds_5 : decode b_Lw_holds 5 = .ok (.invokevirtual 24, 3) := by decide +kernel
theorem d_Lw_holds_8 : decode b_Lw_holds 8 = .ok (.ifCond .eq 7, 3) := by decide +kernel
theorem d_Lw_holds_11 : decode b_Lw_holds 11 = .ok (.lconst 1, 1) := by decide +kernel
theorem d_Lw_holds_12 : decode b_Lw_holds 12 = .ok (.goto 4, 3) := by decide +kernel
theorem d_Lw_holds_15 : decode b_Lw_holds 15 = .ok (.lconst 0, 1) := by decide +kernel
theorem d_Lw_holds_16 : decode b_Lw_holds 16 = .ok (.lastore, 1) := by decide +kernel
theorem d_Lw_holds_17 : decode b_Lw_holds 17 = .ok (.goto 7, 3) := by decide +kernel
theorem d_Lw_holds_20 : decode b_Lw_holds 20 = .ok (.astore 4, 2) := by decide +kernel
theorem d_Lw_holds_22 : decode b_Lw_holds 22 = .ok (.iconst 1, 1) := by decide +kernel
theorem d_Lw_holds_23 : decode b_Lw_holds 23 = .ok (.ireturn, 1) := by decide +kernel
theorem d_Lw_holds_24 : decode b_Lw_holds 24 = .ok (.iconst 0, 1) := by decide +kernel
theorem d_Lw_holds_25 : decode b_Lw_holds 25 = .ok (.ireturn, 1) := by decide +kernel
theorem d_PP_holds_0 : decode b_PP_holds 0 = .ok (.iload_n 1, 1) := by decide +kernel
theorem d_PP_holds_1 : decode b_PP_holds 1 = .ok (.ifCond .lt 25, 3) := by decide +kernel
theorem d_PP_holds_4 : decode b_PP_holds 4 = .ok (.iload_n 1, 1) := by decide +kernel
theorem d_PP_holds_5 : decode b_PP_holds 5 = .ok (.aload_n 0, 1) := by decide +kernel
theorem d_PP_holds_6 : decode b_PP_holds 6 = .ok (.getfield 58, 3) := by decide +kernel
theorem d_PP_holds_9 : decode b_PP_holds 9 = .ok (.getfield 131, 3) := by decide +kernel
theorem d_PP_holds_12 : decode b_PP_holds 12 = .ok (.if_icmp .ge 14, 3) := by decide +kernel
theorem d_PP_holds_15 : decode b_PP_holds 15 = .ok (.aload_n 0, 1) := by decide +kernel
theorem d_PP_holds_16 : decode b_PP_holds 16 = .ok (.getfield 31, 3) := by decide +kernel
theorem d_PP_holds_19 : decode b_PP_holds 19 = .ok (.iload_n 2, 1) := by decide +kernel
theorem d_PP_holds_20 : decode b_PP_holds 20 = .ok (.invokevirtual 156, 3) := by decide +kernel
theorem d_PP_holds_23 : decode b_PP_holds 23 = .ok (.ifCond .ne 13, 3) := by decide +kernel
theorem d_PP_holds_26 : decode b_PP_holds 26 = .ok (.new 159, 3) := by decide +kernel
theorem d_PP_holds_29 : decode b_PP_holds 29 = .ok (.dup, 1) := by decide +kernel
theorem d_PP_holds_30 : decode b_PP_holds 30 = .ok (.ldc 161, 2) := by decide +kernel
theorem d_PP_holds_32 : decode b_PP_holds 32 = .ok (.invokespecial 163, 3) := by decide +kernel
theorem d_PP_holds_35 : decode b_PP_holds 35 = .ok (.athrow, 1) := by decide +kernel
theorem d_PP_holds_36 : decode b_PP_holds 36 = .ok (.aload_n 0, 1) := by decide +kernel
theorem d_PP_holds_37 : decode b_PP_holds 37 = .ok (.getfield 58, 3) := by decide +kernel
theorem d_PP_holds_40 : decode b_PP_holds 40 = .ok (.getfield 164, 3) := by decide +kernel
theorem d_PP_holds_43 : decode b_PP_holds 43 = .ok (.iload_n 2, 1) := by decide +kernel
theorem d_PP_holds_44 : decode b_PP_holds 44 = .ok (.iaload, 1) := by decide +kernel
theorem d_PP_holds_45 : decode b_PP_holds 45 = .ok (.iload_n 1, 1) := by decide +kernel
theorem d_PP_holds_46 : decode b_PP_holds 46 = .ok (.ishr, 1) := by decide +kernel
theorem d_PP_holds_47 : decode b_PP_holds 47 = .ok (.iconst 1, 1) := by decide +kernel
theorem d_PP_holds_48 : decode b_PP_holds 48 = .ok (.iand, 1) := by decide +kernel
theorem d_PP_holds_49 : decode b_PP_holds 49 = .ok (.ifCond .eq 7, 3) := by decide +kernel
theorem d_PP_holds_52 : decode b_PP_holds 52 = .ok (.iconst 1, 1) := by decide +kernel
theorem d_PP_holds_53 : decode b_PP_holds 53 = .ok (.goto 4, 3) := by decide +kernel
theorem d_PP_holds_56 : decode b_PP_holds 56 = .ok (.iconst 0, 1) := by decide +kernel
theorem d_PP_holds_57 : decode b_PP_holds 57 = .ok (.ireturn, 1) := by decide +kernel
theorem d_Sp_contains_0 : decode b_Sp_contains 0 = .ok (.iload_n 1, 1) := by decide +kernel
theorem d_Sp_contains_1 : decode b_Sp_contains 1 = .ok (.ifCond .lt 15, 3) := by decide +kernel
theorem d_Sp_contains_4 : decode b_Sp_contains 4 = .ok (.iload_n 1, 1) := by decide +kernel
theorem d_Sp_contains_5 : decode b_Sp_contains 5 = .ok (.aload_n 0, 1) := by decide +kernel
theorem d_Sp_contains_6 : decode b_Sp_contains 6 = .ok (.getfield 18, 3) := by decide +kernel
theorem d_Sp_contains_9 : decode b_Sp_contains 9 = .ok (.if_icmp .ge 7, 3) := by decide +kernel
theorem d_Sp_contains_12 : decode b_Sp_contains 12 = .ok (.iconst 1, 1) := by decide +kernel
theorem d_Sp_contains_13 : decode b_Sp_contains 13 = .ok (.goto 4, 3) := by decide +kernel
theorem d_Sp_contains_16 : decode b_Sp_contains 16 = .ok (.iconst 0, 1) := by decide +kernel
theorem d_Sp_contains_17 : decode b_Sp_contains 17 = .ok (.ireturn, 1) := by decide +kernel
theorem d_Lw_signature_0 : decode b_Lw_signature 0 = .ok (.aload_n 2, 1) := by decide +kernel
theorem d_Lw_signature_1 : decode b_Lw_signature 1 = .ok (.iconst 0, 1) := by decide +kernel
theorem d_Lw_signature_2 : decode b_Lw_signature 2 = .ok (.aload_n 0, 1) := by decide +kernel
theorem d_Lw_signature_3 : decode b_Lw_signature 3 = .ok (.iload_n 1, 1) := by decide +kernel
theorem d_Lw_signature_4 : decode b_Lw_signature 4 = .ok (.invokevirtual 30, 3) := by decide +kernel
theorem d_Lw_signature_7 : decode b_Lw_signature 7 = .ok (.i2l, 1) := by decide +kernel
theorem d_Lw_signature_8 : decode b_Lw_signature 8 = .ok (.lastore, 1) := by decide +kernel
theorem d_Lw_signature_9 : decode b_Lw_signature 9 = .ok (.goto 6, 3) := by decide +kernel
theorem d_Lw_signature_12 : decode b_Lw_signature 12 = .ok (.astore_n 3, 1) := by decide +kernel
theorem d_Lw_signature_13 : decode b_Lw_signature 13 = .ok (.iconst 1, 1) := by decide +kernel
theorem d_Lw_signature_14 : decode b_Lw_signature 14 = .ok (.ireturn, 1) := by decide +kernel
theorem d_Lw_signature_15 : decode b_Lw_signature 15 = .ok (.iconst 0, 1) := by decide +kernel
theorem d_Lw_signature_16 : decode b_Lw_signature 16 = .ok (.ireturn, 1) := by decide +kernel
theorem d_PP_signature_0 : decode b_PP_signature 0 = .ok (.aload_n 0, 1) := by decide +kernel
theorem d_PP_signature_1 : decode b_PP_signature 1 = .ok (.getfield 31, 3) := by decide +kernel
theorem d_PP_signature_4 : decode b_PP_signature 4 = .ok (.iload_n 1, 1) := by decide +kernel
theorem d_PP_signature_5 : decode b_PP_signature 5 = .ok (.invokevirtual 156, 3) := by decide +kernel
theorem d_PP_signature_8 : decode b_PP_signature 8 = .ok (.ifCond .ne 13, 3) := by decide +kernel
theorem d_PP_signature_11 : decode b_PP_signature 11 = .ok (.new 159, 3) := by decide +kernel
theorem d_PP_signature_14 : decode b_PP_signature 14 = .ok (.dup, 1) := by decide +kernel
theorem d_PP_signature_15 : decode b_PP_signature 15 = .ok (.ldc 168, 2) := by decide +kernel
theorem d_PP_signature_17 : decode b_PP_signature 17 = .ok (.invokespecial 163, 3) := by decide +kernel
theorem d_PP_signature_20 : decode b_PP_signature 20 = .ok (.athrow, 1) := by decide +kernel
theorem d_PP_signature_21 : decode b_PP_signature 21 = .ok (.aload_n 0, 1) := by decide +kernel
theorem d_PP_signature_22 : decode b_PP_signature 22 = .ok (.getfield 58, 3) := by decide +kernel
theorem d_PP_signature_25 : decode b_PP_signature 25 = .ok (.getfield 164, 3) := by decide +kernel
theorem d_PP_signature_28 : decode b_PP_signature 28 = .ok (.iload_n 1, 1) := by decide +kernel
theorem d_PP_signature_29 : decode b_PP_signature 29 = .ok (.iaload, 1) := by decide +kernel
theorem d_PP_signature_30 : decode b_PP_signature 30 = .ok (.i2s, 1) := by decide +kernel
theorem d_PP_signature_31 : decode b_PP_signature 31 = .ok (.ireturn, 1) := by decide +kernel
theorem d_Lw_follow_0 : decode b_Lw_follow 0 = .ok (.aload 4, 2) := by decide +kernel
theorem d_Lw_follow_2 : decode b_Lw_follow 2 = .ok (.iconst 0, 1) := by decide +kernel
theorem d_Lw_follow_3 : decode b_Lw_follow 3 = .ok (.aload_n 0, 1) := by decide +kernel
theorem d_Lw_follow_4 : decode b_Lw_follow 4 = .ok (.iload_n 1, 1) := by decide +kernel
theorem d_Lw_follow_5 : decode b_Lw_follow 5 = .ok (.iload_n 2, 1) := by decide +kernel
theorem d_Lw_follow_6 : decode b_Lw_follow 6 = .ok (.iload_n 3, 1) := by decide +kernel
theorem d_Lw_follow_7 : decode b_Lw_follow 7 = .ok (.invokevirtual 34, 3) := by decide +kernel
theorem d_Lw_follow_10 : decode b_Lw_follow 10 = .ok (.i2l, 1) := by decide +kernel
theorem d_Lw_follow_11 : decode b_Lw_follow 11 = .ok (.lastore, 1) := by decide +kernel
theorem d_Lw_follow_12 : decode b_Lw_follow 12 = .ok (.goto 7, 3) := by decide +kernel
theorem d_Lw_follow_15 : decode b_Lw_follow 15 = .ok (.astore 5, 2) := by decide +kernel
theorem d_Lw_follow_17 : decode b_Lw_follow 17 = .ok (.iconst 1, 1) := by decide +kernel
theorem d_Lw_follow_18 : decode b_Lw_follow 18 = .ok (.ireturn, 1) := by decide +kernel
theorem d_Lw_follow_19 : decode b_Lw_follow 19 = .ok (.iconst 0, 1) := by decide +kernel
theorem d_Lw_follow_20 : decode b_Lw_follow 20 = .ok (.ireturn, 1) := by decide +kernel
theorem d_PP_follow_0 : decode b_PP_follow 0 = .ok (.iload_n 1, 1) := by decide +kernel
theorem d_PP_follow_1 : decode b_PP_follow 1 = .ok (.ifCond .lt 25, 3) := by decide +kernel
theorem d_PP_follow_4 : decode b_PP_follow 4 = .ok (.iload_n 1, 1) := by decide +kernel
theorem d_PP_follow_5 : decode b_PP_follow 5 = .ok (.aload_n 0, 1) := by decide +kernel
theorem d_PP_follow_6 : decode b_PP_follow 6 = .ok (.getfield 54, 3) := by decide +kernel
theorem d_PP_follow_9 : decode b_PP_follow 9 = .ok (.getfield 147, 3) := by decide +kernel
theorem d_PP_follow_12 : decode b_PP_follow 12 = .ok (.if_icmp .ge 14, 3) := by decide +kernel
theorem d_PP_follow_15 : decode b_PP_follow 15 = .ok (.aload_n 0, 1) := by decide +kernel
theorem d_PP_follow_16 : decode b_PP_follow 16 = .ok (.getfield 31, 3) := by decide +kernel
theorem d_PP_follow_19 : decode b_PP_follow 19 = .ok (.iload_n 2, 1) := by decide +kernel
theorem d_PP_follow_20 : decode b_PP_follow 20 = .ok (.invokevirtual 156, 3) := by decide +kernel
theorem d_PP_follow_23 : decode b_PP_follow 23 = .ok (.ifCond .ne 13, 3) := by decide +kernel
theorem d_PP_follow_26 : decode b_PP_follow 26 = .ok (.new 159, 3) := by decide +kernel
theorem d_PP_follow_29 : decode b_PP_follow 29 = .ok (.dup, 1) := by decide +kernel
theorem d_PP_follow_30 : decode b_PP_follow 30 = .ok (.ldc 170, 2) := by decide +kernel
theorem d_PP_follow_32 : decode b_PP_follow 32 = .ok (.invokespecial 163, 3) := by decide +kernel
theorem d_PP_follow_35 : decode b_PP_follow 35 = .ok (.athrow, 1) := by decide +kernel
theorem d_PP_follow_36 : decode b_PP_follow 36 = .ok (.aload_n 0, 1) := by decide +kernel
theorem d_PP_follow_37 : decode b_PP_follow 37 = .ok (.getfield 54, 3) := by decide +kernel
theorem d_PP_follow_40 : decode b_PP_follow 40 = .ok (.iload_n 1, 1) := by decide +kernel
theorem d_PP_follow_41 : decode b_PP_follow 41 = .ok (.iload_n 2, 1) := by decide +kernel
theorem d_PP_follow_42 : decode b_PP_follow 42 = .ok (.iload_n 3, 1) := by decide +kernel
theorem d_PP_follow_43 : decode b_PP_follow 43 = .ok (.invokevirtual 172, 3) := by decide +kernel
theorem d_PP_follow_46 : decode b_PP_follow 46 = .ok (.ireturn, 1) := by decide +kernel
theorem d_Lw_node_0 : decode b_Lw_node 0 = .ok (.aload_n 3, 1) := by decide +kernel
theorem d_Lw_node_1 : decode b_Lw_node 1 = .ok (.iconst 0, 1) := by decide +kernel
theorem d_Lw_node_2 : decode b_Lw_node 2 = .ok (.aload_n 0, 1) := by decide +kernel
theorem d_Lw_node_3 : decode b_Lw_node 3 = .ok (.iload_n 1, 1) := by decide +kernel
theorem d_Lw_node_4 : decode b_Lw_node 4 = .ok (.iload_n 2, 1) := by decide +kernel
theorem d_Lw_node_5 : decode b_Lw_node 5 = .ok (.invokevirtual 38, 3) := by decide +kernel
theorem d_Lw_node_8 : decode b_Lw_node 8 = .ok (.i2l, 1) := by decide +kernel
theorem d_Lw_node_9 : decode b_Lw_node 9 = .ok (.lastore, 1) := by decide +kernel
theorem d_Lw_node_10 : decode b_Lw_node 10 = .ok (.goto 11, 3) := by decide +kernel
theorem d_Lw_node_13 : decode b_Lw_node 13 = .ok (.astore 4, 2) := by decide +kernel
theorem d_Lw_node_15 : decode b_Lw_node 15 = .ok (.iconst 1, 1) := by decide +kernel
theorem d_Lw_node_16 : decode b_Lw_node 16 = .ok (.ireturn, 1) := by decide +kernel
theorem d_Lw_node_17 : decode b_Lw_node 17 = .ok (.astore 4, 2) := by decide +kernel
theorem d_Lw_node_19 : decode b_Lw_node 19 = .ok (.iconst 2, 1) := by decide +kernel
theorem d_Lw_node_20 : decode b_Lw_node 20 = .ok (.ireturn, 1) := by decide +kernel
theorem d_Lw_node_21 : decode b_Lw_node 21 = .ok (.iconst 0, 1) := by decide +kernel
theorem d_Lw_node_22 : decode b_Lw_node 22 = .ok (.ireturn, 1) := by decide +kernel
theorem d_PP_node_0 : decode b_PP_node 0 = .ok (.iload_n 1, 1) := by decide +kernel
theorem d_PP_node_1 : decode b_PP_node 1 = .ok (.ifCond .lt 14, 3) := by decide +kernel
theorem d_PP_node_4 : decode b_PP_node 4 = .ok (.iload_n 1, 1) := by decide +kernel
theorem d_PP_node_5 : decode b_PP_node 5 = .ok (.aload_n 0, 1) := by decide +kernel
theorem d_PP_node_6 : decode b_PP_node 6 = .ok (.getfield 62, 3) := by decide +kernel
theorem d_PP_node_9 : decode b_PP_node 9 = .ok (.getfield 176, 3) := by decide +kernel
theorem d_PP_node_12 : decode b_PP_node 12 = .ok (.if_icmp .lt 13, 3) := by decide +kernel
theorem d_PP_node_15 : decode b_PP_node 15 = .ok (.new 159, 3) := by decide +kernel
theorem d_PP_node_18 : decode b_PP_node 18 = .ok (.dup, 1) := by decide +kernel
theorem d_PP_node_19 : decode b_PP_node 19 = .ok (.ldc 177, 2) := by decide +kernel
theorem d_PP_node_21 : decode b_PP_node 21 = .ok (.invokespecial 163, 3) := by decide +kernel
theorem d_PP_node_24 : decode b_PP_node 24 = .ok (.athrow, 1) := by decide +kernel
theorem d_PP_node_25 : decode b_PP_node 25 = .ok (.iload_n 2, 1) := by decide +kernel
theorem d_PP_node_26 : decode b_PP_node 26 = .ok (.tableswitch 70 0 3 #[30, 40, 50, 60], 30) := by decide +kernel
theorem d_PP_node_56 : decode b_PP_node 56 = .ok (.aload_n 0, 1) := by decide +kernel
theorem d_PP_node_57 : decode b_PP_node 57 = .ok (.getfield 62, 3) := by decide +kernel
theorem d_PP_node_60 : decode b_PP_node 60 = .ok (.getfield 179, 3) := by decide +kernel
theorem d_PP_node_63 : decode b_PP_node 63 = .ok (.iload_n 1, 1) := by decide +kernel
theorem d_PP_node_64 : decode b_PP_node 64 = .ok (.iaload, 1) := by decide +kernel
theorem d_PP_node_65 : decode b_PP_node 65 = .ok (.ireturn, 1) := by decide +kernel
theorem d_PP_node_66 : decode b_PP_node 66 = .ok (.aload_n 0, 1) := by decide +kernel
theorem d_PP_node_67 : decode b_PP_node 67 = .ok (.getfield 62, 3) := by decide +kernel
theorem d_PP_node_70 : decode b_PP_node 70 = .ok (.getfield 182, 3) := by decide +kernel
theorem d_PP_node_73 : decode b_PP_node 73 = .ok (.iload_n 1, 1) := by decide +kernel
theorem d_PP_node_74 : decode b_PP_node 74 = .ok (.iaload, 1) := by decide +kernel
theorem d_PP_node_75 : decode b_PP_node 75 = .ok (.ireturn, 1) := by decide +kernel
theorem d_PP_node_76 : decode b_PP_node 76 = .ok (.aload_n 0, 1) := by decide +kernel
theorem d_PP_node_77 : decode b_PP_node 77 = .ok (.getfield 62, 3) := by decide +kernel
theorem d_PP_node_80 : decode b_PP_node 80 = .ok (.getfield 183, 3) := by decide +kernel
theorem d_PP_node_83 : decode b_PP_node 83 = .ok (.iload_n 1, 1) := by decide +kernel
theorem d_PP_node_84 : decode b_PP_node 84 = .ok (.iaload, 1) := by decide +kernel
theorem d_PP_node_85 : decode b_PP_node 85 = .ok (.ireturn, 1) := by decide +kernel
theorem d_PP_node_86 : decode b_PP_node 86 = .ok (.aload_n 0, 1) := by decide +kernel
theorem d_PP_node_87 : decode b_PP_node 87 = .ok (.getfield 62, 3) := by decide +kernel
theorem d_PP_node_90 : decode b_PP_node 90 = .ok (.getfield 186, 3) := by decide +kernel
theorem d_PP_node_93 : decode b_PP_node 93 = .ok (.iload_n 1, 1) := by decide +kernel
theorem d_PP_node_94 : decode b_PP_node 94 = .ok (.iaload, 1) := by decide +kernel
theorem d_PP_node_95 : decode b_PP_node 95 = .ok (.ireturn, 1) := by decide +kernel
theorem d_PP_node_96 : decode b_PP_node 96 = .ok (.new 99, 3) := by decide +kernel
theorem d_PP_node_99 : decode b_PP_node 99 = .ok (.dup, 1) := by decide +kernel
theorem d_PP_node_100 : decode b_PP_node 100 = .ok (.ldc 189, 2) := by decide +kernel
theorem d_PP_node_102 : decode b_PP_node 102 = .ok (.invokespecial 103, 3) := by decide +kernel
theorem d_PP_node_105 : decode b_PP_node 105 = .ok (.athrow, 1) := by decide +kernel
theorem d_Lw_path_0 : decode b_Lw_path 0 = .ok (.aload_n 2, 1) := by decide +kernel
theorem d_Lw_path_1 : decode b_Lw_path 1 = .ok (.iconst 0, 1) := by decide +kernel
theorem d_Lw_path_2 : decode b_Lw_path 2 = .ok (.aload_n 0, 1) := by decide +kernel
theorem d_Lw_path_3 : decode b_Lw_path 3 = .ok (.iload_n 1, 1) := by decide +kernel
theorem d_Lw_path_4 : decode b_Lw_path 4 = .ok (.invokevirtual 42, 3) := by decide +kernel
theorem d_Lw_path_7 : decode b_Lw_path 7 = .ok (.i2l, 1) := by decide +kernel
theorem d_Lw_path_8 : decode b_Lw_path 8 = .ok (.lastore, 1) := by decide +kernel
theorem d_Lw_path_9 : decode b_Lw_path 9 = .ok (.goto 6, 3) := by decide +kernel
theorem d_Lw_path_12 : decode b_Lw_path 12 = .ok (.astore_n 3, 1) := by decide +kernel
theorem d_Lw_path_13 : decode b_Lw_path 13 = .ok (.iconst 1, 1) := by decide +kernel
theorem d_Lw_path_14 : decode b_Lw_path 14 = .ok (.ireturn, 1) := by decide +kernel
theorem d_Lw_path_15 : decode b_Lw_path 15 = .ok (.iconst 0, 1) := by decide +kernel
theorem d_Lw_path_16 : decode b_Lw_path 16 = .ok (.ireturn, 1) := by decide +kernel
theorem d_PP_path_0 : decode b_PP_path 0 = .ok (.iload_n 1, 1) := by decide +kernel
theorem d_PP_path_1 : decode b_PP_path 1 = .ok (.ifCond .lt 14, 3) := by decide +kernel
theorem d_PP_path_4 : decode b_PP_path 4 = .ok (.iload_n 1, 1) := by decide +kernel
theorem d_PP_path_5 : decode b_PP_path 5 = .ok (.aload_n 0, 1) := by decide +kernel
theorem d_PP_path_6 : decode b_PP_path 6 = .ok (.getfield 62, 3) := by decide +kernel
theorem d_PP_path_9 : decode b_PP_path 9 = .ok (.getfield 191, 3) := by decide +kernel
theorem d_PP_path_12 : decode b_PP_path 12 = .ok (.if_icmp .lt 13, 3) := by decide +kernel
theorem d_PP_path_15 : decode b_PP_path 15 = .ok (.new 159, 3) := by decide +kernel
theorem d_PP_path_18 : decode b_PP_path 18 = .ok (.dup, 1) := by decide +kernel
theorem d_PP_path_19 : decode b_PP_path 19 = .ok (.ldc 194, 2) := by decide +kernel
theorem d_PP_path_21 : decode b_PP_path 21 = .ok (.invokespecial 163, 3) := by decide +kernel
theorem d_PP_path_24 : decode b_PP_path 24 = .ok (.athrow, 1) := by decide +kernel
theorem d_PP_path_25 : decode b_PP_path 25 = .ok (.aload_n 0, 1) := by decide +kernel
theorem d_PP_path_26 : decode b_PP_path 26 = .ok (.getfield 62, 3) := by decide +kernel
theorem d_PP_path_29 : decode b_PP_path 29 = .ok (.getfield 196, 3) := by decide +kernel
theorem d_PP_path_32 : decode b_PP_path 32 = .ok (.iload_n 1, 1) := by decide +kernel
theorem d_PP_path_33 : decode b_PP_path 33 = .ok (.iaload, 1) := by decide +kernel
theorem d_PP_path_34 : decode b_PP_path 34 = .ok (.ireturn, 1) := by decide +kernel
theorem d_Lw_input_0 : decode b_Lw_input 0 = .ok (.aload_n 2, 1) := by decide +kernel
theorem d_Lw_input_1 : decode b_Lw_input 1 = .ok (.iconst 0, 1) := by decide +kernel
theorem d_Lw_input_2 : decode b_Lw_input 2 = .ok (.aload_n 0, 1) := by decide +kernel
theorem d_Lw_input_3 : decode b_Lw_input 3 = .ok (.iload_n 1, 1) := by decide +kernel
theorem d_Lw_input_4 : decode b_Lw_input 4 = .ok (.invokevirtual 45, 3) := by decide +kernel
theorem d_Lw_input_7 : decode b_Lw_input 7 = .ok (.i2l, 1) := by decide +kernel
theorem d_Lw_input_8 : decode b_Lw_input 8 = .ok (.lastore, 1) := by decide +kernel
theorem d_Lw_input_9 : decode b_Lw_input 9 = .ok (.goto 6, 3) := by decide +kernel
theorem d_Lw_input_12 : decode b_Lw_input 12 = .ok (.astore_n 3, 1) := by decide +kernel
theorem d_Lw_input_13 : decode b_Lw_input 13 = .ok (.iconst 1, 1) := by decide +kernel
theorem d_Lw_input_14 : decode b_Lw_input 14 = .ok (.ireturn, 1) := by decide +kernel
theorem d_Lw_input_15 : decode b_Lw_input 15 = .ok (.iconst 0, 1) := by decide +kernel
theorem d_Lw_input_16 : decode b_Lw_input 16 = .ok (.ireturn, 1) := by decide +kernel
theorem d_PP_input_0 : decode b_PP_input 0 = .ok (.iload_n 1, 1) := by decide +kernel
theorem d_PP_input_1 : decode b_PP_input 1 = .ok (.ifCond .lt 14, 3) := by decide +kernel
theorem d_PP_input_4 : decode b_PP_input 4 = .ok (.iload_n 1, 1) := by decide +kernel
theorem d_PP_input_5 : decode b_PP_input 5 = .ok (.aload_n 0, 1) := by decide +kernel
theorem d_PP_input_6 : decode b_PP_input 6 = .ok (.getfield 71, 3) := by decide +kernel
theorem d_PP_input_9 : decode b_PP_input 9 = .ok (.getfield 199, 3) := by decide +kernel
theorem d_PP_input_12 : decode b_PP_input 12 = .ok (.if_icmp .lt 13, 3) := by decide +kernel
theorem d_PP_input_15 : decode b_PP_input 15 = .ok (.new 159, 3) := by decide +kernel
theorem d_PP_input_18 : decode b_PP_input 18 = .ok (.dup, 1) := by decide +kernel
theorem d_PP_input_19 : decode b_PP_input 19 = .ok (.ldc 202, 2) := by decide +kernel
theorem d_PP_input_21 : decode b_PP_input 21 = .ok (.invokespecial 163, 3) := by decide +kernel
theorem d_PP_input_24 : decode b_PP_input 24 = .ok (.athrow, 1) := by decide +kernel
theorem d_PP_input_25 : decode b_PP_input 25 = .ok (.aload_n 0, 1) := by decide +kernel
theorem d_PP_input_26 : decode b_PP_input 26 = .ok (.getfield 71, 3) := by decide +kernel
