theorem d_Pa_passPart_11 : decode b_Pa_passPart 11 = .ok (.istore_n 2, 1) := by decide +kernel
theorem d_Pa_passPart_12 : decode b_Pa_passPart 12 = .ok (.iload_n 2, 1) := by decide +kernel
theorem d_Pa_passPart_13 : decode b_Pa_passPart 13 = .ok (.invokestatic 33, 3) := by decide +kernel
theorem d_Pa_passPart_16 : decode b_Pa_passPart 16 = .ok (.ifCond .ne 10, 3) := by decide +kernel
theorem d_Pa_passPart_19 : decode b_Pa_passPart 19 = .ok (.iload_n 2, 1) := by decide +kernel
theorem d_Pa_passPart_20 : decode b_Pa_passPart 20 = .ok (.invokestatic 64, 3) := by decide +kernel
theorem d_Pa_passPart_23 : decode b_Pa_passPart 23 = .ok (.ifCond .eq 23, 3) := by decide +kernel
theorem d_Pa_passPart_26 : decode b_Pa_passPart 26 = .ok (.aload_n 0, 1) := by decide +kernel
theorem d_Pa_passPart_27 : decode b_Pa_passPart 27 = .ok (.getfield 19, 3) := by decide +kernel
theorem d_Pa_passPart_30 : decode b_Pa_passPart 30 = .ok (.iload_n 2, 1) := by decide +kernel
theorem d_Pa_passPart_31 : decode b_Pa_passPart 31 = .ok (.invokevirtual 54, 3) := by decide +kernel
theorem d_Pa_passPart_34 : decode b_Pa_passPart 34 = .ok (.aload_n 0, 1) := by decide +kernel
theorem d_Pa_passPart_35 : decode b_Pa_passPart 35 = .ok (.dup, 1) := by decide +kernel
theorem d_Pa_passPart_36 : decode b_Pa_passPart 36 = .ok (.getfield 9, 3) := by decide +kernel
theorem d_Pa_passPart_39 : decode b_Pa_passPart 39 = .ok (.iconst 1, 1) := by decide +kernel
theorem d_Pa_passPart_40 : decode b_Pa_passPart 40 = .ok (.iadd, 1) := by decide +kernel
theorem d_Pa_passPart_41 : decode b_Pa_passPart 41 = .ok (.putfield 9, 3) := by decide +kernel
theorem d_Pa_passPart_44 : decode b_Pa_passPart 44 = .ok (.iconst 1, 1) := by decide +kernel
theorem d_Pa_passPart_45 : decode b_Pa_passPart 45 = .ok (.ireturn, 1) := by decide +kernel
theorem d_Pa_passPart_46 : decode b_Pa_passPart 46 = .ok (.iload_n 2, 1) := by decide +kernel
theorem d_Pa_passPart_47 : decode b_Pa_passPart 47 = .ok (.bipush 40, 2) := by decide +kernel
theorem d_Pa_passPart_49 : decode b_Pa_passPart 49 = .ok (.if_icmp .ne 8, 3) := by decide +kernel
theorem d_Pa_passPart_52 : decode b_Pa_passPart 52 = .ok (.iload_n 1, 1) := by decide +kernel
theorem d_Pa_passPart_53 : decode b_Pa_passPart 53 = .ok (.iconst 4, 1) := by decide +kernel
theorem d_Pa_passPart_54 : decode b_Pa_passPart 54 = .ok (.if_icmp .lt 5, 3) := by decide +kernel
theorem d_Pa_passPart_57 : decode b_Pa_passPart 57 = .ok (.iconst 0, 1) := by decide +kernel
theorem d_Pa_passPart_58 : decode b_Pa_passPart 58 = .ok (.ireturn, 1) := by decide +kernel
theorem d_Pa_passPart_59 : decode b_Pa_passPart 59 = .ok (.aload_n 0, 1) := by decide +kernel
theorem d_Pa_passPart_60 : decode b_Pa_passPart 60 = .ok (.dup, 1) := by decide +kernel
theorem d_Pa_passPart_61 : decode b_Pa_passPart 61 = .ok (.getfield 9, 3) := by decide +kernel
theorem d_Pa_passPart_64 : decode b_Pa_passPart 64 = .ok (.iconst 1, 1) := by decide +kernel
theorem d_Pa_passPart_65 : decode b_Pa_passPart 65 = .ok (.iadd, 1) := by decide +kernel
theorem d_Pa_passPart_66 : decode b_Pa_passPart 66 = .ok (.putfield 9, 3) := by decide +kernel
theorem d_Pa_passPart_69 : decode b_Pa_passPart 69 = .ok (.aload_n 0, 1) := by decide +kernel
theorem d_Pa_passPart_70 : decode b_Pa_passPart 70 = .ok (.iload_n 1, 1) := by decide +kernel
theorem d_Pa_passPart_71 : decode b_Pa_passPart 71 = .ok (.iconst 1, 1) := by decide +kernel
theorem d_Pa_passPart_72 : decode b_Pa_passPart 72 = .ok (.iadd, 1) := by decide +kernel
theorem d_Pa_passPart_73 : decode b_Pa_passPart 73 = .ok (.invokevirtual 48, 3) := by decide +kernel
theorem d_Pa_passPart_76 : decode b_Pa_passPart 76 = .ok (.ifCond .eq 19, 3) := by decide +kernel
theorem d_Pa_passPart_79 : decode b_Pa_passPart 79 = .ok (.aload_n 0, 1) := by decide +kernel
theorem d_Pa_passPart_80 : decode b_Pa_passPart 80 = .ok (.getfield 15, 3) := by decide +kernel
theorem d_Pa_passPart_83 : decode b_Pa_passPart 83 = .ok (.aload_n 0, 1) := by decide +kernel
theorem d_Pa_passPart_84 : decode b_Pa_passPart 84 = .ok (.getfield 9, 3) := by decide +kernel
theorem d_Pa_passPart_87 : decode b_Pa_passPart 87 = .ok (.invokevirtual 23, 3) := by decide +kernel
theorem d_Pa_passPart_90 : decode b_Pa_passPart 90 = .ok (.bipush 41, 2) := by decide +kernel
theorem d_Pa_passPart_92 : decode b_Pa_passPart 92 = .ok (.if_icmp .eq 5, 3) := by decide +kernel
theorem d_Pa_passPart_95 : decode b_Pa_passPart 95 = .ok (.iconst 0, 1) := by decide +kernel
theorem d_Pa_passPart_96 : decode b_Pa_passPart 96 = .ok (.ireturn, 1) := by decide +kernel
theorem d_Pa_passPart_97 : decode b_Pa_passPart 97 = .ok (.aload_n 0, 1) := by decide +kernel
theorem d_Pa_passPart_98 : decode b_Pa_passPart 98 = .ok (.dup, 1) := by decide +kernel
theorem d_Pa_passPart_99 : decode b_Pa_passPart 99 = .ok (.getfield 9, 3) := by decide +kernel
theorem d_Pa_passPart_102 : decode b_Pa_passPart 102 = .ok (.iconst 1, 1) := by decide +kernel
theorem d_Pa_passPart_103 : decode b_Pa_passPart 103 = .ok (.iadd, 1) := by decide +kernel
theorem d_Pa_passPart_104 : decode b_Pa_passPart 104 = .ok (.putfield 9, 3) := by decide +kernel
theorem d_Pa_passPart_107 : decode b_Pa_passPart 107 = .ok (.iconst 1, 1) := by decide +kernel
theorem d_Pa_passPart_108 : decode b_Pa_passPart 108 = .ok (.ireturn, 1) := by decide +kernel
theorem d_Fo_isDigit_0 : decode b_Fo_isDigit 0 = .ok (.iload_n 0, 1) := by decide +kernel
theorem d_Fo_isDigit_1 : decode b_Fo_isDigit 1 = .ok (.bipush 48, 2) := by decide +kernel
theorem d_Fo_isDigit_3 : decode b_Fo_isDigit 3 = .ok (.if_icmp .lt 13, 3) := by decide +kernel
theorem d_Fo_isDigit_6 : decode b_Fo_isDigit 6 = .ok (.iload_n 0, 1) := by decide +kernel
theorem d_Fo_isDigit_7 : decode b_Fo_isDigit 7 = .ok (.bipush 55, 2) := by decide +kernel
theorem d_Fo_isDigit_9 : decode b_Fo_isDigit 9 = .ok (.if_icmp .gt 7, 3) := by decide +kernel
theorem d_Fo_isDigit_12 : decode b_Fo_isDigit 12 = .ok (.iconst 1, 1) := by decide +kernel
theorem d_Fo_isDigit_13 : decode b_Fo_isDigit 13 = .ok (.goto 4, 3) := by decide +kernel
theorem d_Fo_isDigit_16 : decode b_Fo_isDigit 16 = .ok (.iconst 0, 1) := by decide +kernel
theorem d_Fo_isDigit_17 : decode b_Fo_isDigit 17 = .ok (.ireturn, 1) := by decide +kernel
theorem d_Fo_add_0 : decode b_Fo_add 0 = .ok (.aload_n 0, 1) := by decide +kernel
theorem d_Fo_add_1 : decode b_Fo_add 1 = .ok (.getfield 19, 3) := by decide +kernel
theorem d_Fo_add_4 : decode b_Fo_add 4 = .ok (.bipush 24, 2) := by decide +kernel
theorem d_Fo_add_6 : decode b_Fo_add 6 = .ok (.if_icmp .ge 23, 3) := by decide +kernel
theorem d_Fo_add_9 : decode b_Fo_add 9 = .ok (.aload_n 0, 1) := by decide +kernel
theorem d_Fo_add_10 : decode b_Fo_add 10 = .ok (.getfield 9, 3) := by decide +kernel
theorem d_Fo_add_13 : decode b_Fo_add 13 = .ok (.aload_n 0, 1) := by decide +kernel
theorem d_Fo_add_14 : decode b_Fo_add 14 = .ok (.getfield 19, 3) := by decide +kernel
theorem d_Fo_add_17 : decode b_Fo_add 17 = .ok (.iload_n 1, 1) := by decide +kernel
theorem d_Fo_add_18 : decode b_Fo_add 18 = .ok (.castore, 1) := by decide +kernel
theorem d_Fo_add_19 : decode b_Fo_add 19 = .ok (.aload_n 0, 1) := by decide +kernel
theorem d_Fo_add_20 : decode b_Fo_add 20 = .ok (.dup, 1) := by decide +kernel
theorem d_Fo_add_21 : decode b_Fo_add 21 = .ok (.getfield 19, 3) := by decide +kernel
theorem d_Fo_add_24 : decode b_Fo_add 24 = .ok (.iconst 1, 1) := by decide +kernel
theorem d_Fo_add_25 : decode b_Fo_add 25 = .ok (.iadd, 1) := by decide +kernel
theorem d_Fo_add_26 : decode b_Fo_add 26 = .ok (.putfield 19, 3) := by decide +kernel
theorem d_Fo_add_29 : decode b_Fo_add 29 = .ok (.return_, 1) := by decide +kernel
theorem d_Pa_isOperator_0 : decode b_Pa_isOperator 0 = .ok (.iload_n 0, 1) := by decide +kernel
theorem d_Pa_isOperator_1 : decode b_Pa_isOperator 1 = .ok (.bipush 43, 2) := by decide +kernel
theorem d_Pa_isOperator_3 : decode b_Pa_isOperator 3 = .ok (.if_icmp .eq 27, 3) := by decide +kernel
theorem d_Pa_isOperator_6 : decode b_Pa_isOperator 6 = .ok (.iload_n 0, 1) := by decide +kernel
theorem d_Pa_isOperator_7 : decode b_Pa_isOperator 7 = .ok (.bipush 45, 2) := by decide +kernel
theorem d_Pa_isOperator_9 : decode b_Pa_isOperator 9 = .ok (.if_icmp .eq 21, 3) := by decide +kernel
theorem d_Pa_isOperator_12 : decode b_Pa_isOperator 12 = .ok (.iload_n 0, 1) := by decide +kernel
theorem d_Pa_isOperator_13 : decode b_Pa_isOperator 13 = .ok (.bipush 42, 2) := by decide +kernel
theorem d_Pa_isOperator_15 : decode b_Pa_isOperator 15 = .ok (.if_icmp .eq 15, 3) := by decide +kernel
theorem d_Pa_isOperator_18 : decode b_Pa_isOperator 18 = .ok (.iload_n 0, 1) := by decide +kernel
theorem d_Pa_isOperator_19 : decode b_Pa_isOperator 19 = .ok (.bipush 38, 2) := by decide +kernel
theorem d_Pa_isOperator_21 : decode b_Pa_isOperator 21 = .ok (.if_icmp .eq 9, 3) := by decide +kernel
theorem d_Pa_isOperator_24 : decode b_Pa_isOperator 24 = .ok (.iload_n 0, 1) := by decide +kernel
theorem d_Pa_isOperator_25 : decode b_Pa_isOperator 25 = .ok (.bipush 94, 2) := by decide +kernel
theorem d_Pa_isOperator_27 : decode b_Pa_isOperator 27 = .ok (.if_icmp .ne 7, 3) := by decide +kernel
theorem d_Pa_isOperator_30 : decode b_Pa_isOperator 30 = .ok (.iconst 1, 1) := by decide +kernel
theorem d_Pa_isOperator_31 : decode b_Pa_isOperator 31 = .ok (.goto 4, 3) := by decide +kernel
theorem d_Pa_isOperator_34 : decode b_Pa_isOperator 34 = .ok (.iconst 0, 1) := by decide +kernel
theorem d_Pa_isOperator_35 : decode b_Pa_isOperator 35 = .ok (.ireturn, 1) := by decide +kernel
theorem d_Pa_readAtom_0 : decode b_Pa_readAtom 0 = .ok (.aload_n 0, 1) := by decide +kernel
theorem d_Pa_readAtom_1 : decode b_Pa_readAtom 1 = .ok (.iload_n 1, 1) := by decide +kernel
theorem d_Pa_readAtom_2 : decode b_Pa_readAtom 2 = .ok (.putfield 9, 3) := by decide +kernel
theorem d_Pa_readAtom_5 : decode b_Pa_readAtom 5 = .ok (.aload_n 0, 1) := by decide +kernel
theorem d_Pa_readAtom_6 : decode b_Pa_readAtom 6 = .ok (.getfield 19, 3) := by decide +kernel
theorem d_Pa_readAtom_9 : decode b_Pa_readAtom 9 = .ok (.invokevirtual 45, 3) := by decide +kernel
theorem d_Pa_readAtom_12 : decode b_Pa_readAtom 12 = .ok (.aload_n 0, 1) := by decide +kernel
theorem d_Pa_readAtom_13 : decode b_Pa_readAtom 13 = .ok (.iconst 0, 1) := by decide +kernel
theorem d_Pa_readAtom_14 : decode b_Pa_readAtom 14 = .ok (.invokevirtual 48, 3) := by decide +kernel
theorem d_Pa_readAtom_17 : decode b_Pa_readAtom 17 = .ok (.ifCond .ne 5, 3) := by decide +kernel
theorem d_Pa_readAtom_20 : decode b_Pa_readAtom 20 = .ok (.iconst 0, 1) := by decide +kernel
theorem d_Pa_readAtom_21 : decode b_Pa_readAtom 21 = .ok (.ireturn, 1) := by decide +kernel
theorem d_Pa_readAtom_22 : decode b_Pa_readAtom 22 = .ok (.aload_n 0, 1) := by decide +kernel
theorem d_Pa_readAtom_23 : decode b_Pa_readAtom 23 = .ok (.getfield 15, 3) := by decide +kernel
theorem d_Pa_readAtom_26 : decode b_Pa_readAtom 26 = .ok (.aload_n 0, 1) := by decide +kernel
theorem d_Pa_readAtom_27 : decode b_Pa_readAtom 27 = .ok (.getfield 9, 3) := by decide +kernel
theorem d_Pa_readAtom_30 : decode b_Pa_readAtom 30 = .ok (.invokevirtual 23, 3) := by decide +kernel
theorem d_Pa_readAtom_33 : decode b_Pa_readAtom 33 = .ok (.istore_n 2, 1) := by decide +kernel
theorem d_Pa_readAtom_34 : decode b_Pa_readAtom 34 = .ok (.iload_n 2, 1) := by decide +kernel
theorem d_Pa_readAtom_35 : decode b_Pa_readAtom 35 = .ok (.invokestatic 51, 3) := by decide +kernel
theorem d_Pa_readAtom_38 : decode b_Pa_readAtom 38 = .ok (.ifCond .ne 5, 3) := by decide +kernel
theorem d_Pa_readAtom_41 : decode b_Pa_readAtom 41 = .ok (.iconst 0, 1) := by decide +kernel
theorem d_Pa_readAtom_42 : decode b_Pa_readAtom 42 = .ok (.ireturn, 1) := by decide +kernel
theorem d_Pa_readAtom_43 : decode b_Pa_readAtom 43 = .ok (.aload_n 0, 1) := by decide +kernel
theorem d_Pa_readAtom_44 : decode b_Pa_readAtom 44 = .ok (.dup, 1) := by decide +kernel
theorem d_Pa_readAtom_45 : decode b_Pa_readAtom 45 = .ok (.getfield 9, 3) := by decide +kernel
theorem d_Pa_readAtom_48 : decode b_Pa_readAtom 48 = .ok (.iconst 1, 1) := by decide +kernel
theorem d_Pa_readAtom_49 : decode b_Pa_readAtom 49 = .ok (.iadd, 1) := by decide +kernel
theorem d_Pa_readAtom_50 : decode b_Pa_readAtom 50 = .ok (.putfield 9, 3) := by decide +kernel
theorem d_Pa_readAtom_53 : decode b_Pa_readAtom 53 = .ok (.aload_n 0, 1) := by decide +kernel
theorem d_Pa_readAtom_54 : decode b_Pa_readAtom 54 = .ok (.iconst 0, 1) := by decide +kernel
theorem d_Pa_readAtom_55 : decode b_Pa_readAtom 55 = .ok (.invokevirtual 48, 3) := by decide +kernel
theorem d_Pa_readAtom_58 : decode b_Pa_readAtom 58 = .ok (.ifCond .ne 5, 3) := by decide +kernel
theorem d_Pa_readAtom_61 : decode b_Pa_readAtom 61 = .ok (.iconst 0, 1) := by decide +kernel
theorem d_Pa_readAtom_62 : decode b_Pa_readAtom 62 = .ok (.ireturn, 1) := by decide +kernel
theorem d_Pa_readAtom_63 : decode b_Pa_readAtom 63 = .ok (.aload_n 0, 1) := by decide +kernel
theorem d_Pa_readAtom_64 : decode b_Pa_readAtom 64 = .ok (.getfield 19, 3) := by decide +kernel
theorem d_Pa_readAtom_67 : decode b_Pa_readAtom 67 = .ok (.iload_n 2, 1) := by decide +kernel
theorem d_Pa_readAtom_68 : decode b_Pa_readAtom 68 = .ok (.invokevirtual 54, 3) := by decide +kernel
theorem d_Pa_readAtom_71 : decode b_Pa_readAtom 71 = .ok (.aload_n 0, 1) := by decide +kernel
theorem d_Pa_readAtom_72 : decode b_Pa_readAtom 72 = .ok (.getfield 15, 3) := by decide +kernel
theorem d_Pa_readAtom_75 : decode b_Pa_readAtom 75 = .ok (.aload_n 0, 1) := by decide +kernel
theorem d_Pa_readAtom_76 : decode b_Pa_readAtom 76 = .ok (.getfield 9, 3) := by decide +kernel
theorem d_Pa_readAtom_79 : decode b_Pa_readAtom 79 = .ok (.invokevirtual 23, 3) := by decide +kernel
theorem d_Pa_readAtom_82 : decode b_Pa_readAtom 82 = .ok (.ifCond .ne 7, 3) := by decide +kernel
theorem d_Pa_readAtom_85 : decode b_Pa_readAtom 85 = .ok (.iconst 1, 1) := by decide +kernel
theorem d_Pa_readAtom_86 : decode b_Pa_readAtom 86 = .ok (.goto 4, 3) := by decide +kernel
theorem d_Pa_readAtom_89 : decode b_Pa_readAtom 89 = .ok (.iconst 0, 1) := by decide +kernel
theorem d_Pa_readAtom_90 : decode b_Pa_readAtom 90 = .ok (.ireturn, 1) := by decide +kernel
theorem d_Pa_isComparison_0 : decode b_Pa_isComparison 0 = .ok (.iload_n 0, 1) := by decide +kernel
theorem d_Pa_isComparison_1 : decode b_Pa_isComparison 1 = .ok (.bipush 60, 2) := by decide +kernel
theorem d_Pa_isComparison_3 : decode b_Pa_isComparison 3 = .ok (.if_icmp .eq 15, 3) := by decide +kernel
theorem d_Pa_isComparison_6 : decode b_Pa_isComparison 6 = .ok (.iload_n 0, 1) := by decide +kernel
theorem d_Pa_isComparison_7 : decode b_Pa_isComparison 7 = .ok (.bipush 61, 2) := by decide +kernel
theorem d_Pa_isComparison_9 : decode b_Pa_isComparison 9 = .ok (.if_icmp .eq 9, 3) := by decide +kernel
theorem d_Pa_isComparison_12 : decode b_Pa_isComparison 12 = .ok (.iload_n 0, 1) := by decide +kernel
theorem d_Pa_isComparison_13 : decode b_Pa_isComparison 13 = .ok (.bipush 35, 2) := by decide +kernel
theorem d_Pa_isComparison_15 : decode b_Pa_isComparison 15 = .ok (.if_icmp .ne 7, 3) := by decide +kernel
theorem d_Pa_isComparison_18 : decode b_Pa_isComparison 18 = .ok (.iconst 1, 1) := by decide +kernel
theorem d_Pa_isComparison_19 : decode b_Pa_isComparison 19 = .ok (.goto 4, 3) := by decide +kernel
theorem d_Pa_isComparison_22 : decode b_Pa_isComparison 22 = .ok (.iconst 0, 1) := by decide +kernel
theorem d_Pa_isComparison_23 : decode b_Pa_isComparison 23 = .ok (.ireturn, 1) := by decide +kernel
theorem d_Pr_isFull_0 : decode b_Pr_isFull 0 = .ok (.aload_n 0, 1) := by decide +kernel
theorem d_Pr_isFull_1 : decode b_Pr_isFull 1 = .ok (.getfield 24, 3) := by decide +kernel
theorem d_Pr_isFull_4 : decode b_Pr_isFull 4 = .ok (.bipush 20, 2) := by decide +kernel
theorem d_Pr_isFull_6 : decode b_Pr_isFull 6 = .ok (.if_icmp .lt 7, 3) := by decide +kernel
theorem d_Pr_isFull_9 : decode b_Pr_isFull 9 = .ok (.iconst 1, 1) := by decide +kernel
theorem d_Pr_isFull_10 : decode b_Pr_isFull 10 = .ok (.goto 4, 3) := by decide +kernel
theorem d_Pr_isFull_13 : decode b_Pr_isFull 13 = .ok (.iconst 0, 1) := by decide +kernel
theorem d_Pr_isFull_14 : decode b_Pr_isFull 14 = .ok (.ireturn, 1) := by decide +kernel
theorem d_Pr_add_0 : decode b_Pr_add 0 = .ok (.aload_n 0, 1) := by decide +kernel
theorem d_Pr_add_1 : decode b_Pr_add 1 = .ok (.getfield 24, 3) := by decide +kernel
theorem d_Pr_add_4 : decode b_Pr_add 4 = .ok (.istore 4, 2) := by decide +kernel
theorem d_Pr_add_6 : decode b_Pr_add 6 = .ok (.aload_n 0, 1) := by decide +kernel
theorem d_Pr_add_7 : decode b_Pr_add 7 = .ok (.getfield 9, 3) := by decide +kernel
theorem d_Pr_add_10 : decode b_Pr_add 10 = .ok (.iload 4, 2) := by decide +kernel
theorem d_Pr_add_12 : decode b_Pr_add 12 = .ok (.aload_n 2, 1) := by decide +kernel
theorem d_Pr_add_13 : decode b_Pr_add 13 = .ok (.iconst 0, 1) := by decide +kernel
theorem d_Pr_add_14 : decode b_Pr_add 14 = .ok (.invokevirtual 42, 3) := by decide +kernel
theorem d_Pr_add_17 : decode b_Pr_add 17 = .ok (.bipush 65, 2) := by decide +kernel
theorem d_Pr_add_19 : decode b_Pr_add 19 = .ok (.isub, 1) := by decide +kernel
theorem d_Pr_add_20 : decode b_Pr_add 20 = .ok (.iastore, 1) := by decide +kernel
theorem d_Pr_add_21 : decode b_Pr_add 21 = .ok (.aload_n 0, 1) := by decide +kernel
theorem d_Pr_add_22 : decode b_Pr_add 22 = .ok (.getfield 15, 3) := by decide +kernel
theorem d_Pr_add_25 : decode b_Pr_add 25 = .ok (.iload 4, 2) := by decide +kernel
theorem d_Pr_add_27 : decode b_Pr_add 27 = .ok (.aload_n 2, 1) := by decide +kernel
theorem d_Pr_add_28 : decode b_Pr_add 28 = .ok (.iconst 1, 1) := by decide +kernel
theorem d_Pr_add_29 : decode b_Pr_add 29 = .ok (.invokevirtual 42, 3) := by decide +kernel
theorem d_Pr_add_32 : decode b_Pr_add 32 = .ok (.bipush 65, 2) := by decide +kernel
theorem d_Pr_add_34 : decode b_Pr_add 34 = .ok (.isub, 1) := by decide +kernel
theorem d_Pr_add_35 : decode b_Pr_add 35 = .ok (.iastore, 1) := by decide +kernel
theorem d_Pr_add_36 : decode b_Pr_add 36 = .ok (.aload_n 0, 1) := by decide +kernel
theorem d_Pr_add_37 : decode b_Pr_add 37 = .ok (.getfield 18, 3) := by decide +kernel
theorem d_Pr_add_40 : decode b_Pr_add 40 = .ok (.iload 4, 2) := by decide +kernel
theorem d_Pr_add_42 : decode b_Pr_add 42 = .ok (.iload_n 1, 1) := by decide +kernel
theorem d_Pr_add_43 : decode b_Pr_add 43 = .ok (.iastore, 1) := by decide +kernel
theorem d_Pr_add_44 : decode b_Pr_add 44 = .ok (.aload_n 0, 1) := by decide +kernel
theorem d_Pr_add_45 : decode b_Pr_add 45 = .ok (.getfield 21, 3) := by decide +kernel
theorem d_Pr_add_48 : decode b_Pr_add 48 = .ok (.iload 4, 2) := by decide +kernel
theorem d_Pr_add_50 : decode b_Pr_add 50 = .ok (.iload_n 1, 1) := by decide +kernel
theorem d_Pr_add_51 : decode b_Pr_add 51 = .ok (.ifCond .ne 7, 3) := by decide +kernel
theorem d_Pr_add_54 : decode b_Pr_add 54 = .ok (.iconst 0, 1) := by decide +kernel
theorem d_Pr_add_55 : decode b_Pr_add 55 = .ok (.goto 11, 3) := by decide +kernel
theorem d_Pr_add_58 : decode b_Pr_add 58 = .ok (.aload_n 2, 1) := by decide +kernel
theorem d_Pr_add_59 : decode b_Pr_add 59 = .ok (.iconst 3, 1) := by decide +kernel
theorem d_Pr_add_60 : decode b_Pr_add 60 = .ok (.invokevirtual 42, 3) := by decide +kernel
theorem d_Pr_add_63 : decode b_Pr_add 63 = .ok (.bipush 120, 2) := by decide +kernel
theorem d_Pr_add_65 : decode b_Pr_add 65 = .ok (.isub, 1) := by decide +kernel
theorem d_Pr_add_66 : decode b_Pr_add 66 = .ok (.iastore, 1) := by decide +kernel
theorem d_Pr_add_67 : decode b_Pr_add 67 = .ok (.iconst 0, 1) := by decide +kernel
theorem d_Pr_add_68 : decode b_Pr_add 68 = .ok (.istore 5, 2) := by decide +kernel
theorem d_Pr_add_70 : decode b_Pr_add 70 = .ok (.iload 5, 2) := by decide +kernel
theorem d_Pr_add_72 : decode b_Pr_add 72 = .ok (.aload_n 0, 1) := by decide +kernel
theorem d_Pr_add_73 : decode b_Pr_add 73 = .ok (.getfield 28, 3) := by decide +kernel
theorem d_Pr_add_76 : decode b_Pr_add 76 = .ok (.getfield 32, 3) := by decide +kernel
theorem d_Pr_add_79 : decode b_Pr_add 79 = .ok (.if_icmp .ge 28, 3) := by decide +kernel
theorem d_Pr_add_82 : decode b_Pr_add 82 = .ok (.aload_n 0, 1) := by decide +kernel
theorem d_Pr_add_83 : decode b_Pr_add 83 = .ok (.getfield 39, 3) := by decide +kernel
theorem d_Pr_add_86 : decode b_Pr_add 86 = .ok (.iload 4, 2) := by decide +kernel
theorem d_Pr_add_88 : decode b_Pr_add 88 = .ok (.aaload, 1) := by decide +kernel
theorem d_Pr_add_89 : decode b_Pr_add 89 = .ok (.iload 5, 2) := by decide +kernel
theorem d_Pr_add_91 : decode b_Pr_add 91 = .ok (.aload_n 0, 1) := by decide +kernel
theorem d_Pr_add_92 : decode b_Pr_add 92 = .ok (.iload 4, 2) := by decide +kernel
theorem d_Pr_add_94 : decode b_Pr_add 94 = .ok (.iload 5, 2) := by decide +kernel
theorem d_Pr_add_96 : decode b_Pr_add 96 = .ok (.aload_n 3, 1) := by decide +kernel
theorem d_Pr_add_97 : decode b_Pr_add 97 = .ok (.invokevirtual 48, 3) := by decide +kernel
theorem d_Pr_add_100 : decode b_Pr_add 100 = .ok (.iastore, 1) := by decide +kernel
theorem d_Pr_add_101 : decode b_Pr_add 101 = .ok (.iinc 5 1, 3) := by decide +kernel
theorem d_Pr_add_104 : decode b_Pr_add 104 = .ok (.goto (-34), 3) := by decide +kernel
theorem d_Pr_add_107 : decode b_Pr_add 107 = .ok (.aload_n 0, 1) := by decide +kernel
theorem d_Pr_add_108 : decode b_Pr_add 108 = .ok (.dup, 1) := by decide +kernel
theorem d_Pr_add_109 : decode b_Pr_add 109 = .ok (.getfield 24, 3) := by decide +kernel
theorem d_Pr_add_112 : decode b_Pr_add 112 = .ok (.iconst 1, 1) := by decide +kernel
theorem d_Pr_add_113 : decode b_Pr_add 113 = .ok (.iadd, 1) := by decide +kernel
theorem d_Pr_add_114 : decode b_Pr_add 114 = .ok (.putfield 24, 3) := by decide +kernel
theorem d_Pr_add_117 : decode b_Pr_add 117 = .ok (.iload 4, 2) := by decide +kernel
theorem d_Pr_add_119 : decode b_Pr_add 119 = .ok (.ireturn, 1) := by decide +kernel
theorem d_Pr_targetOf_0 : decode b_Pr_targetOf 0 = .ok (.aload_n 0, 1) := by decide +kernel
theorem d_Pr_targetOf_1 : decode b_Pr_targetOf 1 = .ok (.getfield 18, 3) := by decide +kernel
theorem d_Pr_targetOf_4 : decode b_Pr_targetOf 4 = .ok (.iload_n 1, 1) := by decide +kernel
theorem d_Pr_targetOf_5 : decode b_Pr_targetOf 5 = .ok (.iaload, 1) := by decide +kernel
theorem d_Pr_targetOf_6 : decode b_Pr_targetOf 6 = .ok (.iconst 2, 1) := by decide +kernel
theorem d_Pr_targetOf_7 : decode b_Pr_targetOf 7 = .ok (.if_icmp .ne 19, 3) := by decide +kernel
theorem d_Pr_targetOf_10 : decode b_Pr_targetOf 10 = .ok (.aload_n 0, 1) := by decide +kernel
theorem d_Pr_targetOf_11 : decode b_Pr_targetOf 11 = .ok (.getfield 28, 3) := by decide +kernel
theorem d_Pr_targetOf_14 : decode b_Pr_targetOf 14 = .ok (.iload_n 2, 1) := by decide +kernel
theorem d_Pr_targetOf_15 : decode b_Pr_targetOf 15 = .ok (.aload_n 0, 1) := by decide +kernel
theorem d_Pr_targetOf_16 : decode b_Pr_targetOf 16 = .ok (.getfield 21, 3) := by decide +kernel
theorem d_Pr_targetOf_19 : decode b_Pr_targetOf 19 = .ok (.iload_n 1, 1) := by decide +kernel
theorem d_Pr_targetOf_20 : decode b_Pr_targetOf 20 = .ok (.iaload, 1) := by decide +kernel
theorem d_Pr_targetOf_21 : decode b_Pr_targetOf 21 = .ok (.iconst 0, 1) := by decide +kernel
theorem d_Pr_targetOf_22 : decode b_Pr_targetOf 22 = .ok (.invokevirtual 52, 3) := by decide +kernel
theorem d_Pr_targetOf_25 : decode b_Pr_targetOf 25 = .ok (.ireturn, 1) := by decide +kernel
theorem d_Pr_targetOf_26 : decode b_Pr_targetOf 26 = .ok (.aload_n 3, 1) := by decide +kernel
theorem d_Pr_targetOf_27 : decode b_Pr_targetOf 27 = .ok (.iload_n 2, 1) := by decide +kernel
theorem d_Pr_targetOf_28 : decode b_Pr_targetOf 28 = .ok (.invokevirtual 56, 3) := by decide +kernel
theorem d_Pr_targetOf_31 : decode b_Pr_targetOf 31 = .ok (.istore 4, 2) := by decide +kernel
theorem d_Pr_targetOf_33 : decode b_Pr_targetOf 33 = .ok (.aload_n 0, 1) := by decide +kernel
theorem d_Pr_targetOf_34 : decode b_Pr_targetOf 34 = .ok (.getfield 18, 3) := by decide +kernel
theorem d_Pr_targetOf_37 : decode b_Pr_targetOf 37 = .ok (.iload_n 1, 1) := by decide +kernel
theorem d_Pr_targetOf_38 : decode b_Pr_targetOf 38 = .ok (.iaload, 1) := by decide +kernel
theorem d_Pr_targetOf_39 : decode b_Pr_targetOf 39 = .ok (.iconst 1, 1) := by decide +kernel
theorem d_Pr_targetOf_40 : decode b_Pr_targetOf 40 = .ok (.if_icmp .ne 20, 3) := by decide +kernel
theorem d_Pr_targetOf_43 : decode b_Pr_targetOf 43 = .ok (.aload_n 0, 1) := by decide +kernel
theorem d_Pr_targetOf_44 : decode b_Pr_targetOf 44 = .ok (.getfield 28, 3) := by decide +kernel
theorem d_Pr_targetOf_47 : decode b_Pr_targetOf 47 = .ok (.iload_n 2, 1) := by decide +kernel
theorem d_Pr_targetOf_48 : decode b_Pr_targetOf 48 = .ok (.aload_n 0, 1) := by decide +kernel
theorem d_Pr_targetOf_49 : decode b_Pr_targetOf 49 = .ok (.getfield 21, 3) := by decide +kernel
theorem d_Pr_targetOf_52 : decode b_Pr_targetOf 52 = .ok (.iload_n 1, 1) := by decide +kernel
theorem d_Pr_targetOf_53 : decode b_Pr_targetOf 53 = .ok (.iaload, 1) := by decide +kernel
theorem d_Pr_targetOf_54 : decode b_Pr_targetOf 54 = .ok (.iload 4, 2) := by decide +kernel
theorem d_Pr_targetOf_56 : decode b_Pr_targetOf 56 = .ok (.invokevirtual 52, 3) := by decide +kernel
theorem d_Pr_targetOf_59 : decode b_Pr_targetOf 59 = .ok (.ireturn, 1) := by decide +kernel
theorem d_Pr_targetOf_60 : decode b_Pr_targetOf 60 = .ok (.iload 4, 2) := by decide +kernel
theorem d_Pr_targetOf_62 : decode b_Pr_targetOf 62 = .ok (.ifCond .eq 7, 3) := by decide +kernel
theorem d_Pr_targetOf_65 : decode b_Pr_targetOf 65 = .ok (.iload_n 2, 1) := by decide +kernel
theorem d_Pr_targetOf_66 : decode b_Pr_targetOf 66 = .ok (.goto 4, 3) := by decide +kernel
theorem d_Pr_targetOf_69 : decode b_Pr_targetOf 69 = .ok (.iconst (-1), 1) := by decide +kernel
theorem d_Pr_targetOf_70 : decode b_Pr_targetOf 70 = .ok (.ireturn, 1) := by decide +kernel
theorem d_Sp_write_0 : decode b_Sp_write 0 = .ok (.iload_n 2, 1) := by decide +kernel
theorem d_Sp_write_1 : decode b_Sp_write 1 = .ok (.aload_n 0, 1) := by decide +kernel
theorem d_Sp_write_2 : decode b_Sp_write 2 = .ok (.getfield 9, 3) := by decide +kernel
theorem d_Sp_write_5 : decode b_Sp_write 5 = .ok (.imul, 1) := by decide +kernel
theorem d_Sp_write_6 : decode b_Sp_write 6 = .ok (.istore 4, 2) := by decide +kernel
theorem d_Sp_write_8 : decode b_Sp_write 8 = .ok (.iload_n 1, 1) := by decide +kernel
theorem d_Sp_write_9 : decode b_Sp_write 9 = .ok (.aload_n 0, 1) := by decide +kernel
theorem d_Sp_write_10 : decode b_Sp_write 10 = .ok (.getfield 15, 3) := by decide +kernel
theorem d_Sp_write_13 : decode b_Sp_write 13 = .ok (.iload 4, 2) := by decide +kernel
theorem d_Sp_write_15 : decode b_Sp_write 15 = .ok (.ishl, 1) := by decide +kernel
theorem d_Sp_write_16 : decode b_Sp_write 16 = .ok (.iconst (-1), 1) := by decide +kernel
theorem d_Sp_write_17 : decode b_Sp_write 17 = .ok (.ixor, 1) := by decide +kernel
theorem d_Sp_write_18 : decode b_Sp_write 18 = .ok (.iand, 1) := by decide +kernel
theorem d_Sp_write_19 : decode b_Sp_write 19 = .ok (.iload_n 3, 1) := by decide +kernel
theorem d_Sp_write_20 : decode b_Sp_write 20 = .ok (.aload_n 0, 1) := by decide +kernel
theorem d_Sp_write_21 : decode b_Sp_write 21 = .ok (.getfield 15, 3) := by decide +kernel
theorem d_Sp_write_24 : decode b_Sp_write 24 = .ok (.iand, 1) := by decide +kernel
theorem d_Sp_write_25 : decode b_Sp_write 25 = .ok (.iload 4, 2) := by decide +kernel
theorem d_Sp_write_27 : decode b_Sp_write 27 = .ok (.ishl, 1) := by decide +kernel
theorem d_Sp_write_28 : decode b_Sp_write 28 = .ok (.ior, 1) := by decide +kernel
theorem d_Sp_write_29 : decode b_Sp_write 29 = .ok (.ireturn, 1) := by decide +kernel
theorem d_Fo_valueIn_0 : decode b_Fo_valueIn 0 = .ok (.iconst 0, 1) := by decide +kernel
theorem d_Fo_valueIn_1 : decode b_Fo_valueIn 1 = .ok (.istore_n 2, 1) := by decide +kernel
theorem d_Fo_valueIn_2 : decode b_Fo_valueIn 2 = .ok (.iconst 0, 1) := by decide +kernel
theorem d_Fo_valueIn_3 : decode b_Fo_valueIn 3 = .ok (.istore_n 3, 1) := by decide +kernel
theorem d_Fo_valueIn_4 : decode b_Fo_valueIn 4 = .ok (.iload_n 3, 1) := by decide +kernel
theorem d_Fo_valueIn_5 : decode b_Fo_valueIn 5 = .ok (.aload_n 0, 1) := by decide +kernel
theorem d_Fo_valueIn_6 : decode b_Fo_valueIn 6 = .ok (.getfield 19, 3) := by decide +kernel
theorem d_Fo_valueIn_9 : decode b_Fo_valueIn 9 = .ok (.if_icmp .ge 126, 3) := by decide +kernel
theorem d_Fo_valueIn_12 : decode b_Fo_valueIn 12 = .ok (.aload_n 0, 1) := by decide +kernel
theorem d_Fo_valueIn_13 : decode b_Fo_valueIn 13 = .ok (.getfield 9, 3) := by decide +kernel
theorem d_Fo_valueIn_16 : decode b_Fo_valueIn 16 = .ok (.iload_n 3, 1) := by decide +kernel
theorem d_Fo_valueIn_17 : decode b_Fo_valueIn 17 = .ok (.caload, 1) := by decide +kernel
theorem d_Fo_valueIn_18 : decode b_Fo_valueIn 18 = .ok (.istore 4, 2) := by decide +kernel
theorem d_Fo_valueIn_20 : decode b_Fo_valueIn 20 = .ok (.iload 4, 2) := by decide +kernel
theorem d_Fo_valueIn_22 : decode b_Fo_valueIn 22 = .ok (.invokestatic 27, 3) := by decide +kernel
theorem d_Fo_valueIn_25 : decode b_Fo_valueIn 25 = .ok (.ifCond .eq 28, 3) := by decide +kernel
theorem d_Fo_valueIn_28 : decode b_Fo_valueIn 28 = .ok (.aload_n 0, 1) := by decide +kernel
theorem d_Fo_valueIn_29 : decode b_Fo_valueIn 29 = .ok (.getfield 15, 3) := by decide +kernel
theorem d_Fo_valueIn_32 : decode b_Fo_valueIn 32 = .ok (.iload_n 2, 1) := by decide +kernel
theorem d_Fo_valueIn_33 : decode b_Fo_valueIn 33 = .ok (.aload_n 0, 1) := by decide +kernel
theorem d_Fo_valueIn_34 : decode b_Fo_valueIn 34 = .ok (.getfield 23, 3) := by decide +kernel
theorem d_Fo_valueIn_37 : decode b_Fo_valueIn 37 = .ok (.iload_n 1, 1) := by decide +kernel
theorem d_Fo_valueIn_38 : decode b_Fo_valueIn 38 = .ok (.iload 4, 2) := by decide +kernel
theorem d_Fo_valueIn_40 : decode b_Fo_valueIn 40 = .ok (.bipush 120, 2) := by decide +kernel
theorem d_Fo_valueIn_42 : decode b_Fo_valueIn 42 = .ok (.isub, 1) := by decide +kernel
theorem d_Fo_valueIn_43 : decode b_Fo_valueIn 43 = .ok (.invokevirtual 31, 3) := by decide +kernel
theorem d_Fo_valueIn_46 : decode b_Fo_valueIn 46 = .ok (.iastore, 1) := by decide +kernel
theorem d_Fo_valueIn_47 : decode b_Fo_valueIn 47 = .ok (.iinc 2 1, 3) := by decide +kernel
theorem d_Fo_valueIn_50 : decode b_Fo_valueIn 50 = .ok (.goto 79, 3) := by decide +kernel
theorem d_Fo_valueIn_53 : decode b_Fo_valueIn 53 = .ok (.iload 4, 2) := by decide +kernel
theorem d_Fo_valueIn_55 : decode b_Fo_valueIn 55 = .ok (.invokestatic 37, 3) := by decide +kernel
theorem d_Fo_valueIn_58 : decode b_Fo_valueIn 58 = .ok (.ifCond .eq 28, 3) := by decide +kernel
theorem d_Fo_valueIn_61 : decode b_Fo_valueIn 61 = .ok (.aload_n 0, 1) := by decide +kernel
theorem d_Fo_valueIn_62 : decode b_Fo_valueIn 62 = .ok (.getfield 15, 3) := by decide +kernel
theorem d_Fo_valueIn_65 : decode b_Fo_valueIn 65 = .ok (.iload_n 2, 1) := by decide +kernel
theorem d_Fo_valueIn_66 : decode b_Fo_valueIn 66 = .ok (.iload 4, 2) := by decide +kernel
theorem d_Fo_valueIn_68 : decode b_Fo_valueIn 68 = .ok (.bipush 48, 2) := by decide +kernel
theorem d_Fo_valueIn_70 : decode b_Fo_valueIn 70 = .ok (.isub, 1) := by decide +kernel
theorem d_Fo_valueIn_71 : decode b_Fo_valueIn 71 = .ok (.aload_n 0, 1) := by decide +kernel
theorem d_Fo_valueIn_72 : decode b_Fo_valueIn 72 = .ok (.getfield 23, 3) := by decide +kernel
theorem d_Fo_valueIn_75 : decode b_Fo_valueIn 75 = .ok (.getfield 40, 3) := by decide +kernel
theorem d_Fo_valueIn_78 : decode b_Fo_valueIn 78 = .ok (.iand, 1) := by decide +kernel
theorem d_Fo_valueIn_79 : decode b_Fo_valueIn 79 = .ok (.iastore, 1) := by decide +kernel
theorem d_Fo_valueIn_80 : decode b_Fo_valueIn 80 = .ok (.iinc 2 1, 3) := by decide +kernel
theorem d_Fo_valueIn_83 : decode b_Fo_valueIn 83 = .ok (.goto 46, 3) := by decide +kernel
theorem d_Fo_valueIn_86 : decode b_Fo_valueIn 86 = .ok (.iload_n 2, 1) := by decide +kernel
theorem d_Fo_valueIn_87 : decode b_Fo_valueIn 87 = .ok (.iconst 2, 1) := by decide +kernel
theorem d_Fo_valueIn_88 : decode b_Fo_valueIn 88 = .ok (.if_icmp .lt 41, 3) := by decide +kernel
theorem d_Fo_valueIn_91 : decode b_Fo_valueIn 91 = .ok (.iinc 2 (-1), 3) := by decide +kernel
theorem d_Fo_valueIn_94 : decode b_Fo_valueIn 94 = .ok (.aload_n 0, 1) := by decide +kernel
theorem d_Fo_valueIn_95 : decode b_Fo_valueIn 95 = .ok (.getfield 15, 3) := by decide +kernel
theorem d_Fo_valueIn_98 : decode b_Fo_valueIn 98 = .ok (.iload_n 2, 1) := by decide +kernel
theorem d_Fo_valueIn_99 : decode b_Fo_valueIn 99 = .ok (.iconst 1, 1) := by decide +kernel
theorem d_Fo_valueIn_100 : decode b_Fo_valueIn 100 = .ok (.isub, 1) := by decide +kernel
theorem d_Fo_valueIn_101 : decode b_Fo_valueIn 101 = .ok (.iload 4, 2) := by decide +kernel
theorem d_Fo_valueIn_103 : decode b_Fo_valueIn 103 = .ok (.aload_n 0, 1) := by decide +kernel
theorem d_Fo_valueIn_104 : decode b_Fo_valueIn 104 = .ok (.getfield 15, 3) := by decide +kernel
theorem d_Fo_valueIn_107 : decode b_Fo_valueIn 107 = .ok (.iload_n 2, 1) := by decide +kernel
theorem d_Fo_valueIn_108 : decode b_Fo_valueIn 108 = .ok (.iconst 1, 1) := by decide +kernel
theorem d_Fo_valueIn_109 : decode b_Fo_valueIn 109 = .ok (.isub, 1) := by decide +kernel
theorem d_Fo_valueIn_110 : decode b_Fo_valueIn 110 = .ok (.iaload, 1) := by decide +kernel
theorem d_Fo_valueIn_111 : decode b_Fo_valueIn 111 = .ok (.aload_n 0, 1) := by decide +kernel
theorem d_Fo_valueIn_112 : decode b_Fo_valueIn 112 = .ok (.getfield 15, 3) := by decide +kernel
theorem d_Fo_valueIn_115 : decode b_Fo_valueIn 115 = .ok (.iload_n 2, 1) := by decide +kernel
theorem d_Fo_valueIn_116 : decode b_Fo_valueIn 116 = .ok (.iaload, 1) := by decide +kernel
theorem d_Fo_valueIn_117 : decode b_Fo_valueIn 117 = .ok (.invokestatic 43, 3) := by decide +kernel
theorem d_Fo_valueIn_120 : decode b_Fo_valueIn 120 = .ok (.aload_n 0, 1) := by decide +kernel
theorem d_Fo_valueIn_121 : decode b_Fo_valueIn 121 = .ok (.getfield 23, 3) := by decide +kernel
theorem d_Fo_valueIn_124 : decode b_Fo_valueIn 124 = .ok (.getfield 40, 3) := by decide +kernel
theorem d_Fo_valueIn_127 : decode b_Fo_valueIn 127 = .ok (.iand, 1) := by decide +kernel
theorem d_Fo_valueIn_128 : decode b_Fo_valueIn 128 = .ok (.iastore, 1) := by decide +kernel
theorem d_Fo_valueIn_129 : decode b_Fo_valueIn 129 = .ok (.iinc 3 1, 3) := by decide +kernel
theorem d_Fo_valueIn_132 : decode b_Fo_valueIn 132 = .ok (.goto (-128), 3) := by decide +kernel
theorem d_Fo_valueIn_135 : decode b_Fo_valueIn 135 = .ok (.aload_n 0, 1) := by decide +kernel
theorem d_Fo_valueIn_136 : decode b_Fo_valueIn 136 = .ok (.getfield 15, 3) := by decide +kernel
theorem d_Fo_valueIn_139 : decode b_Fo_valueIn 139 = .ok (.iconst 0, 1) := by decide +kernel
theorem d_Fo_valueIn_140 : decode b_Fo_valueIn 140 = .ok (.iaload, 1) := by decide +kernel
theorem d_Fo_valueIn_141 : decode b_Fo_valueIn 141 = .ok (.ireturn, 1) := by decide +kernel
theorem d_Sp_read_0 : decode b_Sp_read 0 = .ok (.iload_n 1, 1) := by decide +kernel
theorem d_Sp_read_1 : decode b_Sp_read 1 = .ok (.iload_n 2, 1) := by decide +kernel
theorem d_Sp_read_2 : decode b_Sp_read 2 = .ok (.aload_n 0, 1) := by decide +kernel
theorem d_Sp_read_3 : decode b_Sp_read 3 = .ok (.getfield 9, 3) := by decide +kernel
theorem d_Sp_read_6 : decode b_Sp_read 6 = .ok (.imul, 1) := by decide +kernel
theorem d_Sp_read_7 : decode b_Sp_read 7 = .ok (.ishr, 1) := by decide +kernel
theorem d_Sp_read_8 : decode b_Sp_read 8 = .ok (.aload_n 0, 1) := by decide +kernel
theorem d_Sp_read_9 : decode b_Sp_read 9 = .ok (.getfield 15, 3) := by decide +kernel
theorem d_Sp_read_12 : decode b_Sp_read 12 = .ok (.iand, 1) := by decide +kernel
theorem d_Sp_read_13 : decode b_Sp_read 13 = .ok (.ireturn, 1) := by decide +kernel
theorem d_Fo_combine_0 : decode b_Fo_combine 0 = .ok (.iload_n 0, 1) := by decide +kernel
theorem d_Fo_combine_1 : decode b_Fo_combine 1 = .ok (.lookupswitch 109 #[(38, 79), (42, 75), (43, 67), (45, 71), (60, 87), (61, 98), (94, 83)], 67) := by decide +kernel
theorem d_Fo_combine_68 : decode b_Fo_combine 68 = .ok (.iload_n 1, 1) := by decide +kernel
theorem d_Fo_combine_69 : decode b_Fo_combine 69 = .ok (.iload_n 2, 1) := by decide +kernel
theorem d_Fo_combine_70 : decode b_Fo_combine 70 = .ok (.iadd, 1) := by decide +kernel
theorem d_Fo_combine_71 : decode b_Fo_combine 71 = .ok (.ireturn, 1) := by decide +kernel
theorem d_Fo_combine_72 : decode b_Fo_combine 72 = .ok (.iload_n 1, 1) := by decide +kernel
theorem d_Fo_combine_73 : decode b_Fo_combine 73 = .ok (.iload_n 2, 1) := by decide +kernel
theorem d_Fo_combine_74 : decode b_Fo_combine 74 = .ok (.isub, 1) := by decide +kernel
theorem d_Fo_combine_75 : decode b_Fo_combine 75 = .ok (.ireturn, 1) := by decide +kernel
theorem d_Fo_combine_76 : decode b_Fo_combine 76 = .ok (.iload_n 1, 1) := by decide +kernel
theorem d_Fo_combine_77 : decode b_Fo_combine 77 = .ok (.iload_n 2, 1) := by decide +kernel
theorem d_Fo_combine_78 : decode b_Fo_combine 78 = .ok (.imul, 1) := by decide +kernel
theorem d_Fo_combine_79 : decode b_Fo_combine 79 = .ok (.ireturn, 1) := by decide +kernel
theorem d_Fo_combine_80 : decode b_Fo_combine 80 = .ok (.iload_n 1, 1) := by decide +kernel
theorem d_Fo_combine_81 : decode b_Fo_combine 81 = .ok (.iload_n 2, 1) := by decide +kernel
theorem d_Fo_combine_82 : decode b_Fo_combine 82 = .ok (.iand, 1) := by decide +kernel
theorem d_Fo_combine_83 : decode b_Fo_combine 83 = .ok (.ireturn, 1) := by decide +kernel
theorem d_Fo_combine_84 : decode b_Fo_combine 84 = .ok (.iload_n 1, 1) := by decide +kernel
theorem d_Fo_combine_85 : decode b_Fo_combine 85 = .ok (.iload_n 2, 1) := by decide +kernel
theorem d_Fo_combine_86 : decode b_Fo_combine 86 = .ok (.ixor, 1) := by decide +kernel
theorem d_Fo_combine_87 : decode b_Fo_combine 87 = .ok (.ireturn, 1) := by decide +kernel
theorem d_Fo_combine_88 : decode b_Fo_combine 88 = .ok (.iload_n 1, 1) := by decide +kernel
theorem d_Fo_combine_89 : decode b_Fo_combine 89 = .ok (.iload_n 2, 1) := by decide +kernel
theorem d_Fo_combine_90 : decode b_Fo_combine 90 = .ok (.if_icmp .ge 7, 3) := by decide +kernel
theorem d_Fo_combine_93 : decode b_Fo_combine 93 = .ok (.iconst 1, 1) := by decide +kernel
theorem d_Fo_combine_94 : decode b_Fo_combine 94 = .ok (.goto 4, 3) := by decide +kernel
theorem d_Fo_combine_97 : decode b_Fo_combine 97 = .ok (.iconst 0, 1) := by decide +kernel
theorem d_Fo_combine_98 : decode b_Fo_combine 98 = .ok (.ireturn, 1) := by decide +kernel
theorem d_Fo_combine_99 : decode b_Fo_combine 99 = .ok (.iload_n 1, 1) := by decide +kernel
theorem d_Fo_combine_100 : decode b_Fo_combine 100 = .ok (.iload_n 2, 1) := by decide +kernel
theorem d_Fo_combine_101 : decode b_Fo_combine 101 = .ok (.if_icmp .ne 7, 3) := by decide +kernel
theorem d_Fo_combine_104 : decode b_Fo_combine 104 = .ok (.iconst 1, 1) := by decide +kernel
theorem d_Fo_combine_105 : decode b_Fo_combine 105 = .ok (.goto 4, 3) := by decide +kernel
theorem d_Fo_combine_108 : decode b_Fo_combine 108 = .ok (.iconst 0, 1) := by decide +kernel
theorem d_Fo_combine_109 : decode b_Fo_combine 109 = .ok (.ireturn, 1) := by decide +kernel
theorem d_Fo_combine_110 : decode b_Fo_combine 110 = .ok (.iload_n 1, 1) := by decide +kernel
theorem d_Fo_combine_111 : decode b_Fo_combine 111 = .ok (.iload_n 2, 1) := by decide +kernel
theorem d_Fo_combine_112 : decode b_Fo_combine 112 = .ok (.if_icmp .eq 7, 3) := by decide +kernel
theorem d_Fo_combine_115 : decode b_Fo_combine 115 = .ok (.iconst 1, 1) := by decide +kernel
theorem d_Fo_combine_116 : decode b_Fo_combine 116 = .ok (.goto 4, 3) := by decide +kernel
theorem d_Fo_combine_119 : decode b_Fo_combine 119 = .ok (.iconst 0, 1) := by decide +kernel
theorem d_Fo_combine_120 : decode b_Fo_combine 120 = .ok (.ireturn, 1) := by decide +kernel
theorem d_Lw_predicate_0 : decode b_Lw_predicate 0 = .ok (.aload_n 1, 1) := by decide +kernel
theorem d_Lw_predicate_1 : decode b_Lw_predicate 1 = .ok (.iconst 0, 1) := by decide +kernel
theorem d_Lw_predicate_2 : decode b_Lw_predicate 2 = .ok (.aload_n 0, 1) := by decide +kernel
theorem d_Lw_predicate_3 : decode b_Lw_predicate 3 = .ok (.invokevirtual 17, 3) := by decide +kernel
theorem d_Lw_predicate_6 : decode b_Lw_predicate 6 = .ok (.i2l, 1) := by decide +kernel
theorem d_Lw_predicate_7 : decode b_Lw_predicate 7 = .ok (.lastore, 1) := by decide +kernel
theorem d_Lw_predicate_8 : decode b_Lw_predicate 8 = .ok (.goto 9, 3) := by decide +kernel
theorem d_Lw_predicate_11 : decode b_Lw_predicate 11 = .ok (.astore_n 2, 1) := by decide +kernel
theorem d_Lw_predicate_12 : decode b_Lw_predicate 12 = .ok (.iconst 1, 1) := by decide +kernel
theorem d_Lw_predicate_13 : decode b_Lw_predicate 13 = .ok (.ireturn, 1) := by decide +kernel
theorem d_Lw_predicate_14 : decode b_Lw_predicate 14 = .ok (.astore_n 2, 1) := by decide +kernel
theorem d_Lw_predicate_15 : decode b_Lw_predicate 15 = .ok (.iconst 2, 1) := by decide +kernel
theorem d_Lw_predicate_16 : decode b_Lw_predicate 16 = .ok (.ireturn, 1) := by decide +kernel
theorem d_Lw_predicate_17 : decode b_Lw_predicate 17 = .ok (.iconst 0, 1) := by decide +kernel
theorem d_Lw_predicate_18 : decode b_Lw_predicate 18 = .ok (.ireturn, 1) := by decide +kernel
theorem d_PP_predicate_0 : decode b_PP_predicate 0 = .ok (.aload_n 0, 1) := by decide +kernel
theorem d_PP_predicate_1 : decode b_PP_predicate 1 = .ok (.getfield 50, 3) := by decide +kernel
theorem d_PP_predicate_4 : decode b_PP_predicate 4 = .ok (.iconst 0, 1) := by decide +kernel
theorem d_PP_predicate_5 : decode b_PP_predicate 5 = .ok (.invokevirtual 122, 3) := by decide +kernel
theorem d_PP_predicate_8 : decode b_PP_predicate 8 = .ok (.ifCond .ne 13, 3) := by decide +kernel
theorem d_PP_predicate_11 : decode b_PP_predicate 11 = .ok (.new 99, 3) := by decide +kernel
theorem d_PP_predicate_14 : decode b_PP_predicate 14 = .ok (.dup, 1) := by decide +kernel
theorem d_PP_predicate_15 : decode b_PP_predicate 15 = .ok (.ldc 126, 2) := by decide +kernel
theorem d_PP_predicate_17 : decode b_PP_predicate 17 = .ok (.invokespecial 103, 3) := by decide +kernel
theorem d_PP_predicate_20 : decode b_PP_predicate 20 = .ok (.athrow, 1) := by decide +kernel
theorem d_PP_predicate_21 : decode b_PP_predicate 21 = .ok (.aload_n 0, 1) := by decide +kernel
theorem d_PP_predicate_22 : decode b_PP_predicate 22 = .ok (.getfield 58, 3) := by decide +kernel
theorem d_PP_predicate_25 : decode b_PP_predicate 25 = .ok (.invokevirtual 128, 3) := by decide +kernel
theorem d_PP_predicate_28 : decode b_PP_predicate 28 = .ok (.ifCond .eq 13, 3) := by decide +kernel
theorem d_PP_predicate_31 : decode b_PP_predicate 31 = .ok (.new 110, 3) := by decide +kernel
theorem d_PP_predicate_34 : decode b_PP_predicate 34 = .ok (.dup, 1) := by decide +kernel
theorem d_PP_predicate_35 : decode b_PP_predicate 35 = .ok (.ldc 129, 2) := by decide +kernel
theorem d_PP_predicate_37 : decode b_PP_predicate 37 = .ok (.invokespecial 114, 3) := by decide +kernel
theorem d_PP_predicate_40 : decode b_PP_predicate 40 = .ok (.athrow, 1) := by decide +kernel
theorem d_PP_predicate_41 : decode b_PP_predicate 41 = .ok (.aload_n 0, 1) := by decide +kernel
theorem d_PP_predicate_42 : decode b_PP_predicate 42 = .ok (.getfield 58, 3) := by decide +kernel
theorem d_PP_predicate_45 : decode b_PP_predicate 45 = .ok (.getfield 131, 3) := by decide +kernel
theorem d_PP_predicate_48 : decode b_PP_predicate 48 = .ok (.istore_n 1, 1) := by decide +kernel
theorem d_PP_predicate_49 : decode b_PP_predicate 49 = .ok (.iconst 0, 1) := by decide +kernel
theorem d_PP_predicate_50 : decode b_PP_predicate 50 = .ok (.istore_n 2, 1) := by decide +kernel
theorem d_PP_predicate_51 : decode b_PP_predicate 51 = .ok (.iload_n 2, 1) := by decide +kernel
theorem d_PP_predicate_52 : decode b_PP_predicate 52 = .ok (.aload_n 0, 1) := by decide +kernel
theorem d_PP_predicate_53 : decode b_PP_predicate 53 = .ok (.getfield 31, 3) := by decide +kernel
theorem d_PP_predicate_56 : decode b_PP_predicate 56 = .ok (.getfield 134, 3) := by decide +kernel
theorem d_PP_predicate_59 : decode b_PP_predicate 59 = .ok (.if_icmp .ge 28, 3) := by decide +kernel
theorem d_PP_predicate_62 : decode b_PP_predicate 62 = .ok (.aload_n 0, 1) := by decide +kernel
theorem d_PP_predicate_63 : decode b_PP_predicate 63 = .ok (.getfield 41, 3) := by decide +kernel
theorem d_PP_predicate_66 : decode b_PP_predicate 66 = .ok (.iload_n 2, 1) := by decide +kernel
theorem d_PP_predicate_67 : decode b_PP_predicate 67 = .ok (.invokevirtual 137, 3) := by decide +kernel
theorem d_PP_predicate_70 : decode b_PP_predicate 70 = .ok (.ifCond .eq 11, 3) := by decide +kernel
theorem d_PP_predicate_73 : decode b_PP_predicate 73 = .ok (.aload_n 0, 1) := by decide +kernel
theorem d_PP_predicate_74 : decode b_PP_predicate 74 = .ok (.getfield 58, 3) := by decide +kernel
theorem d_PP_predicate_77 : decode b_PP_predicate 77 = .ok (.iload_n 2, 1) := by decide +kernel
theorem d_PP_predicate_78 : decode b_PP_predicate 78 = .ok (.invokevirtual 141, 3) := by decide +kernel
theorem d_PP_predicate_81 : decode b_PP_predicate 81 = .ok (.iinc 2 1, 3) := by decide +kernel
theorem d_PP_predicate_84 : decode b_PP_predicate 84 = .ok (.goto (-33), 3) := by decide +kernel
theorem d_PP_predicate_87 : decode b_PP_predicate 87 = .ok (.aload_n 0, 1) := by decide +kernel
theorem d_PP_predicate_88 : decode b_PP_predicate 88 = .ok (.getfield 58, 3) := by decide +kernel
theorem d_PP_predicate_91 : decode b_PP_predicate 91 = .ok (.invokevirtual 144, 3) := by decide +kernel
theorem d_PP_predicate_94 : decode b_PP_predicate 94 = .ok (.aload_n 0, 1) := by decide +kernel
theorem d_PP_predicate_95 : decode b_PP_predicate 95 = .ok (.getfield 37, 3) := by decide +kernel
theorem d_PP_predicate_98 : decode b_PP_predicate 98 = .ok (.invokevirtual 92, 3) := by decide +kernel
theorem d_PP_predicate_101 : decode b_PP_predicate 101 = .ok (.aload_n 0, 1) := by decide +kernel
theorem d_PP_predicate_102 : decode b_PP_predicate 102 = .ok (.invokevirtual 119, 3) := by decide +kernel
theorem d_PP_predicate_105 : decode b_PP_predicate 105 = .ok (.iload_n 1, 1) := by decide +kernel
theorem d_PP_predicate_106 : decode b_PP_predicate 106 = .ok (.ireturn, 1) := by decide +kernel
theorem d_Gr_isFull_0 : decode b_Gr_isFull 0 = .ok (.aload_n 0, 1) := by decide +kernel
theorem d_Gr_isFull_1 : decode b_Gr_isFull 1 = .ok (.getfield 9, 3) := by decide +kernel
theorem d_Gr_isFull_4 : decode b_Gr_isFull 4 = .ok (.bipush 12, 2) := by decide +kernel
theorem d_Gr_isFull_6 : decode b_Gr_isFull 6 = .ok (.if_icmp .lt 7, 3) := by decide +kernel
theorem d_Gr_isFull_9 : decode b_Gr_isFull 9 = .ok (.iconst 1, 1) := by decide +kernel
theorem d_Gr_isFull_10 : decode b_Gr_isFull 10 = .ok (.goto 4, 3) := by decide +kernel
theorem d_Gr_isFull_13 : decode b_Gr_isFull 13 = .ok (.iconst 0, 1) := by decide +kernel
theorem d_Gr_isFull_14 : decode b_Gr_isFull 14 = .ok (.ireturn, 1) := by decide +kernel
theorem d_Gr_include_0 : decode b_Gr_include 0 = .ok (.aload_n 0, 1) := by decide +kernel
theorem d_Gr_include_1 : decode b_Gr_include 1 = .ok (.getfield 31, 3) := by decide +kernel
theorem d_Gr_include_4 : decode b_Gr_include 4 = .ok (.iload_n 1, 1) := by decide +kernel
theorem d_Gr_include_5 : decode b_Gr_include 5 = .ok (.dup2, 1) := by decide +kernel
theorem d_Gr_include_6 : decode b_Gr_include 6 = .ok (.iaload, 1) := by decide +kernel
theorem d_Gr_include_7 : decode b_Gr_include 7 = .ok (.iconst 1, 1) := by decide +kernel
theorem d_Gr_include_8 : decode b_Gr_include 8 = .ok (.aload_n 0, 1) := by decide +kernel
theorem d_Gr_include_9 : decode b_Gr_include 9 = .ok (.getfield 9, 3) := by decide +kernel
theorem d_Gr_include_12 : decode b_Gr_include 12 = .ok (.ishl, 1) := by decide +kernel
theorem d_Gr_include_13 : decode b_Gr_include 13 = .ok (.ior, 1) := by decide +kernel
theorem d_Gr_include_14 : decode b_Gr_include 14 = .ok (.iastore, 1) := by decide +kernel
theorem d_Gr_include_15 : decode b_Gr_include 15 = .ok (.return_, 1) := by decide +kernel
theorem d_Gr_endPredicate_0 : decode b_Gr_endPredicate 0 = .ok (.aload_n 0, 1) := by decide +kernel
theorem d_Gr_endPredicate_1 : decode b_Gr_endPredicate 1 = .ok (.dup, 1) := by decide +kernel
theorem d_Gr_endPredicate_2 : decode b_Gr_endPredicate 2 = .ok (.getfield 9, 3) := by decide +kernel
theorem d_Gr_endPredicate_5 : decode b_Gr_endPredicate 5 = .ok (.iconst 1, 1) := by decide +kernel
theorem d_Gr_endPredicate_6 : decode b_Gr_endPredicate 6 = .ok (.iadd, 1) := by decide +kernel
theorem d_Gr_endPredicate_7 : decode b_Gr_endPredicate 7 = .ok (.putfield 9, 3) := by decide +kernel
theorem d_Gr_endPredicate_10 : decode b_Gr_endPredicate 10 = .ok (.aload_n 0, 1) := by decide +kernel
theorem d_Gr_endPredicate_11 : decode b_Gr_endPredicate 11 = .ok (.invokevirtual 43, 3) := by decide +kernel
theorem d_Gr_endPredicate_14 : decode b_Gr_endPredicate 14 = .ok (.aload_n 0, 1) := by decide +kernel
theorem d_Gr_endPredicate_15 : decode b_Gr_endPredicate 15 = .ok (.invokevirtual 46, 3) := by decide +kernel
theorem d_Gr_endPredicate_18 : decode b_Gr_endPredicate 18 = .ok (.return_, 1) := by decide +kernel
theorem d_Lw_prove_0 : decode b_Lw_prove 0 = .ok (.aload_n 2, 1) := by decide +kernel
theorem d_Lw_prove_1 : decode b_Lw_prove 1 = .ok (.iconst 0, 1) := by decide +kernel
theorem d_Lw_prove_2 : decode b_Lw_prove 2 = .ok (.aload_n 0, 1) := by decide +kernel
theorem d_Lw_prove_3 : decode b_Lw_prove 3 = .ok (.iload_n 1, 1) := by decide +kernel
theorem d_Lw_prove_4 : decode b_Lw_prove 4 = .ok (.invokevirtual 20, 3) := by decide +kernel
theorem d_Lw_prove_7 : decode b_Lw_prove 7 = .ok (.i2l, 1) := by decide +kernel
theorem d_Lw_prove_8 : decode b_Lw_prove 8 = .ok (.lastore, 1) := by decide +kernel
theorem d_Lw_prove_9 : decode b_Lw_prove 9 = .ok (.goto 6, 3) := by decide +kernel
theorem d_Lw_prove_12 : decode b_Lw_prove 12 = .ok (.astore_n 3, 1) := by decide +kernel
theorem d_Lw_prove_13 : decode b_Lw_prove 13 = .ok (.iconst 1, 1) := by decide +kernel
theorem d_Lw_prove_14 : decode b_Lw_prove 14 = .ok (.ireturn, 1) := by decide +kernel
theorem d_Lw_prove_15 : decode b_Lw_prove 15 = .ok (.iconst 0, 1) := by decide +kernel
theorem d_Lw_prove_16 : decode b_Lw_prove 16 = .ok (.ireturn, 1) := by decide +kernel
theorem d_PP_prove_0 : decode b_PP_prove 0 = .ok (.iload_n 1, 1) := by decide +kernel
theorem d_PP_prove_1 : decode b_PP_prove 1 = .ok (.iconst 1, 1) := by decide +kernel
theorem d_PP_prove_2 : decode b_PP_prove 2 = .ok (.if_icmp .lt 9, 3) := by decide +kernel
theorem d_PP_prove_5 : decode b_PP_prove 5 = .ok (.iload_n 1, 1) := by decide +kernel
theorem d_PP_prove_6 : decode b_PP_prove 6 = .ok (.bipush 40, 2) := by decide +kernel
theorem d_PP_prove_8 : decode b_PP_prove 8 = .ok (.if_icmp .le 13, 3) := by decide +kernel
theorem d_PP_prove_11 : decode b_PP_prove 11 = .ok (.new 99, 3) := by decide +kernel
theorem d_PP_prove_14 : decode b_PP_prove 14 = .ok (.dup, 1) := by decide +kernel
theorem d_PP_prove_15 : decode b_PP_prove 15 = .ok (.ldc 151, 2) := by decide +kernel
theorem d_PP_prove_17 : decode b_PP_prove 17 = .ok (.invokespecial 103, 3) := by decide +kernel
theorem d_PP_prove_20 : decode b_PP_prove 20 = .ok (.athrow, 1) := by decide +kernel
theorem d_PP_prove_21 : decode b_PP_prove 21 = .ok (.aload_n 0, 1) := by decide +kernel
theorem d_PP_prove_22 : decode b_PP_prove 22 = .ok (.iconst 0, 1) := by decide +kernel
theorem d_PP_prove_23 : decode b_PP_prove 23 = .ok (.putfield 84, 3) := by decide +kernel
theorem d_PP_prove_26 : decode b_PP_prove 26 = .ok (.iconst 0, 1) := by decide +kernel
theorem d_PP_prove_27 : decode b_PP_prove 27 = .ok (.istore_n 2, 1) := by decide +kernel
theorem d_PP_prove_28 : decode b_PP_prove 28 = .ok (.iload_n 2, 1) := by decide +kernel
theorem d_PP_prove_29 : decode b_PP_prove 29 = .ok (.iload_n 1, 1) := by decide +kernel
theorem d_PP_prove_30 : decode b_PP_prove 30 = .ok (.if_icmp .ge 24, 3) := by decide +kernel
theorem d_PP_prove_33 : decode b_PP_prove 33 = .ok (.aload_n 0, 1) := by decide +kernel
theorem d_PP_prove_34 : decode b_PP_prove 34 = .ok (.getfield 84, 3) := by decide +kernel
theorem d_PP_prove_37 : decode b_PP_prove 37 = .ok (.ifCond .ne 17, 3) := by decide +kernel
theorem d_PP_prove_40 : decode b_PP_prove 40 = .ok (.aload_n 0, 1) := by decide +kernel
theorem d_PP_prove_41 : decode b_PP_prove 41 = .ok (.aload_n 0, 1) := by decide +kernel
theorem d_PP_prove_42 : decode b_PP_prove 42 = .ok (.invokevirtual 153, 3) := by decide +kernel
theorem d_PP_prove_45 : decode b_PP_prove 45 = .ok (.putfield 84, 3) := by decide +kernel
theorem d_PP_prove_48 : decode b_PP_prove 48 = .ok (.iinc 2 1, 3) := by decide +kernel
theorem d_PP_prove_51 : decode b_PP_prove 51 = .ok (.goto (-23), 3) := by decide +kernel
theorem d_PP_prove_54 : decode b_PP_prove 54 = .ok (.aload_n 0, 1) := by decide +kernel
theorem d_PP_prove_55 : decode b_PP_prove 55 = .ok (.getfield 84, 3) := by decide +kernel
theorem d_PP_prove_58 : decode b_PP_prove 58 = .ok (.ireturn, 1) := by decide +kernel
theorem d_PP_makeRound_0 : decode b_PP_makeRound 0 = .ok (.aload_n 0, 1) := by decide +kernel
theorem d_PP_makeRound_1 : decode b_PP_makeRound 1 = .ok (.getfield 71, 3) := by decide +kernel
theorem d_PP_makeRound_4 : decode b_PP_makeRound 4 = .ok (.invokevirtual 210, 3) := by decide +kernel
theorem d_PP_makeRound_7 : decode b_PP_makeRound 7 = .ok (.aload_n 0, 1) := by decide +kernel
theorem d_PP_makeRound_8 : decode b_PP_makeRound 8 = .ok (.getfield 62, 3) := by decide +kernel
theorem d_PP_makeRound_11 : decode b_PP_makeRound 11 = .ok (.invokevirtual 211, 3) := by decide +kernel
theorem d_PP_makeRound_14 : decode b_PP_makeRound 14 = .ok (.aload_n 0, 1) := by decide +kernel
theorem d_PP_makeRound_15 : decode b_PP_makeRound 15 = .ok (.getfield 62, 3) := by decide +kernel
theorem d_PP_makeRound_18 : decode b_PP_makeRound 18 = .ok (.getfield 214, 3) := by decide +kernel
theorem d_PP_makeRound_21 : decode b_PP_makeRound 21 = .ok (.ifCond .eq 5, 3) := by decide +kernel
theorem d_PP_makeRound_24 : decode b_PP_makeRound 24 = .ok (.iconst 3, 1) := by decide +kernel
theorem d_PP_makeRound_25 : decode b_PP_makeRound 25 = .ok (.ireturn, 1) := by decide +kernel
theorem d_PP_makeRound_26 : decode b_PP_makeRound 26 = .ok (.aload_n 0, 1) := by decide +kernel
theorem d_PP_makeRound_27 : decode b_PP_makeRound 27 = .ok (.getfield 62, 3) := by decide +kernel
theorem d_PP_makeRound_30 : decode b_PP_makeRound 30 = .ok (.getfield 191, 3) := by decide +kernel
theorem d_PP_makeRound_33 : decode b_PP_makeRound 33 = .ok (.ifCond .ge 5, 3) := by decide +kernel
theorem d_PP_makeRound_36 : decode b_PP_makeRound 36 = .ok (.iconst 1, 1) := by decide +kernel
theorem d_PP_makeRound_37 : decode b_PP_makeRound 37 = .ok (.ireturn, 1) := by decide +kernel
theorem d_PP_makeRound_38 : decode b_PP_makeRound 38 = .ok (.aload_n 0, 1) := by decide +kernel
theorem d_PP_makeRound_39 : decode b_PP_makeRound 39 = .ok (.getfield 71, 3) := by decide +kernel
theorem d_PP_makeRound_42 : decode b_PP_makeRound 42 = .ok (.invokevirtual 218, 3) := by decide +kernel
theorem d_PP_makeRound_45 : decode b_PP_makeRound 45 = .ok (.ifCond .eq 5, 3) := by decide +kernel
theorem d_PP_makeRound_48 : decode b_PP_makeRound 48 = .ok (.iconst 2, 1) := by decide +kernel
theorem d_PP_makeRound_49 : decode b_PP_makeRound 49 = .ok (.ireturn, 1) := by decide +kernel
theorem d_PP_makeRound_50 : decode b_PP_makeRound 50 = .ok (.aload_n 0, 1) := by decide +kernel
theorem d_PP_makeRound_51 : decode b_PP_makeRound 51 = .ok (.getfield 80, 3) := by decide +kernel
theorem d_PP_makeRound_54 : decode b_PP_makeRound 54 = .ok (.invokevirtual 221, 3) := by decide +kernel
theorem d_PP_makeRound_57 : decode b_PP_makeRound 57 = .ok (.ifCond .eq 7, 3) := by decide +kernel
theorem d_PP_makeRound_60 : decode b_PP_makeRound 60 = .ok (.iconst 0, 1) := by decide +kernel
theorem d_PP_makeRound_61 : decode b_PP_makeRound 61 = .ok (.goto 4, 3) := by decide +kernel
theorem d_PP_makeRound_64 : decode b_PP_makeRound 64 = .ok (.iconst 3, 1) := by decide +kernel
theorem d_PP_makeRound_65 : decode b_PP_makeRound 65 = .ok (.ireturn, 1) := by decide +kernel
theorem d_Se_run_0 : decode b_Se_run 0 = .ok (.aload_n 0, 1) := by decide +kernel
theorem d_Se_run_1 : decode b_Se_run 1 = .ok (.invokevirtual 68, 3) := by decide +kernel
theorem d_Se_run_4 : decode b_Se_run 4 = .ok (.aload_n 0, 1) := by decide +kernel
theorem d_Se_run_5 : decode b_Se_run 5 = .ok (.getfield 61, 3) := by decide +kernel
theorem d_Se_run_8 : decode b_Se_run 8 = .ok (.iconst 0, 1) := by decide +kernel
theorem d_Se_run_9 : decode b_Se_run 9 = .ok (.invokestatic 71, 3) := by decide +kernel
theorem d_Se_run_12 : decode b_Se_run 12 = .ok (.aload_n 0, 1) := by decide +kernel
theorem d_Se_run_13 : decode b_Se_run 13 = .ok (.iconst 0, 1) := by decide +kernel
theorem d_Se_run_14 : decode b_Se_run 14 = .ok (.aload_n 0, 1) := by decide +kernel
theorem d_Se_run_15 : decode b_Se_run 15 = .ok (.getfield 52, 3) := by decide +kernel
theorem d_Se_run_18 : decode b_Se_run 18 = .ok (.getfield 77, 3) := by decide +kernel
theorem d_Se_run_21 : decode b_Se_run 21 = .ok (.iconst 0, 1) := by decide +kernel
theorem d_Se_run_22 : decode b_Se_run 22 = .ok (.iaload, 1) := by decide +kernel
theorem d_Se_run_23 : decode b_Se_run 23 = .ok (.iconst (-1), 1) := by decide +kernel
theorem d_Se_run_24 : decode b_Se_run 24 = .ok (.iconst (-1), 1) := by decide +kernel
theorem d_Se_run_25 : decode b_Se_run 25 = .ok (.invokevirtual 82, 3) := by decide +kernel
theorem d_Se_run_28 : decode b_Se_run 28 = .ok (.iconst 0, 1) := by decide +kernel
theorem d_Se_run_29 : decode b_Se_run 29 = .ok (.istore_n 1, 1) := by decide +kernel
theorem d_Se_run_30 : decode b_Se_run 30 = .ok (.iconst 0, 1) := by decide +kernel
theorem d_Se_run_31 : decode b_Se_run 31 = .ok (.istore_n 2, 1) := by decide +kernel
theorem d_Se_run_32 : decode b_Se_run 32 = .ok (.iload_n 2, 1) := by decide +kernel
theorem d_Se_run_33 : decode b_Se_run 33 = .ok (.aload_n 0, 1) := by decide +kernel
theorem d_Se_run_34 : decode b_Se_run 34 = .ok (.getfield 9, 3) := by decide +kernel
theorem d_Se_run_37 : decode b_Se_run 37 = .ok (.if_icmp .ge 68, 3) := by decide +kernel
theorem d_Se_run_40 : decode b_Se_run 40 = .ok (.iload_n 2, 1) := by decide +kernel
theorem d_Se_run_41 : decode b_Se_run 41 = .ok (.sipush 200, 3) := by decide +kernel
theorem d_Se_run_44 : decode b_Se_run 44 = .ok (.if_icmp .ge 61, 3) := by decide +kernel
theorem d_Se_run_47 : decode b_Se_run 47 = .ok (.iload_n 1, 1) := by decide +kernel
theorem d_Se_run_48 : decode b_Se_run 48 = .ok (.ifCond .ne 57, 3) := by decide +kernel
theorem d_Se_run_51 : decode b_Se_run 51 = .ok (.iconst 0, 1) := by decide +kernel
theorem d_Se_run_52 : decode b_Se_run 52 = .ok (.istore_n 3, 1) := by decide +kernel
theorem d_Se_run_53 : decode b_Se_run 53 = .ok (.iload_n 3, 1) := by decide +kernel
theorem d_Se_run_54 : decode b_Se_run 54 = .ok (.aload_n 0, 1) := by decide +kernel
theorem d_Se_run_55 : decode b_Se_run 55 = .ok (.getfield 48, 3) := by decide +kernel
theorem d_Se_run_58 : decode b_Se_run 58 = .ok (.getfield 86, 3) := by decide +kernel
theorem d_Se_run_61 : decode b_Se_run 61 = .ok (.if_icmp .ge 38, 3) := by decide +kernel
theorem d_Se_run_64 : decode b_Se_run 64 = .ok (.iload_n 1, 1) := by decide +kernel
theorem d_Se_run_65 : decode b_Se_run 65 = .ok (.ifCond .ne 34, 3) := by decide +kernel
theorem d_Se_run_68 : decode b_Se_run 68 = .ok (.aload_n 0, 1) := by decide +kernel
theorem d_Se_run_69 : decode b_Se_run 69 = .ok (.getfield 48, 3) := by decide +kernel
theorem d_Se_run_72 : decode b_Se_run 72 = .ok (.getfield 89, 3) := by decide +kernel
theorem d_Se_run_75 : decode b_Se_run 75 = .ok (.iload_n 3, 1) := by decide +kernel
theorem d_Se_run_76 : decode b_Se_run 76 = .ok (.iaload, 1) := by decide +kernel
theorem d_Se_run_77 : decode b_Se_run 77 = .ok (.aload_n 0, 1) := by decide +kernel
theorem d_Se_run_78 : decode b_Se_run 78 = .ok (.getfield 15, 3) := by decide +kernel
theorem d_Se_run_81 : decode b_Se_run 81 = .ok (.iload_n 2, 1) := by decide +kernel
theorem d_Se_run_82 : decode b_Se_run 82 = .ok (.iaload, 1) := by decide +kernel
theorem d_Se_run_83 : decode b_Se_run 83 = .ok (.if_icmp .ne 10, 3) := by decide +kernel
theorem d_Se_run_86 : decode b_Se_run 86 = .ok (.aload_n 0, 1) := by decide +kernel
theorem d_Se_run_87 : decode b_Se_run 87 = .ok (.iload_n 2, 1) := by decide +kernel
theorem d_Se_run_88 : decode b_Se_run 88 = .ok (.iload_n 3, 1) := by decide +kernel
theorem d_Se_run_89 : decode b_Se_run 89 = .ok (.invokevirtual 92, 3) := by decide +kernel
theorem d_Se_run_92 : decode b_Se_run 92 = .ok (.istore_n 1, 1) := by decide +kernel
theorem d_Se_run_93 : decode b_Se_run 93 = .ok (.iinc 3 1, 3) := by decide +kernel
theorem d_Se_run_96 : decode b_Se_run 96 = .ok (.goto (-43), 3) := by decide +kernel
theorem d_Se_run_99 : decode b_Se_run 99 = .ok (.iinc 2 1, 3) := by decide +kernel
theorem d_Se_run_102 : decode b_Se_run 102 = .ok (.goto (-70), 3) := by decide +kernel
theorem d_Se_run_105 : decode b_Se_run 105 = .ok (.return_, 1) := by decide +kernel
theorem d_Ar_fill_aBB_0 : decode b_Ar_fill_aBB 0 = .ok (.iconst 0, 1) := by decide +kernel
theorem d_Ar_fill_aBB_1 : decode b_Ar_fill_aBB 1 = .ok (.istore_n 2, 1) := by decide +kernel
theorem d_Ar_fill_aBB_2 : decode b_Ar_fill_aBB 2 = .ok (.aload_n 0, 1) := by decide +kernel
theorem d_Ar_fill_aBB_3 : decode b_Ar_fill_aBB 3 = .ok (.arraylength, 1) := by decide +kernel
theorem d_Ar_fill_aBB_4 : decode b_Ar_fill_aBB 4 = .ok (.istore_n 3, 1) := by decide +kernel
theorem d_Ar_fill_aBB_5 : decode b_Ar_fill_aBB 5 = .ok (.iload_n 2, 1) := by decide +kernel
theorem d_Ar_fill_aBB_6 : decode b_Ar_fill_aBB 6 = .ok (.iload_n 3, 1) := by decide +kernel
theorem d_Ar_fill_aBB_7 : decode b_Ar_fill_aBB 7 = .ok (.if_icmp .ge 13, 3) := by decide +kernel
theorem d_Ar_fill_aBB_10 : decode b_Ar_fill_aBB 10 = .ok (.aload_n 0, 1) := by decide +kernel
theorem d_Ar_fill_aBB_11 : decode b_Ar_fill_aBB 11 = .ok (.iload_n 2, 1) := by decide +kernel
theorem d_Ar_fill_aBB_12 : decode b_Ar_fill_aBB 12 = .ok (.iload_n 1, 1) := by decide +kernel
theorem d_Ar_fill_aBB_13 : decode b_Ar_fill_aBB 13 = .ok (.bastore, 1) := by decide +kernel
theorem d_Ar_fill_aBB_14 : decode b_Ar_fill_aBB 14 = .ok (.iinc 2 1, 3) := by decide +kernel
theorem d_Ar_fill_aBB_17 : decode b_Ar_fill_aBB 17 = .ok (.goto (-12), 3) := by decide +kernel
theorem d_Ar_fill_aBB_20 : decode b_Ar_fill_aBB 20 = .ok (.return_, 1) := by decide +kernel
theorem d_Se_addNode_0 : decode b_Se_addNode 0 = .ok (.aload_n 0, 1) := by decide +kernel
theorem d_Se_addNode_1 : decode b_Se_addNode 1 = .ok (.getfield 15, 3) := by decide +kernel
theorem d_Se_addNode_4 : decode b_Se_addNode 4 = .ok (.aload_n 0, 1) := by decide +kernel
theorem d_Se_addNode_5 : decode b_Se_addNode 5 = .ok (.getfield 9, 3) := by decide +kernel
theorem d_Se_addNode_8 : decode b_Se_addNode 8 = .ok (.iload_n 1, 1) := by decide +kernel
theorem d_Se_addNode_9 : decode b_Se_addNode 9 = .ok (.iastore, 1) := by decide +kernel
theorem d_Se_addNode_10 : decode b_Se_addNode 10 = .ok (.aload_n 0, 1) := by decide +kernel
theorem d_Se_addNode_11 : decode b_Se_addNode 11 = .ok (.getfield 28, 3) := by decide +kernel
theorem d_Se_addNode_14 : decode b_Se_addNode 14 = .ok (.aload_n 0, 1) := by decide +kernel
theorem d_Se_addNode_15 : decode b_Se_addNode 15 = .ok (.getfield 9, 3) := by decide +kernel
theorem d_Se_addNode_18 : decode b_Se_addNode 18 = .ok (.iload_n 2, 1) := by decide +kernel
theorem d_Se_addNode_19 : decode b_Se_addNode 19 = .ok (.iastore, 1) := by decide +kernel
theorem d_Se_addNode_20 : decode b_Se_addNode 20 = .ok (.aload_n 0, 1) := by decide +kernel
theorem d_Se_addNode_21 : decode b_Se_addNode 21 = .ok (.getfield 19, 3) := by decide +kernel
theorem d_Se_addNode_24 : decode b_Se_addNode 24 = .ok (.aload_n 0, 1) := by decide +kernel
theorem d_Se_addNode_25 : decode b_Se_addNode 25 = .ok (.getfield 9, 3) := by decide +kernel
theorem d_Se_addNode_28 : decode b_Se_addNode 28 = .ok (.aload_n 0, 1) := by decide +kernel
theorem d_Se_addNode_29 : decode b_Se_addNode 29 = .ok (.getfield 52, 3) := by decide +kernel
theorem d_Se_addNode_32 : decode b_Se_addNode 32 = .ok (.iload_n 2, 1) := by decide +kernel
theorem d_Se_addNode_33 : decode b_Se_addNode 33 = .ok (.invokevirtual 127, 3) := by decide +kernel
theorem d_Se_addNode_36 : decode b_Se_addNode 36 = .ok (.iastore, 1) := by decide +kernel
theorem d_Se_addNode_37 : decode b_Se_addNode 37 = .ok (.aload_n 0, 1) := by decide +kernel
theorem d_Se_addNode_38 : decode b_Se_addNode 38 = .ok (.getfield 22, 3) := by decide +kernel
theorem d_Se_addNode_41 : decode b_Se_addNode 41 = .ok (.aload_n 0, 1) := by decide +kernel
theorem d_Se_addNode_42 : decode b_Se_addNode 42 = .ok (.getfield 9, 3) := by decide +kernel
theorem d_Se_addNode_45 : decode b_Se_addNode 45 = .ok (.iload_n 3, 1) := by decide +kernel
theorem d_Se_addNode_46 : decode b_Se_addNode 46 = .ok (.iastore, 1) := by decide +kernel
theorem d_Se_addNode_47 : decode b_Se_addNode 47 = .ok (.aload_n 0, 1) := by decide +kernel
theorem d_Se_addNode_48 : decode b_Se_addNode 48 = .ok (.getfield 25, 3) := by decide +kernel
theorem d_Se_addNode_51 : decode b_Se_addNode 51 = .ok (.aload_n 0, 1) := by decide +kernel
theorem d_Se_addNode_52 : decode b_Se_addNode 52 = .ok (.getfield 9, 3) := by decide +kernel
theorem d_Se_addNode_55 : decode b_Se_addNode 55 = .ok (.iload 4, 2) := by decide +kernel
theorem d_Se_addNode_57 : decode b_Se_addNode 57 = .ok (.iastore, 1) := by decide +kernel
theorem d_Se_addNode_58 : decode b_Se_addNode 58 = .ok (.aload_n 0, 1) := by decide +kernel
theorem d_Se_addNode_59 : decode b_Se_addNode 59 = .ok (.getfield 31, 3) := by decide +kernel
theorem d_Se_addNode_62 : decode b_Se_addNode 62 = .ok (.aload_n 0, 1) := by decide +kernel
theorem d_Se_addNode_63 : decode b_Se_addNode 63 = .ok (.getfield 9, 3) := by decide +kernel
theorem d_Se_addNode_66 : decode b_Se_addNode 66 = .ok (.iload_n 3, 1) := by decide +kernel
theorem d_Se_addNode_67 : decode b_Se_addNode 67 = .ok (.ifCond .ge 7, 3) := by decide +kernel
theorem d_Se_addNode_70 : decode b_Se_addNode 70 = .ok (.iconst 0, 1) := by decide +kernel
theorem d_Se_addNode_71 : decode b_Se_addNode 71 = .ok (.goto 11, 3) := by decide +kernel
theorem d_Se_addNode_74 : decode b_Se_addNode 74 = .ok (.aload_n 0, 1) := by decide +kernel
theorem d_Se_addNode_75 : decode b_Se_addNode 75 = .ok (.getfield 31, 3) := by decide +kernel
theorem d_Se_addNode_78 : decode b_Se_addNode 78 = .ok (.iload_n 3, 1) := by decide +kernel
theorem d_Se_addNode_79 : decode b_Se_addNode 79 = .ok (.iaload, 1) := by decide +kernel
theorem d_Se_addNode_80 : decode b_Se_addNode 80 = .ok (.iconst 1, 1) := by decide +kernel
theorem d_Se_addNode_81 : decode b_Se_addNode 81 = .ok (.iadd, 1) := by decide +kernel
theorem d_Se_addNode_82 : decode b_Se_addNode 82 = .ok (.iastore, 1) := by decide +kernel
theorem d_Se_addNode_83 : decode b_Se_addNode 83 = .ok (.aload_n 0, 1) := by decide +kernel
theorem d_Se_addNode_84 : decode b_Se_addNode 84 = .ok (.getfield 61, 3) := by decide +kernel
theorem d_Se_addNode_87 : decode b_Se_addNode 87 = .ok (.iload_n 1, 1) := by decide +kernel
theorem d_Se_addNode_88 : decode b_Se_addNode 88 = .ok (.aload_n 0, 1) := by decide +kernel
theorem d_Se_addNode_89 : decode b_Se_addNode 89 = .ok (.getfield 44, 3) := by decide +kernel
theorem d_Se_addNode_92 : decode b_Se_addNode 92 = .ok (.getfield 56, 3) := by decide +kernel
theorem d_Se_addNode_95 : decode b_Se_addNode 95 = .ok (.imul, 1) := by decide +kernel
theorem d_Se_addNode_96 : decode b_Se_addNode 96 = .ok (.iload_n 2, 1) := by decide +kernel
theorem d_Se_addNode_97 : decode b_Se_addNode 97 = .ok (.iadd, 1) := by decide +kernel
theorem d_Se_addNode_98 : decode b_Se_addNode 98 = .ok (.iconst 1, 1) := by decide +kernel
theorem d_Se_addNode_99 : decode b_Se_addNode 99 = .ok (.bastore, 1) := by decide +kernel
theorem d_Se_addNode_100 : decode b_Se_addNode 100 = .ok (.aload_n 0, 1) := by decide +kernel
theorem d_Se_addNode_101 : decode b_Se_addNode 101 = .ok (.dup, 1) := by decide +kernel
theorem d_Se_addNode_102 : decode b_Se_addNode 102 = .ok (.getfield 9, 3) := by decide +kernel
theorem d_Se_addNode_105 : decode b_Se_addNode 105 = .ok (.iconst 1, 1) := by decide +kernel
theorem d_Se_addNode_106 : decode b_Se_addNode 106 = .ok (.iadd, 1) := by decide +kernel
theorem d_Se_addNode_107 : decode b_Se_addNode 107 = .ok (.putfield 9, 3) := by decide +kernel
theorem d_Se_addNode_110 : decode b_Se_addNode 110 = .ok (.return_, 1) := by decide +kernel
theorem d_Gr_signatureOf_0 : decode b_Gr_signatureOf 0 = .ok (.aload_n 0, 1) := by decide +kernel
theorem d_Gr_signatureOf_1 : decode b_Gr_signatureOf 1 = .ok (.getfield 31, 3) := by decide +kernel
theorem d_Gr_signatureOf_4 : decode b_Gr_signatureOf 4 = .ok (.aload_n 0, 1) := by decide +kernel
theorem d_Gr_signatureOf_5 : decode b_Gr_signatureOf 5 = .ok (.getfield 37, 3) := by decide +kernel
theorem d_Gr_signatureOf_8 : decode b_Gr_signatureOf 8 = .ok (.aload_n 0, 1) := by decide +kernel
theorem d_Gr_signatureOf_9 : decode b_Gr_signatureOf 9 = .ok (.getfield 40, 3) := by decide +kernel
theorem d_Gr_signatureOf_12 : decode b_Gr_signatureOf 12 = .ok (.iload_n 1, 1) := by decide +kernel
theorem d_Gr_signatureOf_13 : decode b_Gr_signatureOf 13 = .ok (.iaload, 1) := by decide +kernel
theorem d_Gr_signatureOf_14 : decode b_Gr_signatureOf 14 = .ok (.iaload, 1) := by decide +kernel
theorem d_Gr_signatureOf_15 : decode b_Gr_signatureOf 15 = .ok (.iaload, 1) := by decide +kernel
theorem d_Gr_signatureOf_16 : decode b_Gr_signatureOf 16 = .ok (.ireturn, 1) := by decide +kernel
theorem d_Se_take_0 : decode b_Se_take 0 = .ok (.aload_n 0, 1) := by decide +kernel
theorem d_Se_take_1 : decode b_Se_take 1 = .ok (.aload_n 0, 1) := by decide +kernel
theorem d_Se_take_2 : decode b_Se_take 2 = .ok (.getfield 28, 3) := by decide +kernel
theorem d_Se_take_5 : decode b_Se_take 5 = .ok (.iload_n 1, 1) := by decide +kernel
theorem d_Se_take_6 : decode b_Se_take 6 = .ok (.iaload, 1) := by decide +kernel
theorem d_Se_take_7 : decode b_Se_take 7 = .ok (.iload_n 2, 1) := by decide +kernel
theorem d_Se_take_8 : decode b_Se_take 8 = .ok (.invokevirtual 96, 3) := by decide +kernel
theorem d_Se_take_11 : decode b_Se_take 11 = .ok (.aload_n 0, 1) := by decide +kernel
theorem d_Se_take_12 : decode b_Se_take 12 = .ok (.getfield 48, 3) := by decide +kernel
theorem d_Se_take_15 : decode b_Se_take 15 = .ok (.getfield 100, 3) := by decide +kernel
theorem d_Se_take_18 : decode b_Se_take 18 = .ok (.iload_n 2, 1) := by decide +kernel
theorem d_Se_take_19 : decode b_Se_take 19 = .ok (.iaload, 1) := by decide +kernel
theorem d_Se_take_20 : decode b_Se_take 20 = .ok (.istore_n 3, 1) := by decide +kernel
theorem d_Se_take_21 : decode b_Se_take 21 = .ok (.iconst 0, 1) := by decide +kernel
theorem d_Se_take_22 : decode b_Se_take 22 = .ok (.istore 4, 2) := by decide +kernel
theorem d_Se_take_24 : decode b_Se_take 24 = .ok (.iload 4, 2) := by decide +kernel
theorem d_Se_take_26 : decode b_Se_take 26 = .ok (.aload_n 0, 1) := by decide +kernel
theorem d_Se_take_27 : decode b_Se_take 27 = .ok (.getfield 52, 3) := by decide +kernel
theorem d_Se_take_30 : decode b_Se_take 30 = .ok (.getfield 103, 3) := by decide +kernel
theorem d_Se_take_33 : decode b_Se_take 33 = .ok (.if_icmp .ge 85, 3) := by decide +kernel
theorem d_Se_take_36 : decode b_Se_take 36 = .ok (.aload_n 0, 1) := by decide +kernel
theorem d_Se_take_37 : decode b_Se_take 37 = .ok (.getfield 65, 3) := by decide +kernel
theorem d_Se_take_40 : decode b_Se_take 40 = .ok (.iload 4, 2) := by decide +kernel
theorem d_Se_take_42 : decode b_Se_take 42 = .ok (.baload, 1) := by decide +kernel
theorem d_Se_take_43 : decode b_Se_take 43 = .ok (.ifCond .eq 69, 3) := by decide +kernel
theorem d_Se_take_46 : decode b_Se_take 46 = .ok (.aload_n 0, 1) := by decide +kernel
theorem d_Se_take_47 : decode b_Se_take 47 = .ok (.getfield 61, 3) := by decide +kernel
theorem d_Se_take_50 : decode b_Se_take 50 = .ok (.iload_n 3, 1) := by decide +kernel
theorem d_Se_take_51 : decode b_Se_take 51 = .ok (.aload_n 0, 1) := by decide +kernel
theorem d_Se_take_52 : decode b_Se_take 52 = .ok (.getfield 44, 3) := by decide +kernel
theorem d_Se_take_55 : decode b_Se_take 55 = .ok (.getfield 56, 3) := by decide +kernel
theorem d_Se_take_58 : decode b_Se_take 58 = .ok (.imul, 1) := by decide +kernel
theorem d_Se_take_59 : decode b_Se_take 59 = .ok (.iload 4, 2) := by decide +kernel
theorem d_Se_take_61 : decode b_Se_take 61 = .ok (.iadd, 1) := by decide +kernel
theorem d_Se_take_62 : decode b_Se_take 62 = .ok (.baload, 1) := by decide +kernel
theorem d_Se_take_63 : decode b_Se_take 63 = .ok (.ifCond .eq 6, 3) := by decide +kernel
theorem d_Se_take_66 : decode b_Se_take 66 = .ok (.goto 46, 3) := by decide +kernel
theorem d_Se_take_69 : decode b_Se_take 69 = .ok (.aload_n 0, 1) := by decide +kernel
theorem d_Se_take_70 : decode b_Se_take 70 = .ok (.getfield 9, 3) := by decide +kernel
theorem d_Se_take_73 : decode b_Se_take 73 = .ok (.sipush 200, 3) := by decide +kernel
theorem d_Se_take_76 : decode b_Se_take 76 = .ok (.if_icmp .lt 10, 3) := by decide +kernel
theorem d_Se_take_79 : decode b_Se_take 79 = .ok (.aload_n 0, 1) := by decide +kernel
theorem d_Se_take_80 : decode b_Se_take 80 = .ok (.iconst 1, 1) := by decide +kernel
theorem d_Se_take_81 : decode b_Se_take 81 = .ok (.putfield 34, 3) := by decide +kernel
theorem d_Se_take_84 : decode b_Se_take 84 = .ok (.iconst 1, 1) := by decide +kernel
theorem d_Se_take_85 : decode b_Se_take 85 = .ok (.ireturn, 1) := by decide +kernel
theorem d_Se_take_86 : decode b_Se_take 86 = .ok (.aload_n 0, 1) := by decide +kernel
theorem d_Se_take_87 : decode b_Se_take 87 = .ok (.iload_n 3, 1) := by decide +kernel
theorem d_Se_take_88 : decode b_Se_take 88 = .ok (.iload 4, 2) := by decide +kernel
theorem d_Se_take_90 : decode b_Se_take 90 = .ok (.iload_n 1, 1) := by decide +kernel
theorem d_Se_take_91 : decode b_Se_take 91 = .ok (.iload_n 2, 1) := by decide +kernel
theorem d_Se_take_92 : decode b_Se_take 92 = .ok (.invokevirtual 82, 3) := by decide +kernel
theorem d_Se_take_95 : decode b_Se_take 95 = .ok (.iload_n 3, 1) := by decide +kernel
theorem d_Se_take_96 : decode b_Se_take 96 = .ok (.iconst 1, 1) := by decide +kernel
theorem d_Se_take_97 : decode b_Se_take 97 = .ok (.if_icmp .ne 15, 3) := by decide +kernel
theorem d_Se_take_100 : decode b_Se_take 100 = .ok (.aload_n 0, 1) := by decide +kernel
theorem d_Se_take_101 : decode b_Se_take 101 = .ok (.aload_n 0, 1) := by decide +kernel
theorem d_Se_take_102 : decode b_Se_take 102 = .ok (.getfield 9, 3) := by decide +kernel
theorem d_Se_take_105 : decode b_Se_take 105 = .ok (.iconst 1, 1) := by decide +kernel
theorem d_Se_take_106 : decode b_Se_take 106 = .ok (.isub, 1) := by decide +kernel
theorem d_Se_take_107 : decode b_Se_take 107 = .ok (.invokevirtual 106, 3) := by decide +kernel
theorem d_Se_take_110 : decode b_Se_take 110 = .ok (.iconst 1, 1) := by decide +kernel
theorem d_Se_take_111 : decode b_Se_take 111 = .ok (.ireturn, 1) := by decide +kernel
theorem d_Se_take_112 : decode b_Se_take 112 = .ok (.iinc 4 1, 3) := by decide +kernel
theorem d_Se_take_115 : decode b_Se_take 115 = .ok (.goto (-91), 3) := by decide +kernel
theorem d_Se_take_118 : decode b_Se_take 118 = .ok (.iconst 0, 1) := by decide +kernel
theorem d_Se_take_119 : decode b_Se_take 119 = .ok (.ireturn, 1) := by decide +kernel
theorem d_Se_markReached_0 : decode b_Se_markReached 0 = .ok (.aload_n 0, 1) := by decide +kernel
theorem d_Se_markReached_1 : decode b_Se_markReached 1 = .ok (.getfield 65, 3) := by decide +kernel
theorem d_Se_markReached_4 : decode b_Se_markReached 4 = .ok (.iconst 0, 1) := by decide +kernel
theorem d_Se_markReached_5 : decode b_Se_markReached 5 = .ok (.aload_n 0, 1) := by decide +kernel
theorem d_Se_markReached_6 : decode b_Se_markReached 6 = .ok (.getfield 52, 3) := by decide +kernel
theorem d_Se_markReached_9 : decode b_Se_markReached 9 = .ok (.getfield 103, 3) := by decide +kernel
theorem d_Se_markReached_12 : decode b_Se_markReached 12 = .ok (.iconst 0, 1) := by decide +kernel
theorem d_Se_markReached_13 : decode b_Se_markReached 13 = .ok (.invokestatic 110, 3) := by decide +kernel
theorem d_Se_markReached_16 : decode b_Se_markReached 16 = .ok (.aload_n 0, 1) := by decide +kernel
theorem d_Se_markReached_17 : decode b_Se_markReached 17 = .ok (.getfield 48, 3) := by decide +kernel
theorem d_Se_markReached_20 : decode b_Se_markReached 20 = .ok (.iload_n 2, 1) := by decide +kernel
theorem d_Se_markReached_21 : decode b_Se_markReached 21 = .ok (.invokevirtual 113, 3) := by decide +kernel
theorem d_Se_markReached_24 : decode b_Se_markReached 24 = .ok (.istore_n 3, 1) := by decide +kernel
theorem d_Se_markReached_25 : decode b_Se_markReached 25 = .ok (.aload_n 0, 1) := by decide +kernel
theorem d_Se_markReached_26 : decode b_Se_markReached 26 = .ok (.getfield 52, 3) := by decide +kernel
theorem d_Se_markReached_29 : decode b_Se_markReached 29 = .ok (.getfield 117, 3) := by decide +kernel
theorem d_Se_markReached_32 : decode b_Se_markReached 32 = .ok (.iload_n 1, 1) := by decide +kernel
theorem d_Se_markReached_33 : decode b_Se_markReached 33 = .ok (.iaload, 1) := by decide +kernel
theorem d_Se_markReached_34 : decode b_Se_markReached 34 = .ok (.istore 4, 2) := by decide +kernel
theorem d_Se_markReached_36 : decode b_Se_markReached 36 = .ok (.iload 4, 2) := by decide +kernel
theorem d_Se_markReached_38 : decode b_Se_markReached 38 = .ok (.aload_n 0, 1) := by decide +kernel
theorem d_Se_markReached_39 : decode b_Se_markReached 39 = .ok (.getfield 52, 3) := by decide +kernel
theorem d_Se_markReached_42 : decode b_Se_markReached 42 = .ok (.getfield 117, 3) := by decide +kernel
theorem d_Se_markReached_45 : decode b_Se_markReached 45 = .ok (.iload_n 1, 1) := by decide +kernel
theorem d_Se_markReached_46 : decode b_Se_markReached 46 = .ok (.iconst 1, 1) := by decide +kernel
theorem d_Se_markReached_47 : decode b_Se_markReached 47 = .ok (.iadd, 1) := by decide +kernel
theorem d_Se_markReached_48 : decode b_Se_markReached 48 = .ok (.iaload, 1) := by decide +kernel
theorem d_Se_markReached_49 : decode b_Se_markReached 49 = .ok (.if_icmp .ge 67, 3) := by decide +kernel
theorem d_Se_markReached_52 : decode b_Se_markReached 52 = .ok (.iconst 0, 1) := by decide +kernel
theorem d_Se_markReached_53 : decode b_Se_markReached 53 = .ok (.istore 5, 2) := by decide +kernel
theorem d_Se_markReached_55 : decode b_Se_markReached 55 = .ok (.iload 5, 2) := by decide +kernel
theorem d_Se_markReached_57 : decode b_Se_markReached 57 = .ok (.iload_n 3, 1) := by decide +kernel
theorem d_Se_markReached_58 : decode b_Se_markReached 58 = .ok (.if_icmp .ge 52, 3) := by decide +kernel
theorem d_Se_markReached_61 : decode b_Se_markReached 61 = .ok (.aload_n 0, 1) := by decide +kernel
theorem d_Se_markReached_62 : decode b_Se_markReached 62 = .ok (.getfield 48, 3) := by decide +kernel
theorem d_Se_markReached_65 : decode b_Se_markReached 65 = .ok (.iload_n 2, 1) := by decide +kernel
theorem d_Se_markReached_66 : decode b_Se_markReached 66 = .ok (.aload_n 0, 1) := by decide +kernel
theorem d_Se_markReached_67 : decode b_Se_markReached 67 = .ok (.getfield 52, 3) := by decide +kernel
theorem d_Se_markReached_70 : decode b_Se_markReached 70 = .ok (.getfield 120, 3) := by decide +kernel
theorem d_Se_markReached_73 : decode b_Se_markReached 73 = .ok (.iload 4, 2) := by decide +kernel
theorem d_Se_markReached_75 : decode b_Se_markReached 75 = .ok (.iaload, 1) := by decide +kernel
theorem d_Se_markReached_76 : decode b_Se_markReached 76 = .ok (.iload 5, 2) := by decide +kernel
theorem d_Se_markReached_78 : decode b_Se_markReached 78 = .ok (.invokevirtual 123, 3) := by decide +kernel
theorem d_Se_markReached_81 : decode b_Se_markReached 81 = .ok (.istore 6, 2) := by decide +kernel
theorem d_Se_markReached_83 : decode b_Se_markReached 83 = .ok (.iload 6, 2) := by decide +kernel
theorem d_Se_markReached_85 : decode b_Se_markReached 85 = .ok (.ifCond .lt 19, 3) := by decide +kernel
theorem d_Se_markReached_88 : decode b_Se_markReached 88 = .ok (.aload_n 0, 1) := by decide +kernel
theorem d_Se_markReached_89 : decode b_Se_markReached 89 = .ok (.getfield 65, 3) := by decide +kernel
theorem d_Se_markReached_92 : decode b_Se_markReached 92 = .ok (.aload_n 0, 1) := by decide +kernel
theorem d_Se_markReached_93 : decode b_Se_markReached 93 = .ok (.getfield 52, 3) := by decide +kernel
theorem d_Se_markReached_96 : decode b_Se_markReached 96 = .ok (.getfield 77, 3) := by decide +kernel
theorem d_Se_markReached_99 : decode b_Se_markReached 99 = .ok (.iload 6, 2) := by decide +kernel
theorem d_Se_markReached_101 : decode b_Se_markReached 101 = .ok (.iaload, 1) := by decide +kernel
theorem d_Se_markReached_102 : decode b_Se_markReached 102 = .ok (.iconst 1, 1) := by decide +kernel
theorem d_Se_markReached_103 : decode b_Se_markReached 103 = .ok (.bastore, 1) := by decide +kernel
theorem d_Se_markReached_104 : decode b_Se_markReached 104 = .ok (.iinc 5 1, 3) := by decide +kernel
theorem d_Se_markReached_107 : decode b_Se_markReached 107 = .ok (.goto (-52), 3) := by decide +kernel
theorem d_Se_markReached_110 : decode b_Se_markReached 110 = .ok (.iinc 4 1, 3) := by decide +kernel
theorem d_Se_markReached_113 : decode b_Se_markReached 113 = .ok (.goto (-77), 3) := by decide +kernel
theorem d_Se_markReached_116 : decode b_Se_markReached 116 = .ok (.return_, 1) := by decide +kernel
theorem d_Ar_fill_aBIIB_0 : decode b_Ar_fill_aBIIB 0 = .ok (.aload_n 0, 1) := by decide +kernel
theorem d_Ar_fill_aBIIB_1 : decode b_Ar_fill_aBIIB 1 = .ok (.arraylength, 1) := by decide +kernel
theorem d_Ar_fill_aBIIB_2 : decode b_Ar_fill_aBIIB 2 = .ok (.iload_n 1, 1) := by decide +kernel
theorem d_Ar_fill_aBIIB_3 : decode b_Ar_fill_aBIIB 3 = .ok (.iload_n 2, 1) := by decide +kernel
theorem d_Ar_fill_aBIIB_4 : decode b_Ar_fill_aBIIB 4 = .ok (.invokestatic 13, 3) := by decide +kernel
theorem d_Ar_fill_aBIIB_7 : decode b_Ar_fill_aBIIB 7 = .ok (.iload_n 1, 1) := by decide +kernel
theorem d_Ar_fill_aBIIB_8 : decode b_Ar_fill_aBIIB 8 = .ok (.istore 4, 2) := by decide +kernel
theorem d_Ar_fill_aBIIB_10 : decode b_Ar_fill_aBIIB 10 = .ok (.iload 4, 2) := by decide +kernel
theorem d_Ar_fill_aBIIB_12 : decode b_Ar_fill_aBIIB 12 = .ok (.iload_n 2, 1) := by decide +kernel
theorem d_Ar_fill_aBIIB_13 : decode b_Ar_fill_aBIIB 13 = .ok (.if_icmp .ge 14, 3) := by decide +kernel
theorem d_Ar_fill_aBIIB_16 : decode b_Ar_fill_aBIIB 16 = .ok (.aload_n 0, 1) := by decide +kernel
theorem d_Ar_fill_aBIIB_17 : decode b_Ar_fill_aBIIB 17 = .ok (.iload 4, 2) := by decide +kernel
theorem d_Ar_fill_aBIIB_19 : decode b_Ar_fill_aBIIB 19 = .ok (.iload_n 3, 1) := by decide +kernel
theorem d_Ar_fill_aBIIB_20 : decode b_Ar_fill_aBIIB 20 = .ok (.bastore, 1) := by decide +kernel
theorem d_Ar_fill_aBIIB_21 : decode b_Ar_fill_aBIIB 21 = .ok (.iinc 4 1, 3) := by decide +kernel
theorem d_Ar_fill_aBIIB_24 : decode b_Ar_fill_aBIIB 24 = .ok (.goto (-14), 3) := by decide +kernel
theorem d_Ar_fill_aBIIB_27 : decode b_Ar_fill_aBIIB 27 = .ok (.return_, 1) := by decide +kernel
