theorem d_Mo_along_71 : decode b_Mo_along 71 = .ok (.aload_n 0, 1) := by decide +kernel
theorem d_Mo_along_72 : decode b_Mo_along 72 = .ok (.iload_n 2, 1) := by decide +kernel
theorem d_Mo_along_73 : decode b_Mo_along 73 = .ok (.putfield 190, 3) := by decide +kernel
theorem d_Mo_along_76 : decode b_Mo_along 76 = .ok (.aload_n 0, 1) := by decide +kernel
theorem d_Mo_along_77 : decode b_Mo_along 77 = .ok (.getfield 19, 3) := by decide +kernel
theorem d_Mo_along_80 : decode b_Mo_along 80 = .ok (.iload_n 1, 1) := by decide +kernel
theorem d_Mo_along_81 : decode b_Mo_along 81 = .ok (.iaload, 1) := by decide +kernel
theorem d_Mo_along_82 : decode b_Mo_along 82 = .ok (.iconst 2, 1) := by decide +kernel
theorem d_Mo_along_83 : decode b_Mo_along 83 = .ok (.if_icmp .eq 4, 3) := by decide +kernel
theorem d_Mo_along_86 : decode b_Mo_along 86 = .ok (.return_, 1) := by decide +kernel
theorem d_Mo_along_87 : decode b_Mo_along 87 = .ok (.iconst 0, 1) := by decide +kernel
theorem d_Mo_along_88 : decode b_Mo_along 88 = .ok (.istore_n 3, 1) := by decide +kernel
theorem d_Mo_along_89 : decode b_Mo_along 89 = .ok (.iload_n 3, 1) := by decide +kernel
theorem d_Mo_along_90 : decode b_Mo_along 90 = .ok (.aload_n 0, 1) := by decide +kernel
theorem d_Mo_along_91 : decode b_Mo_along 91 = .ok (.getfield 82, 3) := by decide +kernel
theorem d_Mo_along_94 : decode b_Mo_along 94 = .ok (.if_icmp .ge 21, 3) := by decide +kernel
theorem d_Mo_along_97 : decode b_Mo_along 97 = .ok (.aload_n 0, 1) := by decide +kernel
theorem d_Mo_along_98 : decode b_Mo_along 98 = .ok (.getfield 66, 3) := by decide +kernel
theorem d_Mo_along_101 : decode b_Mo_along 101 = .ok (.iload_n 3, 1) := by decide +kernel
theorem d_Mo_along_102 : decode b_Mo_along 102 = .ok (.aload_n 0, 1) := by decide +kernel
theorem d_Mo_along_103 : decode b_Mo_along 103 = .ok (.iload_n 1, 1) := by decide +kernel
theorem d_Mo_along_104 : decode b_Mo_along 104 = .ok (.iload_n 3, 1) := by decide +kernel
theorem d_Mo_along_105 : decode b_Mo_along 105 = .ok (.invokevirtual 164, 3) := by decide +kernel
theorem d_Mo_along_108 : decode b_Mo_along 108 = .ok (.bastore, 1) := by decide +kernel
theorem d_Mo_along_109 : decode b_Mo_along 109 = .ok (.iinc 3 1, 3) := by decide +kernel
theorem d_Mo_along_112 : decode b_Mo_along 112 = .ok (.goto (-23), 3) := by decide +kernel
theorem d_Mo_along_115 : decode b_Mo_along 115 = .ok (.aload_n 0, 1) := by decide +kernel
theorem d_Mo_along_116 : decode b_Mo_along 116 = .ok (.aload_n 0, 1) := by decide +kernel
theorem d_Mo_along_117 : decode b_Mo_along 117 = .ok (.getfield 190, 3) := by decide +kernel
theorem d_Mo_along_120 : decode b_Mo_along 120 = .ok (.invokevirtual 183, 3) := by decide +kernel
theorem d_Mo_along_123 : decode b_Mo_along 123 = .ok (.aload_n 0, 1) := by decide +kernel
theorem d_Mo_along_124 : decode b_Mo_along 124 = .ok (.dup, 1) := by decide +kernel
theorem d_Mo_along_125 : decode b_Mo_along 125 = .ok (.getfield 190, 3) := by decide +kernel
theorem d_Mo_along_128 : decode b_Mo_along 128 = .ok (.iconst 1, 1) := by decide +kernel
theorem d_Mo_along_129 : decode b_Mo_along 129 = .ok (.iadd, 1) := by decide +kernel
theorem d_Mo_along_130 : decode b_Mo_along 130 = .ok (.putfield 190, 3) := by decide +kernel
theorem d_Mo_along_133 : decode b_Mo_along 133 = .ok (.return_, 1) := by decide +kernel
theorem d_Mo_fetch_0 : decode b_Mo_fetch 0 = .ok (.iconst 0, 1) := by decide +kernel
theorem d_Mo_fetch_1 : decode b_Mo_fetch 1 = .ok (.istore_n 2, 1) := by decide +kernel
theorem d_Mo_fetch_2 : decode b_Mo_fetch 2 = .ok (.iload_n 2, 1) := by decide +kernel
theorem d_Mo_fetch_3 : decode b_Mo_fetch 3 = .ok (.aload_n 0, 1) := by decide +kernel
theorem d_Mo_fetch_4 : decode b_Mo_fetch 4 = .ok (.getfield 82, 3) := by decide +kernel
theorem d_Mo_fetch_7 : decode b_Mo_fetch 7 = .ok (.if_icmp .ge 21, 3) := by decide +kernel
theorem d_Mo_fetch_10 : decode b_Mo_fetch 10 = .ok (.aload_n 0, 1) := by decide +kernel
theorem d_Mo_fetch_11 : decode b_Mo_fetch 11 = .ok (.getfield 66, 3) := by decide +kernel
theorem d_Mo_fetch_14 : decode b_Mo_fetch 14 = .ok (.iload_n 2, 1) := by decide +kernel
theorem d_Mo_fetch_15 : decode b_Mo_fetch 15 = .ok (.aload_n 0, 1) := by decide +kernel
theorem d_Mo_fetch_16 : decode b_Mo_fetch 16 = .ok (.iload_n 1, 1) := by decide +kernel
theorem d_Mo_fetch_17 : decode b_Mo_fetch 17 = .ok (.iload_n 2, 1) := by decide +kernel
theorem d_Mo_fetch_18 : decode b_Mo_fetch 18 = .ok (.invokevirtual 180, 3) := by decide +kernel
theorem d_Mo_fetch_21 : decode b_Mo_fetch 21 = .ok (.bastore, 1) := by decide +kernel
theorem d_Mo_fetch_22 : decode b_Mo_fetch 22 = .ok (.iinc 2 1, 3) := by decide +kernel
theorem d_Mo_fetch_25 : decode b_Mo_fetch 25 = .ok (.goto (-23), 3) := by decide +kernel
theorem d_Mo_fetch_28 : decode b_Mo_fetch 28 = .ok (.return_, 1) := by decide +kernel
theorem d_Mo_hangsOn_0 : decode b_Mo_hangsOn 0 = .ok (.iconst 0, 1) := by decide +kernel
theorem d_Mo_hangsOn_1 : decode b_Mo_hangsOn 1 = .ok (.istore_n 2, 1) := by decide +kernel
theorem d_Mo_hangsOn_2 : decode b_Mo_hangsOn 2 = .ok (.iconst 0, 1) := by decide +kernel
theorem d_Mo_hangsOn_3 : decode b_Mo_hangsOn 3 = .ok (.istore_n 3, 1) := by decide +kernel
theorem d_Mo_hangsOn_4 : decode b_Mo_hangsOn 4 = .ok (.iload_n 3, 1) := by decide +kernel
theorem d_Mo_hangsOn_5 : decode b_Mo_hangsOn 5 = .ok (.aload_n 0, 1) := by decide +kernel
theorem d_Mo_hangsOn_6 : decode b_Mo_hangsOn 6 = .ok (.getfield 82, 3) := by decide +kernel
theorem d_Mo_hangsOn_9 : decode b_Mo_hangsOn 9 = .ok (.if_icmp .ge 40, 3) := by decide +kernel
theorem d_Mo_hangsOn_12 : decode b_Mo_hangsOn 12 = .ok (.iload_n 2, 1) := by decide +kernel
theorem d_Mo_hangsOn_13 : decode b_Mo_hangsOn 13 = .ok (.ifCond .ne 24, 3) := by decide +kernel
theorem d_Mo_hangsOn_16 : decode b_Mo_hangsOn 16 = .ok (.aload_n 0, 1) := by decide +kernel
theorem d_Mo_hangsOn_17 : decode b_Mo_hangsOn 17 = .ok (.getfield 66, 3) := by decide +kernel
theorem d_Mo_hangsOn_20 : decode b_Mo_hangsOn 20 = .ok (.iload_n 3, 1) := by decide +kernel
theorem d_Mo_hangsOn_21 : decode b_Mo_hangsOn 21 = .ok (.baload, 1) := by decide +kernel
theorem d_Mo_hangsOn_22 : decode b_Mo_hangsOn 22 = .ok (.aload_n 0, 1) := by decide +kernel
theorem d_Mo_hangsOn_23 : decode b_Mo_hangsOn 23 = .ok (.getfield 66, 3) := by decide +kernel
theorem d_Mo_hangsOn_26 : decode b_Mo_hangsOn 26 = .ok (.aload_n 0, 1) := by decide +kernel
theorem d_Mo_hangsOn_27 : decode b_Mo_hangsOn 27 = .ok (.iload_n 3, 1) := by decide +kernel
theorem d_Mo_hangsOn_28 : decode b_Mo_hangsOn 28 = .ok (.iload_n 1, 1) := by decide +kernel
theorem d_Mo_hangsOn_29 : decode b_Mo_hangsOn 29 = .ok (.iconst 0, 1) := by decide +kernel
theorem d_Mo_hangsOn_30 : decode b_Mo_hangsOn 30 = .ok (.invokevirtual 152, 3) := by decide +kernel
theorem d_Mo_hangsOn_33 : decode b_Mo_hangsOn 33 = .ok (.baload, 1) := by decide +kernel
theorem d_Mo_hangsOn_34 : decode b_Mo_hangsOn 34 = .ok (.if_icmp .eq 7, 3) := by decide +kernel
theorem d_Mo_hangsOn_37 : decode b_Mo_hangsOn 37 = .ok (.iconst 1, 1) := by decide +kernel
theorem d_Mo_hangsOn_38 : decode b_Mo_hangsOn 38 = .ok (.goto 4, 3) := by decide +kernel
theorem d_Mo_hangsOn_41 : decode b_Mo_hangsOn 41 = .ok (.iconst 0, 1) := by decide +kernel
theorem d_Mo_hangsOn_42 : decode b_Mo_hangsOn 42 = .ok (.istore_n 2, 1) := by decide +kernel
theorem d_Mo_hangsOn_43 : decode b_Mo_hangsOn 43 = .ok (.iinc 3 1, 3) := by decide +kernel
theorem d_Mo_hangsOn_46 : decode b_Mo_hangsOn 46 = .ok (.goto (-42), 3) := by decide +kernel
theorem d_Mo_hangsOn_49 : decode b_Mo_hangsOn 49 = .ok (.iload_n 2, 1) := by decide +kernel
theorem d_Mo_hangsOn_50 : decode b_Mo_hangsOn 50 = .ok (.ireturn, 1) := by decide +kernel
theorem d_Mo_offer_0 : decode b_Mo_offer 0 = .ok (.aload_n 0, 1) := by decide +kernel
theorem d_Mo_offer_1 : decode b_Mo_offer 1 = .ok (.invokevirtual 199, 3) := by decide +kernel
theorem d_Mo_offer_4 : decode b_Mo_offer 4 = .ok (.ifCond .ne 5, 3) := by decide +kernel
theorem d_Mo_offer_7 : decode b_Mo_offer 7 = .ok (.iconst 0, 1) := by decide +kernel
theorem d_Mo_offer_8 : decode b_Mo_offer 8 = .ok (.ireturn, 1) := by decide +kernel
theorem d_Mo_offer_9 : decode b_Mo_offer 9 = .ok (.aload_n 0, 1) := by decide +kernel
theorem d_Mo_offer_10 : decode b_Mo_offer 10 = .ok (.getfield 155, 3) := by decide +kernel
theorem d_Mo_offer_13 : decode b_Mo_offer 13 = .ok (.bipush 12, 2) := by decide +kernel
theorem d_Mo_offer_15 : decode b_Mo_offer 15 = .ok (.if_icmp .ne 5, 3) := by decide +kernel
theorem d_Mo_offer_18 : decode b_Mo_offer 18 = .ok (.iconst 2, 1) := by decide +kernel
theorem d_Mo_offer_19 : decode b_Mo_offer 19 = .ok (.ireturn, 1) := by decide +kernel
theorem d_Mo_offer_20 : decode b_Mo_offer 20 = .ok (.aload_n 0, 1) := by decide +kernel
theorem d_Mo_offer_21 : decode b_Mo_offer 21 = .ok (.invokevirtual 158, 3) := by decide +kernel
theorem d_Mo_offer_24 : decode b_Mo_offer 24 = .ok (.iconst 1, 1) := by decide +kernel
theorem d_Mo_offer_25 : decode b_Mo_offer 25 = .ok (.ireturn, 1) := by decide +kernel
theorem d_Mo_splits_0 : decode b_Mo_splits 0 = .ok (.iconst 0, 1) := by decide +kernel
theorem d_Mo_splits_1 : decode b_Mo_splits 1 = .ok (.istore_n 1, 1) := by decide +kernel
theorem d_Mo_splits_2 : decode b_Mo_splits 2 = .ok (.iload_n 1, 1) := by decide +kernel
theorem d_Mo_splits_3 : decode b_Mo_splits 3 = .ok (.iconst 1, 1) := by decide +kernel
theorem d_Mo_splits_4 : decode b_Mo_splits 4 = .ok (.aload_n 0, 1) := by decide +kernel
theorem d_Mo_splits_5 : decode b_Mo_splits 5 = .ok (.getfield 155, 3) := by decide +kernel
theorem d_Mo_splits_8 : decode b_Mo_splits 8 = .ok (.ishl, 1) := by decide +kernel
theorem d_Mo_splits_9 : decode b_Mo_splits 9 = .ok (.if_icmp .ge 16, 3) := by decide +kernel
theorem d_Mo_splits_12 : decode b_Mo_splits 12 = .ok (.aload_n 0, 1) := by decide +kernel
theorem d_Mo_splits_13 : decode b_Mo_splits 13 = .ok (.getfield 60, 3) := by decide +kernel
theorem d_Mo_splits_16 : decode b_Mo_splits 16 = .ok (.iload_n 1, 1) := by decide +kernel
theorem d_Mo_splits_17 : decode b_Mo_splits 17 = .ok (.iconst 0, 1) := by decide +kernel
theorem d_Mo_splits_18 : decode b_Mo_splits 18 = .ok (.iastore, 1) := by decide +kernel
theorem d_Mo_splits_19 : decode b_Mo_splits 19 = .ok (.iinc 1 1, 3) := by decide +kernel
theorem d_Mo_splits_22 : decode b_Mo_splits 22 = .ok (.goto (-20), 3) := by decide +kernel
theorem d_Mo_splits_25 : decode b_Mo_splits 25 = .ok (.iconst 0, 1) := by decide +kernel
theorem d_Mo_splits_26 : decode b_Mo_splits 26 = .ok (.istore_n 1, 1) := by decide +kernel
theorem d_Mo_splits_27 : decode b_Mo_splits 27 = .ok (.iconst 0, 1) := by decide +kernel
theorem d_Mo_splits_28 : decode b_Mo_splits 28 = .ok (.istore_n 2, 1) := by decide +kernel
theorem d_Mo_splits_29 : decode b_Mo_splits 29 = .ok (.iload_n 2, 1) := by decide +kernel
theorem d_Mo_splits_30 : decode b_Mo_splits 30 = .ok (.aload_n 0, 1) := by decide +kernel
theorem d_Mo_splits_31 : decode b_Mo_splits 31 = .ok (.getfield 82, 3) := by decide +kernel
theorem d_Mo_splits_34 : decode b_Mo_splits 34 = .ok (.if_icmp .ge 62, 3) := by decide +kernel
theorem d_Mo_splits_37 : decode b_Mo_splits 37 = .ok (.aload_n 0, 1) := by decide +kernel
theorem d_Mo_splits_38 : decode b_Mo_splits 38 = .ok (.getfield 60, 3) := by decide +kernel
theorem d_Mo_splits_41 : decode b_Mo_splits 41 = .ok (.aload_n 0, 1) := by decide +kernel
theorem d_Mo_splits_42 : decode b_Mo_splits 42 = .ok (.getfield 32, 3) := by decide +kernel
theorem d_Mo_splits_45 : decode b_Mo_splits 45 = .ok (.iload_n 2, 1) := by decide +kernel
theorem d_Mo_splits_46 : decode b_Mo_splits 46 = .ok (.iaload, 1) := by decide +kernel
theorem d_Mo_splits_47 : decode b_Mo_splits 47 = .ok (.dup2, 1) := by decide +kernel
theorem d_Mo_splits_48 : decode b_Mo_splits 48 = .ok (.iaload, 1) := by decide +kernel
theorem d_Mo_splits_49 : decode b_Mo_splits 49 = .ok (.aload_n 0, 1) := by decide +kernel
theorem d_Mo_splits_50 : decode b_Mo_splits 50 = .ok (.getfield 66, 3) := by decide +kernel
theorem d_Mo_splits_53 : decode b_Mo_splits 53 = .ok (.iload_n 2, 1) := by decide +kernel
theorem d_Mo_splits_54 : decode b_Mo_splits 54 = .ok (.baload, 1) := by decide +kernel
theorem d_Mo_splits_55 : decode b_Mo_splits 55 = .ok (.ifCond .eq 7, 3) := by decide +kernel
theorem d_Mo_splits_58 : decode b_Mo_splits 58 = .ok (.iconst 1, 1) := by decide +kernel
theorem d_Mo_splits_59 : decode b_Mo_splits 59 = .ok (.goto 4, 3) := by decide +kernel
theorem d_Mo_splits_62 : decode b_Mo_splits 62 = .ok (.iconst 2, 1) := by decide +kernel
theorem d_Mo_splits_63 : decode b_Mo_splits 63 = .ok (.ior, 1) := by decide +kernel
theorem d_Mo_splits_64 : decode b_Mo_splits 64 = .ok (.iastore, 1) := by decide +kernel
theorem d_Mo_splits_65 : decode b_Mo_splits 65 = .ok (.iload_n 1, 1) := by decide +kernel
theorem d_Mo_splits_66 : decode b_Mo_splits 66 = .ok (.ifCond .ne 18, 3) := by decide +kernel
theorem d_Mo_splits_69 : decode b_Mo_splits 69 = .ok (.aload_n 0, 1) := by decide +kernel
theorem d_Mo_splits_70 : decode b_Mo_splits 70 = .ok (.getfield 60, 3) := by decide +kernel
theorem d_Mo_splits_73 : decode b_Mo_splits 73 = .ok (.aload_n 0, 1) := by decide +kernel
theorem d_Mo_splits_74 : decode b_Mo_splits 74 = .ok (.getfield 32, 3) := by decide +kernel
theorem d_Mo_splits_77 : decode b_Mo_splits 77 = .ok (.iload_n 2, 1) := by decide +kernel
theorem d_Mo_splits_78 : decode b_Mo_splits 78 = .ok (.iaload, 1) := by decide +kernel
theorem d_Mo_splits_79 : decode b_Mo_splits 79 = .ok (.iaload, 1) := by decide +kernel
theorem d_Mo_splits_80 : decode b_Mo_splits 80 = .ok (.iconst 3, 1) := by decide +kernel
theorem d_Mo_splits_81 : decode b_Mo_splits 81 = .ok (.if_icmp .ne 7, 3) := by decide +kernel
theorem d_Mo_splits_84 : decode b_Mo_splits 84 = .ok (.iconst 1, 1) := by decide +kernel
theorem d_Mo_splits_85 : decode b_Mo_splits 85 = .ok (.goto 4, 3) := by decide +kernel
theorem d_Mo_splits_88 : decode b_Mo_splits 88 = .ok (.iconst 0, 1) := by decide +kernel
theorem d_Mo_splits_89 : decode b_Mo_splits 89 = .ok (.istore_n 1, 1) := by decide +kernel
theorem d_Mo_splits_90 : decode b_Mo_splits 90 = .ok (.iinc 2 1, 3) := by decide +kernel
theorem d_Mo_splits_93 : decode b_Mo_splits 93 = .ok (.goto (-64), 3) := by decide +kernel
theorem d_Mo_splits_96 : decode b_Mo_splits 96 = .ok (.iload_n 1, 1) := by decide +kernel
theorem d_Mo_splits_97 : decode b_Mo_splits 97 = .ok (.ireturn, 1) := by decide +kernel
theorem d_Mo_outcome_0 : decode b_Mo_outcome 0 = .ok (.aload_n 0, 1) := by decide +kernel
theorem d_Mo_outcome_1 : decode b_Mo_outcome 1 = .ok (.iconst 0, 1) := by decide +kernel
theorem d_Mo_outcome_2 : decode b_Mo_outcome 2 = .ok (.putfield 85, 3) := by decide +kernel
theorem d_Mo_outcome_5 : decode b_Mo_outcome 5 = .ok (.aload_n 0, 1) := by decide +kernel
theorem d_Mo_outcome_6 : decode b_Mo_outcome 6 = .ok (.getfield 35, 3) := by decide +kernel
theorem d_Mo_outcome_9 : decode b_Mo_outcome 9 = .ok (.ireturn, 1) := by decide +kernel
theorem d_Mo_edges_0 : decode b_Mo_edges 0 = .ok (.aload_n 0, 1) := by decide +kernel
theorem d_Mo_edges_1 : decode b_Mo_edges 1 = .ok (.iconst 0, 1) := by decide +kernel
theorem d_Mo_edges_2 : decode b_Mo_edges 2 = .ok (.putfield 85, 3) := by decide +kernel
theorem d_Mo_edges_5 : decode b_Mo_edges 5 = .ok (.aload_n 0, 1) := by decide +kernel
theorem d_Mo_edges_6 : decode b_Mo_edges 6 = .ok (.getfield 138, 3) := by decide +kernel
theorem d_Mo_edges_9 : decode b_Mo_edges 9 = .ok (.ireturn, 1) := by decide +kernel
theorem d_Mo_predicates_0 : decode b_Mo_predicates 0 = .ok (.aload_n 0, 1) := by decide +kernel
theorem d_Mo_predicates_1 : decode b_Mo_predicates 1 = .ok (.iconst 0, 1) := by decide +kernel
theorem d_Mo_predicates_2 : decode b_Mo_predicates 2 = .ok (.putfield 85, 3) := by decide +kernel
theorem d_Mo_predicates_5 : decode b_Mo_predicates 5 = .ok (.aload_n 0, 1) := by decide +kernel
theorem d_Mo_predicates_6 : decode b_Mo_predicates 6 = .ok (.getfield 155, 3) := by decide +kernel
theorem d_Mo_predicates_9 : decode b_Mo_predicates 9 = .ok (.ireturn, 1) := by decide +kernel
theorem d_Mo_holds_0 : decode b_Mo_holds 0 = .ok (.aload_n 0, 1) := by decide +kernel
theorem d_Mo_holds_1 : decode b_Mo_holds 1 = .ok (.iconst 0, 1) := by decide +kernel
theorem d_Mo_holds_2 : decode b_Mo_holds 2 = .ok (.putfield 85, 3) := by decide +kernel
theorem d_Mo_holds_5 : decode b_Mo_holds 5 = .ok (.iload_n 1, 1) := by decide +kernel
theorem d_Mo_holds_6 : decode b_Mo_holds 6 = .ok (.ifCond .lt 41, 3) := by decide +kernel
theorem d_Mo_holds_9 : decode b_Mo_holds 9 = .ok (.iload_n 1, 1) := by decide +kernel
theorem d_Mo_holds_10 : decode b_Mo_holds 10 = .ok (.aload_n 0, 1) := by decide +kernel
theorem d_Mo_holds_11 : decode b_Mo_holds 11 = .ok (.getfield 155, 3) := by decide +kernel
theorem d_Mo_holds_14 : decode b_Mo_holds 14 = .ok (.if_icmp .ge 33, 3) := by decide +kernel
theorem d_Mo_holds_17 : decode b_Mo_holds 17 = .ok (.aload_n 0, 1) := by decide +kernel
theorem d_Mo_holds_18 : decode b_Mo_holds 18 = .ok (.iload_n 2, 1) := by decide +kernel
theorem d_Mo_holds_19 : decode b_Mo_holds 19 = .ok (.invokevirtual 219, 3) := by decide +kernel
theorem d_Mo_holds_22 : decode b_Mo_holds 22 = .ok (.ifCond .eq 25, 3) := by decide +kernel
theorem d_Mo_holds_25 : decode b_Mo_holds 25 = .ok (.aload_n 0, 1) := by decide +kernel
theorem d_Mo_holds_26 : decode b_Mo_holds 26 = .ok (.getfield 29, 3) := by decide +kernel
theorem d_Mo_holds_29 : decode b_Mo_holds 29 = .ok (.bipush 8, 2) := by decide +kernel
theorem d_Mo_holds_31 : decode b_Mo_holds 31 = .ok (.iload_n 1, 1) := by decide +kernel
theorem d_Mo_holds_32 : decode b_Mo_holds 32 = .ok (.imul, 1) := by decide +kernel
theorem d_Mo_holds_33 : decode b_Mo_holds 33 = .ok (.iload_n 2, 1) := by decide +kernel
theorem d_Mo_holds_34 : decode b_Mo_holds 34 = .ok (.invokestatic 148, 3) := by decide +kernel
theorem d_Mo_holds_37 : decode b_Mo_holds 37 = .ok (.iconst 1, 1) := by decide +kernel
theorem d_Mo_holds_38 : decode b_Mo_holds 38 = .ok (.if_icmp .ne 7, 3) := by decide +kernel
theorem d_Mo_holds_41 : decode b_Mo_holds 41 = .ok (.iconst 1, 1) := by decide +kernel
theorem d_Mo_holds_42 : decode b_Mo_holds 42 = .ok (.goto 4, 3) := by decide +kernel
theorem d_Mo_holds_45 : decode b_Mo_holds 45 = .ok (.iconst 0, 1) := by decide +kernel
theorem d_Mo_holds_46 : decode b_Mo_holds 46 = .ok (.ireturn, 1) := by decide +kernel
theorem d_Mo_holds_47 : decode b_Mo_holds 47 = .ok (.aload_n 0, 1) := by decide +kernel
theorem d_Mo_holds_48 : decode b_Mo_holds 48 = .ok (.iconst 1, 1) := by decide +kernel
theorem d_Mo_holds_49 : decode b_Mo_holds 49 = .ok (.putfield 85, 3) := by decide +kernel
theorem d_Mo_holds_52 : decode b_Mo_holds 52 = .ok (.iconst 0, 1) := by decide +kernel
theorem d_Mo_holds_53 : decode b_Mo_holds 53 = .ok (.ireturn, 1) := by decide +kernel
theorem d_Mo_isState_0 : decode b_Mo_isState 0 = .ok (.iload_n 1, 1) := by decide +kernel
theorem d_Mo_isState_1 : decode b_Mo_isState 1 = .ok (.ifCond .lt 15, 3) := by decide +kernel
theorem d_Mo_isState_4 : decode b_Mo_isState 4 = .ok (.iload_n 1, 1) := by decide +kernel
theorem d_Mo_isState_5 : decode b_Mo_isState 5 = .ok (.aload_n 0, 1) := by decide +kernel
theorem d_Mo_isState_6 : decode b_Mo_isState 6 = .ok (.getfield 82, 3) := by decide +kernel
theorem d_Mo_isState_9 : decode b_Mo_isState 9 = .ok (.if_icmp .ge 7, 3) := by decide +kernel
theorem d_Mo_isState_12 : decode b_Mo_isState 12 = .ok (.iconst 1, 1) := by decide +kernel
theorem d_Mo_isState_13 : decode b_Mo_isState 13 = .ok (.goto 4, 3) := by decide +kernel
theorem d_Mo_isState_16 : decode b_Mo_isState 16 = .ok (.iconst 0, 1) := by decide +kernel
theorem d_Mo_isState_17 : decode b_Mo_isState 17 = .ok (.ireturn, 1) := by decide +kernel
theorem d_Mo_signature_0 : decode b_Mo_signature 0 = .ok (.aload_n 0, 1) := by decide +kernel
theorem d_Mo_signature_1 : decode b_Mo_signature 1 = .ok (.iconst 0, 1) := by decide +kernel
theorem d_Mo_signature_2 : decode b_Mo_signature 2 = .ok (.putfield 85, 3) := by decide +kernel
theorem d_Mo_signature_5 : decode b_Mo_signature 5 = .ok (.aload_n 0, 1) := by decide +kernel
theorem d_Mo_signature_6 : decode b_Mo_signature 6 = .ok (.iload_n 1, 1) := by decide +kernel
theorem d_Mo_signature_7 : decode b_Mo_signature 7 = .ok (.invokevirtual 219, 3) := by decide +kernel
theorem d_Mo_signature_10 : decode b_Mo_signature 10 = .ok (.ifCond .eq 12, 3) := by decide +kernel
theorem d_Mo_signature_13 : decode b_Mo_signature 13 = .ok (.aload_n 0, 1) := by decide +kernel
theorem d_Mo_signature_14 : decode b_Mo_signature 14 = .ok (.getfield 32, 3) := by decide +kernel
theorem d_Mo_signature_17 : decode b_Mo_signature 17 = .ok (.iload_n 1, 1) := by decide +kernel
theorem d_Mo_signature_18 : decode b_Mo_signature 18 = .ok (.iaload, 1) := by decide +kernel
theorem d_Mo_signature_19 : decode b_Mo_signature 19 = .ok (.goto 8, 3) := by decide +kernel
theorem d_Mo_signature_22 : decode b_Mo_signature 22 = .ok (.aload_n 0, 1) := by decide +kernel
theorem d_Mo_signature_23 : decode b_Mo_signature 23 = .ok (.iconst 1, 1) := by decide +kernel
theorem d_Mo_signature_24 : decode b_Mo_signature 24 = .ok (.invokevirtual 132, 3) := by decide +kernel
theorem d_Mo_signature_27 : decode b_Mo_signature 27 = .ok (.i2s, 1) := by decide +kernel
theorem d_Mo_signature_28 : decode b_Mo_signature 28 = .ok (.ireturn, 1) := by decide +kernel
theorem d_Mo_follow_0 : decode b_Mo_follow 0 = .ok (.aload_n 0, 1) := by decide +kernel
theorem d_Mo_follow_1 : decode b_Mo_follow 1 = .ok (.iconst 0, 1) := by decide +kernel
theorem d_Mo_follow_2 : decode b_Mo_follow 2 = .ok (.putfield 85, 3) := by decide +kernel
theorem d_Mo_follow_5 : decode b_Mo_follow 5 = .ok (.iload_n 1, 1) := by decide +kernel
theorem d_Mo_follow_6 : decode b_Mo_follow 6 = .ok (.ifCond .lt 19, 3) := by decide +kernel
theorem d_Mo_follow_9 : decode b_Mo_follow 9 = .ok (.iload_n 1, 1) := by decide +kernel
theorem d_Mo_follow_10 : decode b_Mo_follow 10 = .ok (.aload_n 0, 1) := by decide +kernel
theorem d_Mo_follow_11 : decode b_Mo_follow 11 = .ok (.getfield 138, 3) := by decide +kernel
theorem d_Mo_follow_14 : decode b_Mo_follow 14 = .ok (.if_icmp .ge 11, 3) := by decide +kernel
theorem d_Mo_follow_17 : decode b_Mo_follow 17 = .ok (.aload_n 0, 1) := by decide +kernel
theorem d_Mo_follow_18 : decode b_Mo_follow 18 = .ok (.iload_n 2, 1) := by decide +kernel
theorem d_Mo_follow_19 : decode b_Mo_follow 19 = .ok (.invokevirtual 219, 3) := by decide +kernel
theorem d_Mo_follow_22 : decode b_Mo_follow 22 = .ok (.ifCond .ne 9, 3) := by decide +kernel
theorem d_Mo_follow_25 : decode b_Mo_follow 25 = .ok (.aload_n 0, 1) := by decide +kernel
theorem d_Mo_follow_26 : decode b_Mo_follow 26 = .ok (.iconst 1, 1) := by decide +kernel
theorem d_Mo_follow_27 : decode b_Mo_follow 27 = .ok (.invokevirtual 132, 3) := by decide +kernel
theorem d_Mo_follow_30 : decode b_Mo_follow 30 = .ok (.ireturn, 1) := by decide +kernel
theorem d_Mo_follow_31 : decode b_Mo_follow 31 = .ok (.aload_n 0, 1) := by decide +kernel
theorem d_Mo_follow_32 : decode b_Mo_follow 32 = .ok (.getfield 19, 3) := by decide +kernel
theorem d_Mo_follow_35 : decode b_Mo_follow 35 = .ok (.iload_n 1, 1) := by decide +kernel
theorem d_Mo_follow_36 : decode b_Mo_follow 36 = .ok (.iaload, 1) := by decide +kernel
theorem d_Mo_follow_37 : decode b_Mo_follow 37 = .ok (.ifCond .ne 10, 3) := by decide +kernel
theorem d_Mo_follow_40 : decode b_Mo_follow 40 = .ok (.aload_n 0, 1) := by decide +kernel
theorem d_Mo_follow_41 : decode b_Mo_follow 41 = .ok (.iload_n 1, 1) := by decide +kernel
theorem d_Mo_follow_42 : decode b_Mo_follow 42 = .ok (.iload_n 2, 1) := by decide +kernel
theorem d_Mo_follow_43 : decode b_Mo_follow 43 = .ok (.invokevirtual 161, 3) := by decide +kernel
theorem d_Mo_follow_46 : decode b_Mo_follow 46 = .ok (.ireturn, 1) := by decide +kernel
theorem d_Mo_follow_47 : decode b_Mo_follow 47 = .ok (.aload_n 0, 1) := by decide +kernel
theorem d_Mo_follow_48 : decode b_Mo_follow 48 = .ok (.getfield 19, 3) := by decide +kernel
theorem d_Mo_follow_51 : decode b_Mo_follow 51 = .ok (.iload_n 1, 1) := by decide +kernel
theorem d_Mo_follow_52 : decode b_Mo_follow 52 = .ok (.iaload, 1) := by decide +kernel
theorem d_Mo_follow_53 : decode b_Mo_follow 53 = .ok (.iconst 1, 1) := by decide +kernel
theorem d_Mo_follow_54 : decode b_Mo_follow 54 = .ok (.if_icmp .ne 16, 3) := by decide +kernel
theorem d_Mo_follow_57 : decode b_Mo_follow 57 = .ok (.aload_n 0, 1) := by decide +kernel
theorem d_Mo_follow_58 : decode b_Mo_follow 58 = .ok (.iload_n 2, 1) := by decide +kernel
theorem d_Mo_follow_59 : decode b_Mo_follow 59 = .ok (.aload_n 0, 1) := by decide +kernel
theorem d_Mo_follow_60 : decode b_Mo_follow 60 = .ok (.getfield 22, 3) := by decide +kernel
theorem d_Mo_follow_63 : decode b_Mo_follow 63 = .ok (.iload_n 1, 1) := by decide +kernel
theorem d_Mo_follow_64 : decode b_Mo_follow 64 = .ok (.iaload, 1) := by decide +kernel
theorem d_Mo_follow_65 : decode b_Mo_follow 65 = .ok (.iload_n 3, 1) := by decide +kernel
theorem d_Mo_follow_66 : decode b_Mo_follow 66 = .ok (.invokevirtual 152, 3) := by decide +kernel
theorem d_Mo_follow_69 : decode b_Mo_follow 69 = .ok (.ireturn, 1) := by decide +kernel
theorem d_Mo_follow_70 : decode b_Mo_follow 70 = .ok (.aload_n 0, 1) := by decide +kernel
theorem d_Mo_follow_71 : decode b_Mo_follow 71 = .ok (.iload_n 1, 1) := by decide +kernel
theorem d_Mo_follow_72 : decode b_Mo_follow 72 = .ok (.iload_n 2, 1) := by decide +kernel
theorem d_Mo_follow_73 : decode b_Mo_follow 73 = .ok (.invokevirtual 164, 3) := by decide +kernel
theorem d_Mo_follow_76 : decode b_Mo_follow 76 = .ok (.ifCond .eq 7, 3) := by decide +kernel
theorem d_Mo_follow_79 : decode b_Mo_follow 79 = .ok (.iload_n 2, 1) := by decide +kernel
theorem d_Mo_follow_80 : decode b_Mo_follow 80 = .ok (.goto 4, 3) := by decide +kernel
theorem d_Mo_follow_83 : decode b_Mo_follow 83 = .ok (.iconst (-1), 1) := by decide +kernel
theorem d_Mo_follow_84 : decode b_Mo_follow 84 = .ok (.ireturn, 1) := by decide +kernel
theorem d_Mo_nodes_0 : decode b_Mo_nodes 0 = .ok (.aload_n 0, 1) := by decide +kernel
theorem d_Mo_nodes_1 : decode b_Mo_nodes 1 = .ok (.iconst 0, 1) := by decide +kernel
theorem d_Mo_nodes_2 : decode b_Mo_nodes 2 = .ok (.putfield 85, 3) := by decide +kernel
theorem d_Mo_nodes_5 : decode b_Mo_nodes 5 = .ok (.aload_n 0, 1) := by decide +kernel
theorem d_Mo_nodes_6 : decode b_Mo_nodes 6 = .ok (.getfield 123, 3) := by decide +kernel
theorem d_Mo_nodes_9 : decode b_Mo_nodes 9 = .ok (.ireturn, 1) := by decide +kernel
theorem d_Mo_node_0 : decode b_Mo_node 0 = .ok (.aload_n 0, 1) := by decide +kernel
theorem d_Mo_node_1 : decode b_Mo_node 1 = .ok (.iconst 0, 1) := by decide +kernel
theorem d_Mo_node_2 : decode b_Mo_node 2 = .ok (.putfield 85, 3) := by decide +kernel
theorem d_Mo_node_5 : decode b_Mo_node 5 = .ok (.iload_n 1, 1) := by decide +kernel
theorem d_Mo_node_6 : decode b_Mo_node 6 = .ok (.ifCond .lt 11, 3) := by decide +kernel
theorem d_Mo_node_9 : decode b_Mo_node 9 = .ok (.iload_n 1, 1) := by decide +kernel
theorem d_Mo_node_10 : decode b_Mo_node 10 = .ok (.aload_n 0, 1) := by decide +kernel
theorem d_Mo_node_11 : decode b_Mo_node 11 = .ok (.getfield 123, 3) := by decide +kernel
theorem d_Mo_node_14 : decode b_Mo_node 14 = .ok (.if_icmp .lt 9, 3) := by decide +kernel
theorem d_Mo_node_17 : decode b_Mo_node 17 = .ok (.aload_n 0, 1) := by decide +kernel
theorem d_Mo_node_18 : decode b_Mo_node 18 = .ok (.iconst 1, 1) := by decide +kernel
theorem d_Mo_node_19 : decode b_Mo_node 19 = .ok (.invokevirtual 132, 3) := by decide +kernel
theorem d_Mo_node_22 : decode b_Mo_node 22 = .ok (.ireturn, 1) := by decide +kernel
theorem d_Mo_node_23 : decode b_Mo_node 23 = .ok (.iload_n 2, 1) := by decide +kernel
theorem d_Mo_node_24 : decode b_Mo_node 24 = .ok (.tableswitch 60 0 3 #[32, 39, 46, 53], 32) := by decide +kernel
theorem d_Mo_node_56 : decode b_Mo_node 56 = .ok (.aload_n 0, 1) := by decide +kernel
theorem d_Mo_node_57 : decode b_Mo_node 57 = .ok (.getfield 39, 3) := by decide +kernel
theorem d_Mo_node_60 : decode b_Mo_node 60 = .ok (.iload_n 1, 1) := by decide +kernel
theorem d_Mo_node_61 : decode b_Mo_node 61 = .ok (.iaload, 1) := by decide +kernel
theorem d_Mo_node_62 : decode b_Mo_node 62 = .ok (.ireturn, 1) := by decide +kernel
theorem d_Mo_node_63 : decode b_Mo_node 63 = .ok (.aload_n 0, 1) := by decide +kernel
theorem d_Mo_node_64 : decode b_Mo_node 64 = .ok (.getfield 42, 3) := by decide +kernel
theorem d_Mo_node_67 : decode b_Mo_node 67 = .ok (.iload_n 1, 1) := by decide +kernel
theorem d_Mo_node_68 : decode b_Mo_node 68 = .ok (.iaload, 1) := by decide +kernel
theorem d_Mo_node_69 : decode b_Mo_node 69 = .ok (.ireturn, 1) := by decide +kernel
theorem d_Mo_node_70 : decode b_Mo_node 70 = .ok (.aload_n 0, 1) := by decide +kernel
theorem d_Mo_node_71 : decode b_Mo_node 71 = .ok (.getfield 45, 3) := by decide +kernel
theorem d_Mo_node_74 : decode b_Mo_node 74 = .ok (.iload_n 1, 1) := by decide +kernel
theorem d_Mo_node_75 : decode b_Mo_node 75 = .ok (.iaload, 1) := by decide +kernel
theorem d_Mo_node_76 : decode b_Mo_node 76 = .ok (.ireturn, 1) := by decide +kernel
theorem d_Mo_node_77 : decode b_Mo_node 77 = .ok (.aload_n 0, 1) := by decide +kernel
theorem d_Mo_node_78 : decode b_Mo_node 78 = .ok (.getfield 48, 3) := by decide +kernel
theorem d_Mo_node_81 : decode b_Mo_node 81 = .ok (.iload_n 1, 1) := by decide +kernel
theorem d_Mo_node_82 : decode b_Mo_node 82 = .ok (.iaload, 1) := by decide +kernel
theorem d_Mo_node_83 : decode b_Mo_node 83 = .ok (.ireturn, 1) := by decide +kernel
theorem d_Mo_node_84 : decode b_Mo_node 84 = .ok (.aload_n 0, 1) := by decide +kernel
theorem d_Mo_node_85 : decode b_Mo_node 85 = .ok (.iconst 2, 1) := by decide +kernel
theorem d_Mo_node_86 : decode b_Mo_node 86 = .ok (.invokevirtual 132, 3) := by decide +kernel
theorem d_Mo_node_89 : decode b_Mo_node 89 = .ok (.ireturn, 1) := by decide +kernel
theorem d_Mo_length_0 : decode b_Mo_length 0 = .ok (.aload_n 0, 1) := by decide +kernel
theorem d_Mo_length_1 : decode b_Mo_length 1 = .ok (.iconst 0, 1) := by decide +kernel
theorem d_Mo_length_2 : decode b_Mo_length 2 = .ok (.putfield 85, 3) := by decide +kernel
theorem d_Mo_length_5 : decode b_Mo_length 5 = .ok (.aload_n 0, 1) := by decide +kernel
theorem d_Mo_length_6 : decode b_Mo_length 6 = .ok (.getfield 51, 3) := by decide +kernel
theorem d_Mo_length_9 : decode b_Mo_length 9 = .ok (.ireturn, 1) := by decide +kernel
theorem d_Mo_path_0 : decode b_Mo_path 0 = .ok (.aload_n 0, 1) := by decide +kernel
theorem d_Mo_path_1 : decode b_Mo_path 1 = .ok (.iconst 0, 1) := by decide +kernel
theorem d_Mo_path_2 : decode b_Mo_path 2 = .ok (.putfield 85, 3) := by decide +kernel
theorem d_Mo_path_5 : decode b_Mo_path 5 = .ok (.iload_n 1, 1) := by decide +kernel
theorem d_Mo_path_6 : decode b_Mo_path 6 = .ok (.ifCond .lt 20, 3) := by decide +kernel
theorem d_Mo_path_9 : decode b_Mo_path 9 = .ok (.iload_n 1, 1) := by decide +kernel
theorem d_Mo_path_10 : decode b_Mo_path 10 = .ok (.aload_n 0, 1) := by decide +kernel
theorem d_Mo_path_11 : decode b_Mo_path 11 = .ok (.getfield 51, 3) := by decide +kernel
theorem d_Mo_path_14 : decode b_Mo_path 14 = .ok (.if_icmp .ge 12, 3) := by decide +kernel
theorem d_Mo_path_17 : decode b_Mo_path 17 = .ok (.aload_n 0, 1) := by decide +kernel
theorem d_Mo_path_18 : decode b_Mo_path 18 = .ok (.getfield 54, 3) := by decide +kernel
theorem d_Mo_path_21 : decode b_Mo_path 21 = .ok (.iload_n 1, 1) := by decide +kernel
theorem d_Mo_path_22 : decode b_Mo_path 22 = .ok (.iaload, 1) := by decide +kernel
theorem d_Mo_path_23 : decode b_Mo_path 23 = .ok (.goto 8, 3) := by decide +kernel
theorem d_Mo_path_26 : decode b_Mo_path 26 = .ok (.aload_n 0, 1) := by decide +kernel
theorem d_Mo_path_27 : decode b_Mo_path 27 = .ok (.iconst 1, 1) := by decide +kernel
theorem d_Mo_path_28 : decode b_Mo_path 28 = .ok (.invokevirtual 132, 3) := by decide +kernel
theorem d_Mo_path_31 : decode b_Mo_path 31 = .ok (.ireturn, 1) := by decide +kernel
theorem d_Mo_input_0 : decode b_Mo_input 0 = .ok (.aload_n 0, 1) := by decide +kernel
theorem d_Mo_input_1 : decode b_Mo_input 1 = .ok (.iconst 0, 1) := by decide +kernel
theorem d_Mo_input_2 : decode b_Mo_input 2 = .ok (.putfield 85, 3) := by decide +kernel
theorem d_Mo_input_5 : decode b_Mo_input 5 = .ok (.aload_n 0, 1) := by decide +kernel
theorem d_Mo_input_6 : decode b_Mo_input 6 = .ok (.getfield 35, 3) := by decide +kernel
theorem d_Mo_input_9 : decode b_Mo_input 9 = .ok (.iconst 2, 1) := by decide +kernel
theorem d_Mo_input_10 : decode b_Mo_input 10 = .ok (.if_icmp .ne 24, 3) := by decide +kernel
theorem d_Mo_input_13 : decode b_Mo_input 13 = .ok (.iload_n 1, 1) := by decide +kernel
theorem d_Mo_input_14 : decode b_Mo_input 14 = .ok (.ifCond .lt 20, 3) := by decide +kernel
theorem d_Mo_input_17 : decode b_Mo_input 17 = .ok (.iload_n 1, 1) := by decide +kernel
theorem d_Mo_input_18 : decode b_Mo_input 18 = .ok (.aload_n 0, 1) := by decide +kernel
theorem d_Mo_input_19 : decode b_Mo_input 19 = .ok (.getfield 126, 3) := by decide +kernel
theorem d_Mo_input_22 : decode b_Mo_input 22 = .ok (.if_icmp .ge 12, 3) := by decide +kernel
theorem d_Mo_input_25 : decode b_Mo_input 25 = .ok (.aload_n 0, 1) := by decide +kernel
theorem d_Mo_input_26 : decode b_Mo_input 26 = .ok (.getfield 57, 3) := by decide +kernel
theorem d_Mo_input_29 : decode b_Mo_input 29 = .ok (.iload_n 1, 1) := by decide +kernel
theorem d_Mo_input_30 : decode b_Mo_input 30 = .ok (.iaload, 1) := by decide +kernel
theorem d_Mo_input_31 : decode b_Mo_input 31 = .ok (.goto 8, 3) := by decide +kernel
theorem d_Mo_input_34 : decode b_Mo_input 34 = .ok (.aload_n 0, 1) := by decide +kernel
theorem d_Mo_input_35 : decode b_Mo_input 35 = .ok (.iconst 1, 1) := by decide +kernel
theorem d_Mo_input_36 : decode b_Mo_input 36 = .ok (.invokevirtual 132, 3) := by decide +kernel
theorem d_Mo_input_39 : decode b_Mo_input 39 = .ok (.ireturn, 1) := by decide +kernel
