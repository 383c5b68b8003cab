theorem dX7_standing_16 : decode cX7_standing 16 = .ok (.iand, 1) := by decide +kernel
theorem dX7_standing_17 : decode cX7_standing 17 = .ok (.iconst 1, 1) := by decide +kernel
theorem dX7_standing_18 : decode cX7_standing 18 = .ok (.if_icmp .ne 36, 3) := by decide +kernel
theorem dX7_standing_21 : decode cX7_standing 21 = .ok (.aload_n 0, 1) := by decide +kernel
theorem dX7_standing_22 : decode cX7_standing 22 = .ok (.getfield 7, 3) := by decide +kernel
theorem dX7_standing_25 : decode cX7_standing 25 = .ok (.iconst 0, 1) := by decide +kernel
theorem dX7_standing_26 : decode cX7_standing 26 = .ok (.iload_n 3, 1) := by decide +kernel
theorem dX7_standing_27 : decode cX7_standing 27 = .ok (.iadd, 1) := by decide +kernel
theorem dX7_standing_28 : decode cX7_standing 28 = .ok (.iaload, 1) := by decide +kernel
theorem dX7_standing_29 : decode cX7_standing 29 = .ok (.iload_n 2, 1) := by decide +kernel
theorem dX7_standing_30 : decode cX7_standing 30 = .ok (.iconst (-1), 1) := by decide +kernel
theorem dX7_standing_31 : decode cX7_standing 31 = .ok (.ixor, 1) := by decide +kernel
theorem dX7_standing_32 : decode cX7_standing 32 = .ok (.iand, 1) := by decide +kernel
theorem dX7_standing_33 : decode cX7_standing 33 = .ok (.ifCond .ne 21, 3) := by decide +kernel
theorem dX7_standing_36 : decode cX7_standing 36 = .ok (.aload_n 0, 1) := by decide +kernel
theorem dX7_standing_37 : decode cX7_standing 37 = .ok (.getfield 7, 3) := by decide +kernel
theorem dX7_standing_40 : decode cX7_standing 40 = .ok (.bipush 8, 2) := by decide +kernel
theorem dX7_standing_42 : decode cX7_standing 42 = .ok (.iload_n 3, 1) := by decide +kernel
theorem dX7_standing_43 : decode cX7_standing 43 = .ok (.iadd, 1) := by decide +kernel
theorem dX7_standing_44 : decode cX7_standing 44 = .ok (.iaload, 1) := by decide +kernel
theorem dX7_standing_45 : decode cX7_standing 45 = .ok (.iload_n 2, 1) := by decide +kernel
theorem dX7_standing_46 : decode cX7_standing 46 = .ok (.iand, 1) := by decide +kernel
theorem dX7_standing_47 : decode cX7_standing 47 = .ok (.ifCond .ne 7, 3) := by decide +kernel
theorem dX7_standing_50 : decode cX7_standing 50 = .ok (.iconst 1, 1) := by decide +kernel
theorem dX7_standing_51 : decode cX7_standing 51 = .ok (.goto 4, 3) := by decide +kernel
theorem dX7_standing_54 : decode cX7_standing 54 = .ok (.iconst 0, 1) := by decide +kernel
theorem dX7_standing_55 : decode cX7_standing 55 = .ok (.istore 4, 2) := by decide +kernel
theorem dX7_standing_57 : decode cX7_standing 57 = .ok (.iload_n 2, 1) := by decide +kernel
theorem dX7_standing_58 : decode cX7_standing 58 = .ok (.iload 4, 2) := by decide +kernel
theorem dX7_standing_60 : decode cX7_standing 60 = .ok (.invokestatic 164, 3) := by decide +kernel
theorem dX7_standing_63 : decode cX7_standing 63 = .ok (.iload_n 3, 1) := by decide +kernel
theorem dX7_standing_64 : decode cX7_standing 64 = .ok (.ishl, 1) := by decide +kernel
theorem dX7_standing_65 : decode cX7_standing 65 = .ok (.ior, 1) := by decide +kernel
theorem dX7_standing_66 : decode cX7_standing 66 = .ok (.istore_n 2, 1) := by decide +kernel
theorem dX7_standing_67 : decode cX7_standing 67 = .ok (.iinc 3 1, 3) := by decide +kernel
theorem dX7_standing_70 : decode cX7_standing 70 = .ok (.goto (-66), 3) := by decide +kernel
theorem dX7_standing_73 : decode cX7_standing 73 = .ok (.iload_n 2, 1) := by decide +kernel
theorem dX7_standing_74 : decode cX7_standing 74 = .ok (.ireturn, 1) := by decide +kernel
theorem dX7_endStands_0 : decode cX7_endStands 0 = .ok (.aload_n 0, 1) := by decide +kernel
theorem dX7_endStands_1 : decode cX7_endStands 1 = .ok (.getfield 72, 3) := by decide +kernel
theorem dX7_endStands_4 : decode cX7_endStands 4 = .ok (.ifCond .le 26, 3) := by decide +kernel
theorem dX7_endStands_7 : decode cX7_endStands 7 = .ok (.aload_n 0, 1) := by decide +kernel
theorem dX7_endStands_8 : decode cX7_endStands 8 = .ok (.iload_n 1, 1) := by decide +kernel
theorem dX7_endStands_9 : decode cX7_endStands 9 = .ok (.invokevirtual 168, 3) := by decide +kernel
theorem dX7_endStands_12 : decode cX7_endStands 12 = .ok (.aload_n 0, 1) := by decide +kernel
theorem dX7_endStands_13 : decode cX7_endStands 13 = .ok (.getfield 7, 3) := by decide +kernel
theorem dX7_endStands_16 : decode cX7_endStands 16 = .ok (.bipush 25, 2) := by decide +kernel
theorem dX7_endStands_18 : decode cX7_endStands 18 = .ok (.iaload, 1) := by decide +kernel
theorem dX7_endStands_19 : decode cX7_endStands 19 = .ok (.ishr, 1) := by decide +kernel
theorem dX7_endStands_20 : decode cX7_endStands 20 = .ok (.iconst 1, 1) := by decide +kernel
theorem dX7_endStands_21 : decode cX7_endStands 21 = .ok (.iand, 1) := by decide +kernel
theorem dX7_endStands_22 : decode cX7_endStands 22 = .ok (.iconst 1, 1) := by decide +kernel
theorem dX7_endStands_23 : decode cX7_endStands 23 = .ok (.if_icmp .ne 7, 3) := by decide +kernel
theorem dX7_endStands_26 : decode cX7_endStands 26 = .ok (.iconst 1, 1) := by decide +kernel
theorem dX7_endStands_27 : decode cX7_endStands 27 = .ok (.goto 4, 3) := by decide +kernel
theorem dX7_endStands_30 : decode cX7_endStands 30 = .ok (.iconst 0, 1) := by decide +kernel
theorem dX7_endStands_31 : decode cX7_endStands 31 = .ok (.ireturn, 1) := by decide +kernel
theorem dX7_inTime_0 : decode cX7_inTime 0 = .ok (.iload_n 2, 1) := by decide +kernel
theorem dX7_inTime_1 : decode cX7_inTime 1 = .ok (.i2l, 1) := by decide +kernel
theorem dX7_inTime_2 : decode cX7_inTime 2 = .ok (.aload_n 0, 1) := by decide +kernel
theorem dX7_inTime_3 : decode cX7_inTime 3 = .ok (.getfield 20, 3) := by decide +kernel
theorem dX7_inTime_6 : decode cX7_inTime 6 = .ok (.iload_n 1, 1) := by decide +kernel
theorem dX7_inTime_7 : decode cX7_inTime 7 = .ok (.iaload, 1) := by decide +kernel
theorem dX7_inTime_8 : decode cX7_inTime 8 = .ok (.i2l, 1) := by decide +kernel
theorem dX7_inTime_9 : decode cX7_inTime 9 = .ok (.aload_n 0, 1) := by decide +kernel
theorem dX7_inTime_10 : decode cX7_inTime 10 = .ok (.getfield 23, 3) := by decide +kernel
theorem dX7_inTime_13 : decode cX7_inTime 13 = .ok (.iload_n 1, 1) := by decide +kernel
theorem dX7_inTime_14 : decode cX7_inTime 14 = .ok (.iaload, 1) := by decide +kernel
theorem dX7_inTime_15 : decode cX7_inTime 15 = .ok (.i2l, 1) := by decide +kernel
theorem dX7_inTime_16 : decode cX7_inTime 16 = .ok (.invokestatic 77, 3) := by decide +kernel
theorem dX7_inTime_19 : decode cX7_inTime 19 = .ok (.ireturn, 1) := by decide +kernel
theorem dX7_rule_0 : decode cX7_rule 0 = .ok (.iload_n 1, 1) := by decide +kernel
theorem dX7_rule_1 : decode cX7_rule 1 = .ok (.tableswitch 88 0 5 #[39, 44, 52, 60, 68, 80], 39) := by decide +kernel
theorem dX7_rule_40 : decode cX7_rule 40 = .ok (.aload_n 0, 1) := by decide +kernel
theorem dX7_rule_41 : decode cX7_rule 41 = .ok (.getfield 72, 3) := by decide +kernel
theorem dX7_rule_44 : decode cX7_rule 44 = .ok (.ireturn, 1) := by decide +kernel
theorem dX7_rule_45 : decode cX7_rule 45 = .ok (.aload_n 0, 1) := by decide +kernel
theorem dX7_rule_46 : decode cX7_rule 46 = .ok (.getfield 7, 3) := by decide +kernel
theorem dX7_rule_49 : decode cX7_rule 49 = .ok (.bipush 25, 2) := by decide +kernel
theorem dX7_rule_51 : decode cX7_rule 51 = .ok (.iaload, 1) := by decide +kernel
theorem dX7_rule_52 : decode cX7_rule 52 = .ok (.ireturn, 1) := by decide +kernel
theorem dX7_rule_53 : decode cX7_rule 53 = .ok (.aload_n 0, 1) := by decide +kernel
theorem dX7_rule_54 : decode cX7_rule 54 = .ok (.getfield 7, 3) := by decide +kernel
theorem dX7_rule_57 : decode cX7_rule 57 = .ok (.bipush 26, 2) := by decide +kernel
theorem dX7_rule_59 : decode cX7_rule 59 = .ok (.iaload, 1) := by decide +kernel
theorem dX7_rule_60 : decode cX7_rule 60 = .ok (.ireturn, 1) := by decide +kernel
theorem dX7_rule_61 : decode cX7_rule 61 = .ok (.aload_n 0, 1) := by decide +kernel
theorem dX7_rule_62 : decode cX7_rule 62 = .ok (.getfield 7, 3) := by decide +kernel
theorem dX7_rule_65 : decode cX7_rule 65 = .ok (.bipush 24, 2) := by decide +kernel
theorem dX7_rule_67 : decode cX7_rule 67 = .ok (.iaload, 1) := by decide +kernel
theorem dX7_rule_68 : decode cX7_rule 68 = .ok (.ireturn, 1) := by decide +kernel
theorem dX7_rule_69 : decode cX7_rule 69 = .ok (.aload_n 0, 1) := by decide +kernel
theorem dX7_rule_70 : decode cX7_rule 70 = .ok (.aload_n 0, 1) := by decide +kernel
theorem dX7_rule_71 : decode cX7_rule 71 = .ok (.getfield 7, 3) := by decide +kernel
theorem dX7_rule_74 : decode cX7_rule 74 = .ok (.bipush 24, 2) := by decide +kernel
theorem dX7_rule_76 : decode cX7_rule 76 = .ok (.iaload, 1) := by decide +kernel
theorem dX7_rule_77 : decode cX7_rule 77 = .ok (.invokevirtual 168, 3) := by decide +kernel
theorem dX7_rule_80 : decode cX7_rule 80 = .ok (.ireturn, 1) := by decide +kernel
theorem dX7_rule_81 : decode cX7_rule 81 = .ok (.aload_n 0, 1) := by decide +kernel
theorem dX7_rule_82 : decode cX7_rule 82 = .ok (.getfield 7, 3) := by decide +kernel
theorem dX7_rule_85 : decode cX7_rule 85 = .ok (.bipush 27, 2) := by decide +kernel
theorem dX7_rule_87 : decode cX7_rule 87 = .ok (.iaload, 1) := by decide +kernel
theorem dX7_rule_88 : decode cX7_rule 88 = .ok (.ireturn, 1) := by decide +kernel
theorem dX7_rule_89 : decode cX7_rule 89 = .ok (.iconst (-1), 1) := by decide +kernel
theorem dX7_rule_90 : decode cX7_rule 90 = .ok (.ireturn, 1) := by decide +kernel
theorem dX7_claim_0 : decode cX7_claim 0 = .ok (.aload_n 0, 1) := by decide +kernel
theorem dX7_claim_1 : decode cX7_claim 1 = .ok (.iload_n 1, 1) := by decide +kernel
theorem dX7_claim_2 : decode cX7_claim 2 = .ok (.invokevirtual 171, 3) := by decide +kernel
theorem dX7_claim_5 : decode cX7_claim 5 = .ok (.ifCond .ne 5, 3) := by decide +kernel
theorem dX7_claim_8 : decode cX7_claim 8 = .ok (.iconst (-1), 1) := by decide +kernel
theorem dX7_claim_9 : decode cX7_claim 9 = .ok (.ireturn, 1) := by decide +kernel
theorem dX7_claim_10 : decode cX7_claim 10 = .ok (.iload_n 2, 1) := by decide +kernel
theorem dX7_claim_11 : decode cX7_claim 11 = .ok (.tableswitch 107 0 6 #[41, 48, 55, 62, 72, 81, 91], 41) := by decide +kernel
theorem dX7_claim_52 : decode cX7_claim 52 = .ok (.aload_n 0, 1) := by decide +kernel
theorem dX7_claim_53 : decode cX7_claim 53 = .ok (.getfield 17, 3) := by decide +kernel
theorem dX7_claim_56 : decode cX7_claim 56 = .ok (.iload_n 1, 1) := by decide +kernel
theorem dX7_claim_57 : decode cX7_claim 57 = .ok (.iaload, 1) := by decide +kernel
theorem dX7_claim_58 : decode cX7_claim 58 = .ok (.ireturn, 1) := by decide +kernel
theorem dX7_claim_59 : decode cX7_claim 59 = .ok (.aload_n 0, 1) := by decide +kernel
theorem dX7_claim_60 : decode cX7_claim 60 = .ok (.getfield 20, 3) := by decide +kernel
theorem dX7_claim_63 : decode cX7_claim 63 = .ok (.iload_n 1, 1) := by decide +kernel
theorem dX7_claim_64 : decode cX7_claim 64 = .ok (.iaload, 1) := by decide +kernel
theorem dX7_claim_65 : decode cX7_claim 65 = .ok (.ireturn, 1) := by decide +kernel
theorem dX7_claim_66 : decode cX7_claim 66 = .ok (.aload_n 0, 1) := by decide +kernel
theorem dX7_claim_67 : decode cX7_claim 67 = .ok (.getfield 23, 3) := by decide +kernel
theorem dX7_claim_70 : decode cX7_claim 70 = .ok (.iload_n 1, 1) := by decide +kernel
theorem dX7_claim_71 : decode cX7_claim 71 = .ok (.iaload, 1) := by decide +kernel
theorem dX7_claim_72 : decode cX7_claim 72 = .ok (.ireturn, 1) := by decide +kernel
theorem dX7_claim_73 : decode cX7_claim 73 = .ok (.aload_n 0, 1) := by decide +kernel
theorem dX7_claim_74 : decode cX7_claim 74 = .ok (.getfield 7, 3) := by decide +kernel
theorem dX7_claim_77 : decode cX7_claim 77 = .ok (.bipush 16, 2) := by decide +kernel
theorem dX7_claim_79 : decode cX7_claim 79 = .ok (.iload_n 1, 1) := by decide +kernel
theorem dX7_claim_80 : decode cX7_claim 80 = .ok (.iadd, 1) := by decide +kernel
theorem dX7_claim_81 : decode cX7_claim 81 = .ok (.iaload, 1) := by decide +kernel
theorem dX7_claim_82 : decode cX7_claim 82 = .ok (.ireturn, 1) := by decide +kernel
theorem dX7_claim_83 : decode cX7_claim 83 = .ok (.aload_n 0, 1) := by decide +kernel
theorem dX7_claim_84 : decode cX7_claim 84 = .ok (.getfield 7, 3) := by decide +kernel
theorem dX7_claim_87 : decode cX7_claim 87 = .ok (.iconst 0, 1) := by decide +kernel
theorem dX7_claim_88 : decode cX7_claim 88 = .ok (.iload_n 1, 1) := by decide +kernel
theorem dX7_claim_89 : decode cX7_claim 89 = .ok (.iadd, 1) := by decide +kernel
theorem dX7_claim_90 : decode cX7_claim 90 = .ok (.iaload, 1) := by decide +kernel
theorem dX7_claim_91 : decode cX7_claim 91 = .ok (.ireturn, 1) := by decide +kernel
theorem dX7_claim_92 : decode cX7_claim 92 = .ok (.aload_n 0, 1) := by decide +kernel
theorem dX7_claim_93 : decode cX7_claim 93 = .ok (.getfield 7, 3) := by decide +kernel
theorem dX7_claim_96 : decode cX7_claim 96 = .ok (.bipush 8, 2) := by decide +kernel
theorem dX7_claim_98 : decode cX7_claim 98 = .ok (.iload_n 1, 1) := by decide +kernel
theorem dX7_claim_99 : decode cX7_claim 99 = .ok (.iadd, 1) := by decide +kernel
theorem dX7_claim_100 : decode cX7_claim 100 = .ok (.iaload, 1) := by decide +kernel
theorem dX7_claim_101 : decode cX7_claim 101 = .ok (.ireturn, 1) := by decide +kernel
theorem dX7_claim_102 : decode cX7_claim 102 = .ok (.aload_n 0, 1) := by decide +kernel
theorem dX7_claim_103 : decode cX7_claim 103 = .ok (.aload_n 0, 1) := by decide +kernel
theorem dX7_claim_104 : decode cX7_claim 104 = .ok (.getfield 7, 3) := by decide +kernel
theorem dX7_claim_107 : decode cX7_claim 107 = .ok (.bipush 24, 2) := by decide +kernel
theorem dX7_claim_109 : decode cX7_claim 109 = .ok (.iaload, 1) := by decide +kernel
theorem dX7_claim_110 : decode cX7_claim 110 = .ok (.invokevirtual 168, 3) := by decide +kernel
theorem dX7_claim_113 : decode cX7_claim 113 = .ok (.iload_n 1, 1) := by decide +kernel
theorem dX7_claim_114 : decode cX7_claim 114 = .ok (.ishr, 1) := by decide +kernel
theorem dX7_claim_115 : decode cX7_claim 115 = .ok (.iconst 1, 1) := by decide +kernel
theorem dX7_claim_116 : decode cX7_claim 116 = .ok (.iand, 1) := by decide +kernel
theorem dX7_claim_117 : decode cX7_claim 117 = .ok (.ireturn, 1) := by decide +kernel
theorem dX7_claim_118 : decode cX7_claim 118 = .ok (.iconst (-1), 1) := by decide +kernel
theorem dX7_claim_119 : decode cX7_claim 119 = .ok (.ireturn, 1) := by decide +kernel
theorem dX7_plan_0 : decode cX7_plan 0 = .ok (.iload_n 1, 1) := by decide +kernel
theorem dX7_plan_1 : decode cX7_plan 1 = .ok (.i2l, 1) := by decide +kernel
theorem dX7_plan_2 : decode cX7_plan 2 = .ok (.lconst 0, 1) := by decide +kernel
theorem dX7_plan_3 : decode cX7_plan 3 = .ok (.aload_n 0, 1) := by decide +kernel
theorem dX7_plan_4 : decode cX7_plan 4 = .ok (.getfield 7, 3) := by decide +kernel
theorem dX7_plan_7 : decode cX7_plan 7 = .ok (.bipush 27, 2) := by decide +kernel
theorem dX7_plan_9 : decode cX7_plan 9 = .ok (.iaload, 1) := by decide +kernel
theorem dX7_plan_10 : decode cX7_plan 10 = .ok (.iconst 1, 1) := by decide +kernel
theorem dX7_plan_11 : decode cX7_plan 11 = .ok (.isub, 1) := by decide +kernel
theorem dX7_plan_12 : decode cX7_plan 12 = .ok (.i2l, 1) := by decide +kernel
theorem dX7_plan_13 : decode cX7_plan 13 = .ok (.invokestatic 77, 3) := by decide +kernel
theorem dX7_plan_16 : decode cX7_plan 16 = .ok (.ifCond .eq 15, 3) := by decide +kernel
theorem dX7_plan_19 : decode cX7_plan 19 = .ok (.aload_n 0, 1) := by decide +kernel
theorem dX7_plan_20 : decode cX7_plan 20 = .ok (.getfield 7, 3) := by decide +kernel
theorem dX7_plan_23 : decode cX7_plan 23 = .ok (.bipush 28, 2) := by decide +kernel
theorem dX7_plan_25 : decode cX7_plan 25 = .ok (.iload_n 1, 1) := by decide +kernel
theorem dX7_plan_26 : decode cX7_plan 26 = .ok (.iadd, 1) := by decide +kernel
theorem dX7_plan_27 : decode cX7_plan 27 = .ok (.iaload, 1) := by decide +kernel
theorem dX7_plan_28 : decode cX7_plan 28 = .ok (.goto 4, 3) := by decide +kernel
theorem dX7_plan_31 : decode cX7_plan 31 = .ok (.iconst (-1), 1) := by decide +kernel
theorem dX7_plan_32 : decode cX7_plan 32 = .ok (.ireturn, 1) := by decide +kernel
theorem dX7_becomes_0 : decode cX7_becomes 0 = .ok (.aload_n 0, 1) := by decide +kernel
theorem dX7_becomes_1 : decode cX7_becomes 1 = .ok (.getfield 7, 3) := by decide +kernel
theorem dX7_becomes_4 : decode cX7_becomes 4 = .ok (.iload_n 1, 1) := by decide +kernel
theorem dX7_becomes_5 : decode cX7_becomes 5 = .ok (.iaload, 1) := by decide +kernel
theorem dX7_becomes_6 : decode cX7_becomes 6 = .ok (.istore_n 3, 1) := by decide +kernel
theorem dX7_becomes_7 : decode cX7_becomes 7 = .ok (.aload_n 0, 1) := by decide +kernel
theorem dX7_becomes_8 : decode cX7_becomes 8 = .ok (.getfield 7, 3) := by decide +kernel
theorem dX7_becomes_11 : decode cX7_becomes 11 = .ok (.iload_n 1, 1) := by decide +kernel
theorem dX7_becomes_12 : decode cX7_becomes 12 = .ok (.iload_n 2, 1) := by decide +kernel
theorem dX7_becomes_13 : decode cX7_becomes 13 = .ok (.iastore, 1) := by decide +kernel
theorem dX7_becomes_14 : decode cX7_becomes 14 = .ok (.iload_n 3, 1) := by decide +kernel
theorem dX7_becomes_15 : decode cX7_becomes 15 = .ok (.ireturn, 1) := by decide +kernel
theorem dX7_say_0 : decode cX7_say 0 = .ok (.aload_n 0, 1) := by decide +kernel
theorem dX7_say_1 : decode cX7_say 1 = .ok (.iload_n 1, 1) := by decide +kernel
theorem dX7_say_2 : decode cX7_say 2 = .ok (.invokevirtual 171, 3) := by decide +kernel
theorem dX7_say_5 : decode cX7_say 5 = .ok (.ifCond .ne 5, 3) := by decide +kernel
theorem dX7_say_8 : decode cX7_say 8 = .ok (.iconst (-1), 1) := by decide +kernel
theorem dX7_say_9 : decode cX7_say 9 = .ok (.ireturn, 1) := by decide +kernel
theorem dX7_say_10 : decode cX7_say 10 = .ok (.aload_n 0, 1) := by decide +kernel
theorem dX7_say_11 : decode cX7_say 11 = .ok (.getfield 7, 3) := by decide +kernel
theorem dX7_say_14 : decode cX7_say 14 = .ok (.bipush 24, 2) := by decide +kernel
theorem dX7_say_16 : decode cX7_say 16 = .ok (.iaload, 1) := by decide +kernel
theorem dX7_say_17 : decode cX7_say 17 = .ok (.iload_n 1, 1) := by decide +kernel
theorem dX7_say_18 : decode cX7_say 18 = .ok (.ishr, 1) := by decide +kernel
theorem dX7_say_19 : decode cX7_say 19 = .ok (.iconst 1, 1) := by decide +kernel
theorem dX7_say_20 : decode cX7_say 20 = .ok (.iand, 1) := by decide +kernel
theorem dX7_say_21 : decode cX7_say 21 = .ok (.iconst 1, 1) := by decide +kernel
theorem dX7_say_22 : decode cX7_say 22 = .ok (.if_icmp .eq 18, 3) := by decide +kernel
theorem dX7_say_25 : decode cX7_say 25 = .ok (.aload_n 0, 1) := by decide +kernel
theorem dX7_say_26 : decode cX7_say 26 = .ok (.iload_n 1, 1) := by decide +kernel
theorem dX7_say_27 : decode cX7_say 27 = .ok (.aload_n 0, 1) := by decide +kernel
theorem dX7_say_28 : decode cX7_say 28 = .ok (.getfield 7, 3) := by decide +kernel
theorem dX7_say_31 : decode cX7_say 31 = .ok (.bipush 26, 2) := by decide +kernel
theorem dX7_say_33 : decode cX7_say 33 = .ok (.iaload, 1) := by decide +kernel
theorem dX7_say_34 : decode cX7_say 34 = .ok (.invokevirtual 175, 3) := by decide +kernel
theorem dX7_say_37 : decode cX7_say 37 = .ok (.ifCond .ne 6, 3) := by decide +kernel
theorem dX7_say_40 : decode cX7_say 40 = .ok (.bipush (-2), 2) := by decide +kernel
theorem dX7_say_42 : decode cX7_say 42 = .ok (.ireturn, 1) := by decide +kernel
theorem dX7_say_43 : decode cX7_say 43 = .ok (.aload_n 0, 1) := by decide +kernel
theorem dX7_say_44 : decode cX7_say 44 = .ok (.getfield 7, 3) := by decide +kernel
theorem dX7_say_47 : decode cX7_say 47 = .ok (.bipush 24, 2) := by decide +kernel
theorem dX7_say_49 : decode cX7_say 49 = .ok (.dup2, 1) := by decide +kernel
theorem dX7_say_50 : decode cX7_say 50 = .ok (.iaload, 1) := by decide +kernel
theorem dX7_say_51 : decode cX7_say 51 = .ok (.iconst 1, 1) := by decide +kernel
theorem dX7_say_52 : decode cX7_say 52 = .ok (.iload_n 1, 1) := by decide +kernel
theorem dX7_say_53 : decode cX7_say 53 = .ok (.ishl, 1) := by decide +kernel
theorem dX7_say_54 : decode cX7_say 54 = .ok (.ior, 1) := by decide +kernel
theorem dX7_say_55 : decode cX7_say 55 = .ok (.iastore, 1) := by decide +kernel
theorem dX7_say_56 : decode cX7_say 56 = .ok (.aload_n 0, 1) := by decide +kernel
theorem dX7_say_57 : decode cX7_say 57 = .ok (.aload_n 0, 1) := by decide +kernel
theorem dX7_say_58 : decode cX7_say 58 = .ok (.getfield 7, 3) := by decide +kernel
theorem dX7_say_61 : decode cX7_say 61 = .ok (.bipush 24, 2) := by decide +kernel
theorem dX7_say_63 : decode cX7_say 63 = .ok (.iaload, 1) := by decide +kernel
theorem dX7_say_64 : decode cX7_say 64 = .ok (.invokevirtual 168, 3) := by decide +kernel
theorem dX7_say_67 : decode cX7_say 67 = .ok (.invokestatic 179, 3) := by decide +kernel
theorem dX7_say_70 : decode cX7_say 70 = .ok (.ireturn, 1) := by decide +kernel
theorem dX7_drop_0 : decode cX7_drop 0 = .ok (.aload_n 0, 1) := by decide +kernel
theorem dX7_drop_1 : decode cX7_drop 1 = .ok (.iload_n 1, 1) := by decide +kernel
theorem dX7_drop_2 : decode cX7_drop 2 = .ok (.invokevirtual 171, 3) := by decide +kernel
theorem dX7_drop_5 : decode cX7_drop 5 = .ok (.ifCond .ne 5, 3) := by decide +kernel
theorem dX7_drop_8 : decode cX7_drop 8 = .ok (.iconst (-1), 1) := by decide +kernel
theorem dX7_drop_9 : decode cX7_drop 9 = .ok (.ireturn, 1) := by decide +kernel
theorem dX7_drop_10 : decode cX7_drop 10 = .ok (.aload_n 0, 1) := by decide +kernel
theorem dX7_drop_11 : decode cX7_drop 11 = .ok (.getfield 7, 3) := by decide +kernel
theorem dX7_drop_14 : decode cX7_drop 14 = .ok (.bipush 24, 2) := by decide +kernel
theorem dX7_drop_16 : decode cX7_drop 16 = .ok (.iaload, 1) := by decide +kernel
theorem dX7_drop_17 : decode cX7_drop 17 = .ok (.iload_n 1, 1) := by decide +kernel
theorem dX7_drop_18 : decode cX7_drop 18 = .ok (.ishr, 1) := by decide +kernel
theorem dX7_drop_19 : decode cX7_drop 19 = .ok (.iconst 1, 1) := by decide +kernel
theorem dX7_drop_20 : decode cX7_drop 20 = .ok (.iand, 1) := by decide +kernel
theorem dX7_drop_21 : decode cX7_drop 21 = .ok (.ifCond .ne 6, 3) := by decide +kernel
theorem dX7_drop_24 : decode cX7_drop 24 = .ok (.bipush (-2), 2) := by decide +kernel
theorem dX7_drop_26 : decode cX7_drop 26 = .ok (.ireturn, 1) := by decide +kernel
theorem dX7_drop_27 : decode cX7_drop 27 = .ok (.aload_n 0, 1) := by decide +kernel
theorem dX7_drop_28 : decode cX7_drop 28 = .ok (.getfield 7, 3) := by decide +kernel
theorem dX7_drop_31 : decode cX7_drop 31 = .ok (.bipush 24, 2) := by decide +kernel
theorem dX7_drop_33 : decode cX7_drop 33 = .ok (.dup2, 1) := by decide +kernel
theorem dX7_drop_34 : decode cX7_drop 34 = .ok (.iaload, 1) := by decide +kernel
theorem dX7_drop_35 : decode cX7_drop 35 = .ok (.iconst 1, 1) := by decide +kernel
theorem dX7_drop_36 : decode cX7_drop 36 = .ok (.iload_n 1, 1) := by decide +kernel
theorem dX7_drop_37 : decode cX7_drop 37 = .ok (.ishl, 1) := by decide +kernel
theorem dX7_drop_38 : decode cX7_drop 38 = .ok (.iconst (-1), 1) := by decide +kernel
theorem dX7_drop_39 : decode cX7_drop 39 = .ok (.ixor, 1) := by decide +kernel
theorem dX7_drop_40 : decode cX7_drop 40 = .ok (.iand, 1) := by decide +kernel
theorem dX7_drop_41 : decode cX7_drop 41 = .ok (.iastore, 1) := by decide +kernel
theorem dX7_drop_42 : decode cX7_drop 42 = .ok (.aload_n 0, 1) := by decide +kernel
theorem dX7_drop_43 : decode cX7_drop 43 = .ok (.aload_n 0, 1) := by decide +kernel
theorem dX7_drop_44 : decode cX7_drop 44 = .ok (.getfield 7, 3) := by decide +kernel
theorem dX7_drop_47 : decode cX7_drop 47 = .ok (.bipush 24, 2) := by decide +kernel
theorem dX7_drop_49 : decode cX7_drop 49 = .ok (.iaload, 1) := by decide +kernel
theorem dX7_drop_50 : decode cX7_drop 50 = .ok (.invokevirtual 168, 3) := by decide +kernel
theorem dX7_drop_53 : decode cX7_drop 53 = .ok (.invokestatic 179, 3) := by decide +kernel
theorem dX7_drop_56 : decode cX7_drop 56 = .ok (.ireturn, 1) := by decide +kernel
theorem dX7_day_0 : decode cX7_day 0 = .ok (.iload_n 1, 1) := by decide +kernel
theorem dX7_day_1 : decode cX7_day 1 = .ok (.i2l, 1) := by decide +kernel
theorem dX7_day_2 : decode cX7_day 2 = .ok (.lconst 0, 1) := by decide +kernel
theorem dX7_day_3 : decode cX7_day 3 = .ok (.ldc2_w 182, 3) := by decide +kernel
theorem dX7_day_6 : decode cX7_day 6 = .ok (.invokestatic 77, 3) := by decide +kernel
theorem dX7_day_9 : decode cX7_day 9 = .ok (.ifCond .eq 13, 3) := by decide +kernel
theorem dX7_day_12 : decode cX7_day 12 = .ok (.aload_n 0, 1) := by decide +kernel
theorem dX7_day_13 : decode cX7_day 13 = .ok (.bipush 26, 2) := by decide +kernel
theorem dX7_day_15 : decode cX7_day 15 = .ok (.iload_n 1, 1) := by decide +kernel
theorem dX7_day_16 : decode cX7_day 16 = .ok (.invokevirtual 184, 3) := by decide +kernel
theorem dX7_day_19 : decode cX7_day 19 = .ok (.goto 4, 3) := by decide +kernel
theorem dX7_day_22 : decode cX7_day 22 = .ok (.iconst (-1), 1) := by decide +kernel
theorem dX7_day_23 : decode cX7_day 23 = .ok (.ireturn, 1) := by decide +kernel
theorem dX7_aim_0 : decode cX7_aim 0 = .ok (.aload_n 0, 1) := by decide +kernel
theorem dX7_aim_1 : decode cX7_aim 1 = .ok (.iload_n 1, 1) := by decide +kernel
theorem dX7_aim_2 : decode cX7_aim 2 = .ok (.invokevirtual 171, 3) := by decide +kernel
theorem dX7_aim_5 : decode cX7_aim 5 = .ok (.ifCond .eq 13, 3) := by decide +kernel
theorem dX7_aim_8 : decode cX7_aim 8 = .ok (.aload_n 0, 1) := by decide +kernel
theorem dX7_aim_9 : decode cX7_aim 9 = .ok (.bipush 25, 2) := by decide +kernel
theorem dX7_aim_11 : decode cX7_aim 11 = .ok (.iload_n 1, 1) := by decide +kernel
theorem dX7_aim_12 : decode cX7_aim 12 = .ok (.invokevirtual 184, 3) := by decide +kernel
theorem dX7_aim_15 : decode cX7_aim 15 = .ok (.goto 4, 3) := by decide +kernel
theorem dX7_aim_18 : decode cX7_aim 18 = .ok (.iconst (-1), 1) := by decide +kernel
theorem dX7_aim_19 : decode cX7_aim 19 = .ok (.ireturn, 1) := by decide +kernel
theorem dX7_becomesBit_0 : decode cX7_becomesBit 0 = .ok (.aload_n 0, 1) := by decide +kernel
theorem dX7_becomesBit_1 : decode cX7_becomesBit 1 = .ok (.iload_n 1, 1) := by decide +kernel
theorem dX7_becomesBit_2 : decode cX7_becomesBit 2 = .ok (.invokevirtual 171, 3) := by decide +kernel
theorem dX7_becomesBit_5 : decode cX7_becomesBit 5 = .ok (.ifCond .eq 16, 3) := by decide +kernel
theorem dX7_becomesBit_8 : decode cX7_becomesBit 8 = .ok (.iload_n 2, 1) := by decide +kernel
theorem dX7_becomesBit_9 : decode cX7_becomesBit 9 = .ok (.i2l, 1) := by decide +kernel
theorem dX7_becomesBit_10 : decode cX7_becomesBit 10 = .ok (.lconst 0, 1) := by decide +kernel
theorem dX7_becomesBit_11 : decode cX7_becomesBit 11 = .ok (.iload_n 1, 1) := by decide +kernel
theorem dX7_becomesBit_12 : decode cX7_becomesBit 12 = .ok (.iconst 1, 1) := by decide +kernel
theorem dX7_becomesBit_13 : decode cX7_becomesBit 13 = .ok (.isub, 1) := by decide +kernel
theorem dX7_becomesBit_14 : decode cX7_becomesBit 14 = .ok (.i2l, 1) := by decide +kernel
theorem dX7_becomesBit_15 : decode cX7_becomesBit 15 = .ok (.invokestatic 77, 3) := by decide +kernel
theorem dX7_becomesBit_18 : decode cX7_becomesBit 18 = .ok (.ifCond .ne 5, 3) := by decide +kernel
theorem dX7_becomesBit_21 : decode cX7_becomesBit 21 = .ok (.iconst (-1), 1) := by decide +kernel
theorem dX7_becomesBit_22 : decode cX7_becomesBit 22 = .ok (.ireturn, 1) := by decide +kernel
theorem dX7_becomesBit_23 : decode cX7_becomesBit 23 = .ok (.iload_n 3, 1) := by decide +kernel
theorem dX7_becomesBit_24 : decode cX7_becomesBit 24 = .ok (.ifCond .eq 23, 3) := by decide +kernel
theorem dX7_becomesBit_27 : decode cX7_becomesBit 27 = .ok (.aload_n 0, 1) := by decide +kernel
theorem dX7_becomesBit_28 : decode cX7_becomesBit 28 = .ok (.getfield 7, 3) := by decide +kernel
theorem dX7_becomesBit_31 : decode cX7_becomesBit 31 = .ok (.iload 5, 2) := by decide +kernel
theorem dX7_becomesBit_33 : decode cX7_becomesBit 33 = .ok (.iload_n 1, 1) := by decide +kernel
theorem dX7_becomesBit_34 : decode cX7_becomesBit 34 = .ok (.iadd, 1) := by decide +kernel
theorem dX7_becomesBit_35 : decode cX7_becomesBit 35 = .ok (.iaload, 1) := by decide +kernel
theorem dX7_becomesBit_36 : decode cX7_becomesBit 36 = .ok (.iload_n 2, 1) := by decide +kernel
theorem dX7_becomesBit_37 : decode cX7_becomesBit 37 = .ok (.ishr, 1) := by decide +kernel
theorem dX7_becomesBit_38 : decode cX7_becomesBit 38 = .ok (.iconst 1, 1) := by decide +kernel
theorem dX7_becomesBit_39 : decode cX7_becomesBit 39 = .ok (.iand, 1) := by decide +kernel
theorem dX7_becomesBit_40 : decode cX7_becomesBit 40 = .ok (.iconst 1, 1) := by decide +kernel
theorem dX7_becomesBit_41 : decode cX7_becomesBit 41 = .ok (.if_icmp .ne 6, 3) := by decide +kernel
theorem dX7_becomesBit_44 : decode cX7_becomesBit 44 = .ok (.bipush (-2), 2) := by decide +kernel
theorem dX7_becomesBit_46 : decode cX7_becomesBit 46 = .ok (.ireturn, 1) := by decide +kernel
theorem dX7_becomesBit_47 : decode cX7_becomesBit 47 = .ok (.aload_n 0, 1) := by decide +kernel
theorem dX7_becomesBit_48 : decode cX7_becomesBit 48 = .ok (.getfield 7, 3) := by decide +kernel
theorem dX7_becomesBit_51 : decode cX7_becomesBit 51 = .ok (.iload 4, 2) := by decide +kernel
theorem dX7_becomesBit_53 : decode cX7_becomesBit 53 = .ok (.iload_n 1, 1) := by decide +kernel
theorem dX7_becomesBit_54 : decode cX7_becomesBit 54 = .ok (.iadd, 1) := by decide +kernel
theorem dX7_becomesBit_55 : decode cX7_becomesBit 55 = .ok (.iaload, 1) := by decide +kernel
theorem dX7_becomesBit_56 : decode cX7_becomesBit 56 = .ok (.iload_n 2, 1) := by decide +kernel
theorem dX7_becomesBit_57 : decode cX7_becomesBit 57 = .ok (.ishr, 1) := by decide +kernel
theorem dX7_becomesBit_58 : decode cX7_becomesBit 58 = .ok (.iconst 1, 1) := by decide +kernel
theorem dX7_becomesBit_59 : decode cX7_becomesBit 59 = .ok (.iand, 1) := by decide +kernel
theorem dX7_becomesBit_60 : decode cX7_becomesBit 60 = .ok (.istore 6, 2) := by decide +kernel
theorem dX7_becomesBit_62 : decode cX7_becomesBit 62 = .ok (.aload_n 0, 1) := by decide +kernel
theorem dX7_becomesBit_63 : decode cX7_becomesBit 63 = .ok (.getfield 7, 3) := by decide +kernel
theorem dX7_becomesBit_66 : decode cX7_becomesBit 66 = .ok (.iload 4, 2) := by decide +kernel
theorem dX7_becomesBit_68 : decode cX7_becomesBit 68 = .ok (.iload_n 1, 1) := by decide +kernel
theorem dX7_becomesBit_69 : decode cX7_becomesBit 69 = .ok (.iadd, 1) := by decide +kernel
theorem dX7_becomesBit_70 : decode cX7_becomesBit 70 = .ok (.iload_n 3, 1) := by decide +kernel
theorem dX7_becomesBit_71 : decode cX7_becomesBit 71 = .ok (.ifCond .eq 19, 3) := by decide +kernel
theorem dX7_becomesBit_74 : decode cX7_becomesBit 74 = .ok (.aload_n 0, 1) := by decide +kernel
theorem dX7_becomesBit_75 : decode cX7_becomesBit 75 = .ok (.getfield 7, 3) := by decide +kernel
theorem dX7_becomesBit_78 : decode cX7_becomesBit 78 = .ok (.iload 4, 2) := by decide +kernel
theorem dX7_becomesBit_80 : decode cX7_becomesBit 80 = .ok (.iload_n 1, 1) := by decide +kernel
theorem dX7_becomesBit_81 : decode cX7_becomesBit 81 = .ok (.iadd, 1) := by decide +kernel
theorem dX7_becomesBit_82 : decode cX7_becomesBit 82 = .ok (.iaload, 1) := by decide +kernel
theorem dX7_becomesBit_83 : decode cX7_becomesBit 83 = .ok (.iconst 1, 1) := by decide +kernel
theorem dX7_becomesBit_84 : decode cX7_becomesBit 84 = .ok (.iload_n 2, 1) := by decide +kernel
theorem dX7_becomesBit_85 : decode cX7_becomesBit 85 = .ok (.ishl, 1) := by decide +kernel
theorem dX7_becomesBit_86 : decode cX7_becomesBit 86 = .ok (.ior, 1) := by decide +kernel
theorem dX7_becomesBit_87 : decode cX7_becomesBit 87 = .ok (.goto 18, 3) := by decide +kernel
theorem dX7_becomesBit_90 : decode cX7_becomesBit 90 = .ok (.aload_n 0, 1) := by decide +kernel
theorem dX7_becomesBit_91 : decode cX7_becomesBit 91 = .ok (.getfield 7, 3) := by decide +kernel
theorem dX7_becomesBit_94 : decode cX7_becomesBit 94 = .ok (.iload 4, 2) := by decide +kernel
theorem dX7_becomesBit_96 : decode cX7_becomesBit 96 = .ok (.iload_n 1, 1) := by decide +kernel
theorem dX7_becomesBit_97 : decode cX7_becomesBit 97 = .ok (.iadd, 1) := by decide +kernel
theorem dX7_becomesBit_98 : decode cX7_becomesBit 98 = .ok (.iaload, 1) := by decide +kernel
theorem dX7_becomesBit_99 : decode cX7_becomesBit 99 = .ok (.iconst 1, 1) := by decide +kernel
theorem dX7_becomesBit_100 : decode cX7_becomesBit 100 = .ok (.iload_n 2, 1) := by decide +kernel
theorem dX7_becomesBit_101 : decode cX7_becomesBit 101 = .ok (.ishl, 1) := by decide +kernel
theorem dX7_becomesBit_102 : decode cX7_becomesBit 102 = .ok (.iconst (-1), 1) := by decide +kernel
theorem dX7_becomesBit_103 : decode cX7_becomesBit 103 = .ok (.ixor, 1) := by decide +kernel
theorem dX7_becomesBit_104 : decode cX7_becomesBit 104 = .ok (.iand, 1) := by decide +kernel
theorem dX7_becomesBit_105 : decode cX7_becomesBit 105 = .ok (.iastore, 1) := by decide +kernel
theorem dX7_becomesBit_106 : decode cX7_becomesBit 106 = .ok (.iload 6, 2) := by decide +kernel
theorem dX7_becomesBit_108 : decode cX7_becomesBit 108 = .ok (.ireturn, 1) := by decide +kernel
theorem dX7_leans_0 : decode cX7_leans 0 = .ok (.aload_n 0, 1) := by decide +kernel
theorem dX7_leans_1 : decode cX7_leans 1 = .ok (.iload_n 1, 1) := by decide +kernel
theorem dX7_leans_2 : decode cX7_leans 2 = .ok (.iload_n 2, 1) := by decide +kernel
theorem dX7_leans_3 : decode cX7_leans 3 = .ok (.iload_n 3, 1) := by decide +kernel
theorem dX7_leans_4 : decode cX7_leans 4 = .ok (.iconst 0, 1) := by decide +kernel
theorem dX7_leans_5 : decode cX7_leans 5 = .ok (.bipush 8, 2) := by decide +kernel
theorem dX7_leans_7 : decode cX7_leans 7 = .ok (.invokevirtual 187, 3) := by decide +kernel
theorem dX7_leans_10 : decode cX7_leans 10 = .ok (.ireturn, 1) := by decide +kernel
theorem dX7_falls_0 : decode cX7_falls 0 = .ok (.aload_n 0, 1) := by decide +kernel
theorem dX7_falls_1 : decode cX7_falls 1 = .ok (.iload_n 1, 1) := by decide +kernel
theorem dX7_falls_2 : decode cX7_falls 2 = .ok (.iload_n 2, 1) := by decide +kernel
theorem dX7_falls_3 : decode cX7_falls 3 = .ok (.iload_n 3, 1) := by decide +kernel
theorem dX7_falls_4 : decode cX7_falls 4 = .ok (.bipush 8, 2) := by decide +kernel
theorem dX7_falls_6 : decode cX7_falls 6 = .ok (.iconst 0, 1) := by decide +kernel
theorem dX7_falls_7 : decode cX7_falls 7 = .ok (.invokevirtual 187, 3) := by decide +kernel
theorem dX7_falls_10 : decode cX7_falls 10 = .ok (.ireturn, 1) := by decide +kernel
theorem dX7_yards_0 : decode cX7_yards 0 = .ok (.aload_n 0, 1) := by decide +kernel
theorem dX7_yards_1 : decode cX7_yards 1 = .ok (.iload_n 1, 1) := by decide +kernel
theorem dX7_yards_2 : decode cX7_yards 2 = .ok (.invokevirtual 171, 3) := by decide +kernel
theorem dX7_yards_5 : decode cX7_yards 5 = .ok (.ifCond .eq 27, 3) := by decide +kernel
theorem dX7_yards_8 : decode cX7_yards 8 = .ok (.iload_n 2, 1) := by decide +kernel
theorem dX7_yards_9 : decode cX7_yards 9 = .ok (.i2l, 1) := by decide +kernel
theorem dX7_yards_10 : decode cX7_yards 10 = .ok (.lconst 0, 1) := by decide +kernel
theorem dX7_yards_11 : decode cX7_yards 11 = .ok (.ldc2_w 182, 3) := by decide +kernel
theorem dX7_yards_14 : decode cX7_yards 14 = .ok (.invokestatic 77, 3) := by decide +kernel
theorem dX7_yards_17 : decode cX7_yards 17 = .ok (.ifCond .eq 15, 3) := by decide +kernel
theorem dX7_yards_20 : decode cX7_yards 20 = .ok (.aload_n 0, 1) := by decide +kernel
theorem dX7_yards_21 : decode cX7_yards 21 = .ok (.bipush 16, 2) := by decide +kernel
theorem dX7_yards_23 : decode cX7_yards 23 = .ok (.iload_n 1, 1) := by decide +kernel
theorem dX7_yards_24 : decode cX7_yards 24 = .ok (.iadd, 1) := by decide +kernel
theorem dX7_yards_25 : decode cX7_yards 25 = .ok (.iload_n 2, 1) := by decide +kernel
theorem dX7_yards_26 : decode cX7_yards 26 = .ok (.invokevirtual 184, 3) := by decide +kernel
theorem dX7_yards_29 : decode cX7_yards 29 = .ok (.goto 4, 3) := by decide +kernel
theorem dX7_yards_32 : decode cX7_yards 32 = .ok (.iconst (-1), 1) := by decide +kernel
theorem dX7_yards_33 : decode cX7_yards 33 = .ok (.ireturn, 1) := by decide +kernel
theorem dX7_plans_0 : decode cX7_plans 0 = .ok (.aload_n 0, 1) := by decide +kernel
theorem dX7_plans_1 : decode cX7_plans 1 = .ok (.iload_n 1, 1) := by decide +kernel
theorem dX7_plans_2 : decode cX7_plans 2 = .ok (.invokevirtual 171, 3) := by decide +kernel
theorem dX7_plans_5 : decode cX7_plans 5 = .ok (.ifCond .ne 5, 3) := by decide +kernel
theorem dX7_plans_8 : decode cX7_plans 8 = .ok (.iconst (-1), 1) := by decide +kernel
theorem dX7_plans_9 : decode cX7_plans 9 = .ok (.ireturn, 1) := by decide +kernel
theorem dX7_plans_10 : decode cX7_plans 10 = .ok (.aload_n 0, 1) := by decide +kernel
theorem dX7_plans_11 : decode cX7_plans 11 = .ok (.getfield 7, 3) := by decide +kernel
theorem dX7_plans_14 : decode cX7_plans 14 = .ok (.bipush 27, 2) := by decide +kernel
theorem dX7_plans_16 : decode cX7_plans 16 = .ok (.iaload, 1) := by decide +kernel
theorem dX7_plans_17 : decode cX7_plans 17 = .ok (.bipush 6, 2) := by decide +kernel
theorem dX7_plans_19 : decode cX7_plans 19 = .ok (.if_icmp .ne 6, 3) := by decide +kernel
theorem dX7_plans_22 : decode cX7_plans 22 = .ok (.bipush (-3), 2) := by decide +kernel
theorem dX7_plans_24 : decode cX7_plans 24 = .ok (.ireturn, 1) := by decide +kernel
theorem dX7_plans_25 : decode cX7_plans 25 = .ok (.aload_n 0, 1) := by decide +kernel
theorem dX7_plans_26 : decode cX7_plans 26 = .ok (.getfield 7, 3) := by decide +kernel
theorem dX7_plans_29 : decode cX7_plans 29 = .ok (.bipush 28, 2) := by decide +kernel
theorem dX7_plans_31 : decode cX7_plans 31 = .ok (.aload_n 0, 1) := by decide +kernel
theorem dX7_plans_32 : decode cX7_plans 32 = .ok (.getfield 7, 3) := by decide +kernel
theorem dX7_plans_35 : decode cX7_plans 35 = .ok (.bipush 27, 2) := by decide +kernel
theorem dX7_plans_37 : decode cX7_plans 37 = .ok (.iaload, 1) := by decide +kernel
theorem dX7_plans_38 : decode cX7_plans 38 = .ok (.iadd, 1) := by decide +kernel
theorem dX7_plans_39 : decode cX7_plans 39 = .ok (.iload_n 1, 1) := by decide +kernel
theorem dX7_plans_40 : decode cX7_plans 40 = .ok (.iastore, 1) := by decide +kernel
theorem dX7_plans_41 : decode cX7_plans 41 = .ok (.aload_n 0, 1) := by decide +kernel
theorem dX7_plans_42 : decode cX7_plans 42 = .ok (.getfield 7, 3) := by decide +kernel
theorem dX7_plans_45 : decode cX7_plans 45 = .ok (.bipush 27, 2) := by decide +kernel
theorem dX7_plans_47 : decode cX7_plans 47 = .ok (.dup2, 1) := by decide +kernel
theorem dX7_plans_48 : decode cX7_plans 48 = .ok (.iaload, 1) := by decide +kernel
theorem dX7_plans_49 : decode cX7_plans 49 = .ok (.iconst 1, 1) := by decide +kernel
theorem dX7_plans_50 : decode cX7_plans 50 = .ok (.iadd, 1) := by decide +kernel
theorem dX7_plans_51 : decode cX7_plans 51 = .ok (.iastore, 1) := by decide +kernel
theorem dX7_plans_52 : decode cX7_plans 52 = .ok (.aload_n 0, 1) := by decide +kernel
theorem dX7_plans_53 : decode cX7_plans 53 = .ok (.getfield 7, 3) := by decide +kernel
theorem dX7_plans_56 : decode cX7_plans 56 = .ok (.bipush 27, 2) := by decide +kernel
theorem dX7_plans_58 : decode cX7_plans 58 = .ok (.iaload, 1) := by decide +kernel
theorem dX7_plans_59 : decode cX7_plans 59 = .ok (.ireturn, 1) := by decide +kernel
theorem dX7_cut_0 : decode cX7_cut 0 = .ok (.iload_n 1, 1) := by decide +kernel
theorem dX7_cut_1 : decode cX7_cut 1 = .ok (.i2l, 1) := by decide +kernel
theorem dX7_cut_2 : decode cX7_cut 2 = .ok (.lconst 0, 1) := by decide +kernel
theorem dX7_cut_3 : decode cX7_cut 3 = .ok (.aload_n 0, 1) := by decide +kernel
theorem dX7_cut_4 : decode cX7_cut 4 = .ok (.getfield 7, 3) := by decide +kernel
theorem dX7_cut_7 : decode cX7_cut 7 = .ok (.bipush 27, 2) := by decide +kernel
theorem dX7_cut_9 : decode cX7_cut 9 = .ok (.iaload, 1) := by decide +kernel
theorem dX7_cut_10 : decode cX7_cut 10 = .ok (.i2l, 1) := by decide +kernel
theorem dX7_cut_11 : decode cX7_cut 11 = .ok (.invokestatic 77, 3) := by decide +kernel
theorem dX7_cut_14 : decode cX7_cut 14 = .ok (.ifCond .eq 13, 3) := by decide +kernel
theorem dX7_cut_17 : decode cX7_cut 17 = .ok (.aload_n 0, 1) := by decide +kernel
theorem dX7_cut_18 : decode cX7_cut 18 = .ok (.bipush 27, 2) := by decide +kernel
theorem dX7_cut_20 : decode cX7_cut 20 = .ok (.iload_n 1, 1) := by decide +kernel
theorem dX7_cut_21 : decode cX7_cut 21 = .ok (.invokevirtual 184, 3) := by decide +kernel
theorem dX7_cut_24 : decode cX7_cut 24 = .ok (.goto 4, 3) := by decide +kernel
theorem dX7_cut_27 : decode cX7_cut 27 = .ok (.iconst (-1), 1) := by decide +kernel
theorem dX7_cut_28 : decode cX7_cut 28 = .ok (.ireturn, 1) := by decide +kernel
theorem dX7_stands_0 : decode cX7_stands 0 = .ok (.iload_n 1, 1) := by decide +kernel
theorem dX7_stands_1 : decode cX7_stands 1 = .ok (.i2l, 1) := by decide +kernel
theorem dX7_stands_2 : decode cX7_stands 2 = .ok (.lconst 0, 1) := by decide +kernel
theorem dX7_stands_3 : decode cX7_stands 3 = .ok (.aload_n 0, 1) := by decide +kernel
theorem dX7_stands_4 : decode cX7_stands 4 = .ok (.invokevirtual 191, 3) := by decide +kernel
theorem dX7_stands_7 : decode cX7_stands 7 = .ok (.i2l, 1) := by decide +kernel
theorem dX7_stands_8 : decode cX7_stands 8 = .ok (.invokestatic 77, 3) := by decide +kernel
theorem dX7_stands_11 : decode cX7_stands 11 = .ok (.ifCond .eq 11, 3) := by decide +kernel
theorem dX7_stands_14 : decode cX7_stands 14 = .ok (.aload_n 0, 1) := by decide +kernel
theorem dX7_stands_15 : decode cX7_stands 15 = .ok (.iload_n 1, 1) := by decide +kernel
theorem dX7_stands_16 : decode cX7_stands 16 = .ok (.invokevirtual 168, 3) := by decide +kernel
theorem dX7_stands_19 : decode cX7_stands 19 = .ok (.goto 4, 3) := by decide +kernel
theorem dX7_stands_22 : decode cX7_stands 22 = .ok (.iconst (-1), 1) := by decide +kernel
theorem dX7_stands_23 : decode cX7_stands 23 = .ok (.ireturn, 1) := by decide +kernel
theorem dX7_sum_0 : decode cX7_sum 0 = .ok (.iload_n 1, 1) := by decide +kernel
theorem dX7_sum_1 : decode cX7_sum 1 = .ok (.i2l, 1) := by decide +kernel
theorem dX7_sum_2 : decode cX7_sum 2 = .ok (.lconst 0, 1) := by decide +kernel
theorem dX7_sum_3 : decode cX7_sum 3 = .ok (.ldc2_w 194, 3) := by decide +kernel
theorem dX7_sum_6 : decode cX7_sum 6 = .ok (.invokestatic 77, 3) := by decide +kernel
theorem dX7_sum_9 : decode cX7_sum 9 = .ok (.ifCond .ne 5, 3) := by decide +kernel
theorem dX7_sum_12 : decode cX7_sum 12 = .ok (.iconst (-1), 1) := by decide +kernel
theorem dX7_sum_13 : decode cX7_sum 13 = .ok (.ireturn, 1) := by decide +kernel
theorem dX7_sum_14 : decode cX7_sum 14 = .ok (.aload_n 0, 1) := by decide +kernel
theorem dX7_sum_15 : decode cX7_sum 15 = .ok (.aload_n 0, 1) := by decide +kernel
theorem dX7_sum_16 : decode cX7_sum 16 = .ok (.getfield 7, 3) := by decide +kernel
theorem dX7_sum_19 : decode cX7_sum 19 = .ok (.bipush 24, 2) := by decide +kernel
theorem dX7_sum_21 : decode cX7_sum 21 = .ok (.iaload, 1) := by decide +kernel
theorem dX7_sum_22 : decode cX7_sum 22 = .ok (.invokevirtual 168, 3) := by decide +kernel
theorem dX7_sum_25 : decode cX7_sum 25 = .ok (.istore_n 2, 1) := by decide +kernel
theorem dX7_sum_26 : decode cX7_sum 26 = .ok (.iconst 0, 1) := by decide +kernel
theorem dX7_sum_27 : decode cX7_sum 27 = .ok (.istore_n 3, 1) := by decide +kernel
theorem dX7_sum_28 : decode cX7_sum 28 = .ok (.iconst 0, 1) := by decide +kernel
theorem dX7_sum_29 : decode cX7_sum 29 = .ok (.istore 4, 2) := by decide +kernel
theorem dX7_sum_31 : decode cX7_sum 31 = .ok (.iload 4, 2) := by decide +kernel
theorem dX7_sum_33 : decode cX7_sum 33 = .ok (.aload_n 0, 1) := by decide +kernel
theorem dX7_sum_34 : decode cX7_sum 34 = .ok (.getfield 72, 3) := by decide +kernel
theorem dX7_sum_37 : decode cX7_sum 37 = .ok (.if_icmp .ge 47, 3) := by decide +kernel
theorem dX7_sum_40 : decode cX7_sum 40 = .ok (.iload_n 3, 1) := by decide +kernel
theorem dX7_sum_41 : decode cX7_sum 41 = .ok (.iload_n 2, 1) := by decide +kernel
theorem dX7_sum_42 : decode cX7_sum 42 = .ok (.iload 4, 2) := by decide +kernel
theorem dX7_sum_44 : decode cX7_sum 44 = .ok (.ishr, 1) := by decide +kernel
theorem dX7_sum_45 : decode cX7_sum 45 = .ok (.iconst 1, 1) := by decide +kernel
theorem dX7_sum_46 : decode cX7_sum 46 = .ok (.iand, 1) := by decide +kernel
theorem dX7_sum_47 : decode cX7_sum 47 = .ok (.iconst 1, 1) := by decide +kernel
theorem dX7_sum_48 : decode cX7_sum 48 = .ok (.if_icmp .ne 27, 3) := by decide +kernel
theorem dX7_sum_51 : decode cX7_sum 51 = .ok (.aload_n 0, 1) := by decide +kernel
theorem dX7_sum_52 : decode cX7_sum 52 = .ok (.getfield 17, 3) := by decide +kernel
theorem dX7_sum_55 : decode cX7_sum 55 = .ok (.iload 4, 2) := by decide +kernel
theorem dX7_sum_57 : decode cX7_sum 57 = .ok (.iaload, 1) := by decide +kernel
theorem dX7_sum_58 : decode cX7_sum 58 = .ok (.iload_n 1, 1) := by decide +kernel
theorem dX7_sum_59 : decode cX7_sum 59 = .ok (.if_icmp .ne 16, 3) := by decide +kernel
theorem dX7_sum_62 : decode cX7_sum 62 = .ok (.aload_n 0, 1) := by decide +kernel
theorem dX7_sum_63 : decode cX7_sum 63 = .ok (.getfield 7, 3) := by decide +kernel
theorem dX7_sum_66 : decode cX7_sum 66 = .ok (.bipush 16, 2) := by decide +kernel
theorem dX7_sum_68 : decode cX7_sum 68 = .ok (.iload 4, 2) := by decide +kernel
theorem dX7_sum_70 : decode cX7_sum 70 = .ok (.iadd, 1) := by decide +kernel
theorem dX7_sum_71 : decode cX7_sum 71 = .ok (.iaload, 1) := by decide +kernel
theorem dX7_sum_72 : decode cX7_sum 72 = .ok (.goto 4, 3) := by decide +kernel
theorem dX7_sum_75 : decode cX7_sum 75 = .ok (.iconst 0, 1) := by decide +kernel
theorem dX7_sum_76 : decode cX7_sum 76 = .ok (.iadd, 1) := by decide +kernel
theorem dX7_sum_77 : decode cX7_sum 77 = .ok (.istore_n 3, 1) := by decide +kernel
theorem dX7_sum_78 : decode cX7_sum 78 = .ok (.iinc 4 1, 3) := by decide +kernel
theorem dX7_sum_81 : decode cX7_sum 81 = .ok (.goto (-50), 3) := by decide +kernel
theorem dX7_sum_84 : decode cX7_sum 84 = .ok (.iload_n 3, 1) := by decide +kernel
theorem dX7_sum_85 : decode cX7_sum 85 = .ok (.ireturn, 1) := by decide +kernel
theorem dX7_upon_0 : decode cX7_upon 0 = .ok (.aload_n 0, 1) := by decide +kernel
theorem dX7_upon_1 : decode cX7_upon 1 = .ok (.iload_n 1, 1) := by decide +kernel
theorem dX7_upon_2 : decode cX7_upon 2 = .ok (.invokevirtual 171, 3) := by decide +kernel
theorem dX7_upon_5 : decode cX7_upon 5 = .ok (.ifCond .eq 37, 3) := by decide +kernel
theorem dX7_upon_8 : decode cX7_upon 8 = .ok (.aload_n 0, 1) := by decide +kernel
theorem dX7_upon_9 : decode cX7_upon 9 = .ok (.aload_n 0, 1) := by decide +kernel
theorem dX7_upon_10 : decode cX7_upon 10 = .ok (.getfield 7, 3) := by decide +kernel
theorem dX7_upon_13 : decode cX7_upon 13 = .ok (.bipush 24, 2) := by decide +kernel
theorem dX7_upon_15 : decode cX7_upon 15 = .ok (.iaload, 1) := by decide +kernel
theorem dX7_upon_16 : decode cX7_upon 16 = .ok (.invokevirtual 168, 3) := by decide +kernel
theorem dX7_upon_19 : decode cX7_upon 19 = .ok (.aload_n 0, 1) := by decide +kernel
theorem dX7_upon_20 : decode cX7_upon 20 = .ok (.aload_n 0, 1) := by decide +kernel
theorem dX7_upon_21 : decode cX7_upon 21 = .ok (.getfield 7, 3) := by decide +kernel
theorem dX7_upon_24 : decode cX7_upon 24 = .ok (.bipush 24, 2) := by decide +kernel
theorem dX7_upon_26 : decode cX7_upon 26 = .ok (.iaload, 1) := by decide +kernel
theorem dX7_upon_27 : decode cX7_upon 27 = .ok (.iconst 1, 1) := by decide +kernel
theorem dX7_upon_28 : decode cX7_upon 28 = .ok (.iload_n 1, 1) := by decide +kernel
theorem dX7_upon_29 : decode cX7_upon 29 = .ok (.ishl, 1) := by decide +kernel
theorem dX7_upon_30 : decode cX7_upon 30 = .ok (.iconst (-1), 1) := by decide +kernel
theorem dX7_upon_31 : decode cX7_upon 31 = .ok (.ixor, 1) := by decide +kernel
theorem dX7_upon_32 : decode cX7_upon 32 = .ok (.iand, 1) := by decide +kernel
theorem dX7_upon_33 : decode cX7_upon 33 = .ok (.invokevirtual 168, 3) := by decide +kernel
theorem dX7_upon_36 : decode cX7_upon 36 = .ok (.iconst (-1), 1) := by decide +kernel
theorem dX7_upon_37 : decode cX7_upon 37 = .ok (.ixor, 1) := by decide +kernel
theorem dX7_upon_38 : decode cX7_upon 38 = .ok (.iand, 1) := by decide +kernel
theorem dX7_upon_39 : decode cX7_upon 39 = .ok (.goto 4, 3) := by decide +kernel
theorem dX7_upon_42 : decode cX7_upon 42 = .ok (.iconst (-1), 1) := by decide +kernel
theorem dX7_upon_43 : decode cX7_upon 43 = .ok (.ireturn, 1) := by decide +kernel
theorem dX7_reply_0 : decode cX7_reply 0 = .ok (.aload_n 0, 1) := by decide +kernel
theorem dX7_reply_1 : decode cX7_reply 1 = .ok (.iload_n 1, 1) := by decide +kernel
theorem dX7_reply_2 : decode cX7_reply 2 = .ok (.invokevirtual 171, 3) := by decide +kernel
theorem dX7_reply_5 : decode cX7_reply 5 = .ok (.ifCond .eq 10, 3) := by decide +kernel
theorem dX7_reply_8 : decode cX7_reply 8 = .ok (.iload_n 2, 1) := by decide +kernel
theorem dX7_reply_9 : decode cX7_reply 9 = .ok (.invokestatic 196, 3) := by decide +kernel
theorem dX7_reply_12 : decode cX7_reply 12 = .ok (.ifCond .ne 5, 3) := by decide +kernel
theorem dX7_reply_15 : decode cX7_reply 15 = .ok (.iconst (-1), 1) := by decide +kernel
theorem dX7_reply_16 : decode cX7_reply 16 = .ok (.ireturn, 1) := by decide +kernel
theorem dX7_reply_17 : decode cX7_reply 17 = .ok (.iconst 0, 1) := by decide +kernel
theorem dX7_reply_18 : decode cX7_reply 18 = .ok (.istore_n 3, 1) := by decide +kernel
theorem dX7_reply_19 : decode cX7_reply 19 = .ok (.aload_n 0, 1) := by decide +kernel
theorem dX7_reply_20 : decode cX7_reply 20 = .ok (.aload_n 0, 1) := by decide +kernel
theorem dX7_reply_21 : decode cX7_reply 21 = .ok (.getfield 7, 3) := by decide +kernel
theorem dX7_reply_24 : decode cX7_reply 24 = .ok (.bipush 24, 2) := by decide +kernel
theorem dX7_reply_26 : decode cX7_reply 26 = .ok (.iaload, 1) := by decide +kernel
theorem dX7_reply_27 : decode cX7_reply 27 = .ok (.invokevirtual 168, 3) := by decide +kernel
theorem dX7_reply_30 : decode cX7_reply 30 = .ok (.iload_n 1, 1) := by decide +kernel
theorem dX7_reply_31 : decode cX7_reply 31 = .ok (.ishr, 1) := by decide +kernel
theorem dX7_reply_32 : decode cX7_reply 32 = .ok (.iconst 1, 1) := by decide +kernel
theorem dX7_reply_33 : decode cX7_reply 33 = .ok (.iand, 1) := by decide +kernel
theorem dX7_reply_34 : decode cX7_reply 34 = .ok (.istore 4, 2) := by decide +kernel
theorem dX7_reply_36 : decode cX7_reply 36 = .ok (.iconst 0, 1) := by decide +kernel
theorem dX7_reply_37 : decode cX7_reply 37 = .ok (.istore 5, 2) := by decide +kernel
theorem dX7_reply_39 : decode cX7_reply 39 = .ok (.iload 5, 2) := by decide +kernel
theorem dX7_reply_41 : decode cX7_reply 41 = .ok (.aload_n 0, 1) := by decide +kernel
theorem dX7_reply_42 : decode cX7_reply 42 = .ok (.getfield 72, 3) := by decide +kernel
theorem dX7_reply_45 : decode cX7_reply 45 = .ok (.if_icmp .ge 78, 3) := by decide +kernel
theorem dX7_reply_48 : decode cX7_reply 48 = .ok (.aload_n 0, 1) := by decide +kernel
theorem dX7_reply_49 : decode cX7_reply 49 = .ok (.aload_n 0, 1) := by decide +kernel
theorem dX7_reply_50 : decode cX7_reply 50 = .ok (.getfield 7, 3) := by decide +kernel
theorem dX7_reply_53 : decode cX7_reply 53 = .ok (.bipush 24, 2) := by decide +kernel
theorem dX7_reply_55 : decode cX7_reply 55 = .ok (.iaload, 1) := by decide +kernel
theorem dX7_reply_56 : decode cX7_reply 56 = .ok (.iconst 1, 1) := by decide +kernel
theorem dX7_reply_57 : decode cX7_reply 57 = .ok (.iload 5, 2) := by decide +kernel
theorem dX7_reply_59 : decode cX7_reply 59 = .ok (.ishl, 1) := by decide +kernel
theorem dX7_reply_60 : decode cX7_reply 60 = .ok (.ior, 1) := by decide +kernel
theorem dX7_reply_61 : decode cX7_reply 61 = .ok (.invokevirtual 168, 3) := by decide +kernel
theorem dX7_reply_64 : decode cX7_reply 64 = .ok (.iload_n 1, 1) := by decide +kernel
theorem dX7_reply_65 : decode cX7_reply 65 = .ok (.ishr, 1) := by decide +kernel
theorem dX7_reply_66 : decode cX7_reply 66 = .ok (.iconst 1, 1) := by decide +kernel
theorem dX7_reply_67 : decode cX7_reply 67 = .ok (.iand, 1) := by decide +kernel
theorem dX7_reply_68 : decode cX7_reply 68 = .ok (.istore 6, 2) := by decide +kernel
theorem dX7_reply_70 : decode cX7_reply 70 = .ok (.aload_n 0, 1) := by decide +kernel
theorem dX7_reply_71 : decode cX7_reply 71 = .ok (.getfield 7, 3) := by decide +kernel
theorem dX7_reply_74 : decode cX7_reply 74 = .ok (.bipush 24, 2) := by decide +kernel
theorem dX7_reply_76 : decode cX7_reply 76 = .ok (.iaload, 1) := by decide +kernel
theorem dX7_reply_77 : decode cX7_reply 77 = .ok (.iload 5, 2) := by decide +kernel
theorem dX7_reply_79 : decode cX7_reply 79 = .ok (.ishr, 1) := by decide +kernel
theorem dX7_reply_80 : decode cX7_reply 80 = .ok (.iconst 1, 1) := by decide +kernel
theorem dX7_reply_81 : decode cX7_reply 81 = .ok (.iand, 1) := by decide +kernel
theorem dX7_reply_82 : decode cX7_reply 82 = .ok (.ifCond .ne 21, 3) := by decide +kernel
theorem dX7_reply_85 : decode cX7_reply 85 = .ok (.iload 4, 2) := by decide +kernel
theorem dX7_reply_87 : decode cX7_reply 87 = .ok (.iconst 1, 1) := by decide +kernel
theorem dX7_reply_88 : decode cX7_reply 88 = .ok (.iload_n 2, 1) := by decide +kernel
theorem dX7_reply_89 : decode cX7_reply 89 = .ok (.isub, 1) := by decide +kernel
theorem dX7_reply_90 : decode cX7_reply 90 = .ok (.if_icmp .ne 13, 3) := by decide +kernel
theorem dX7_reply_93 : decode cX7_reply 93 = .ok (.iload 6, 2) := by decide +kernel
theorem dX7_reply_95 : decode cX7_reply 95 = .ok (.iload_n 2, 1) := by decide +kernel
theorem dX7_reply_96 : decode cX7_reply 96 = .ok (.if_icmp .ne 7, 3) := by decide +kernel
theorem dX7_reply_99 : decode cX7_reply 99 = .ok (.iconst 1, 1) := by decide +kernel
theorem dX7_reply_100 : decode cX7_reply 100 = .ok (.goto 4, 3) := by decide +kernel
theorem dX7_reply_103 : decode cX7_reply 103 = .ok (.iconst 0, 1) := by decide +kernel
theorem dX7_reply_104 : decode cX7_reply 104 = .ok (.istore 7, 2) := by decide +kernel
theorem dX7_reply_106 : decode cX7_reply 106 = .ok (.iload_n 3, 1) := by decide +kernel
theorem dX7_reply_107 : decode cX7_reply 107 = .ok (.iload 7, 2) := by decide +kernel
theorem dX7_reply_109 : decode cX7_reply 109 = .ok (.invokestatic 164, 3) := by decide +kernel
theorem dX7_reply_112 : decode cX7_reply 112 = .ok (.iload 5, 2) := by decide +kernel
theorem dX7_reply_114 : decode cX7_reply 114 = .ok (.ishl, 1) := by decide +kernel
theorem dX7_reply_115 : decode cX7_reply 115 = .ok (.ior, 1) := by decide +kernel
theorem dX7_reply_116 : decode cX7_reply 116 = .ok (.istore_n 3, 1) := by decide +kernel
theorem dX7_reply_117 : decode cX7_reply 117 = .ok (.iinc 5 1, 3) := by decide +kernel
theorem dX7_reply_120 : decode cX7_reply 120 = .ok (.goto (-81), 3) := by decide +kernel
theorem dX7_reply_123 : decode cX7_reply 123 = .ok (.iload_n 3, 1) := by decide +kernel
theorem dX7_reply_124 : decode cX7_reply 124 = .ok (.ireturn, 1) := by decide +kernel
theorem dX7_ever_0 : decode cX7_ever 0 = .ok (.iload_n 1, 1) := by decide +kernel
theorem dX7_ever_1 : decode cX7_ever 1 = .ok (.invokestatic 196, 3) := by decide +kernel
theorem dX7_ever_4 : decode cX7_ever 4 = .ok (.ifCond .ne 5, 3) := by decide +kernel
theorem dX7_ever_7 : decode cX7_ever 7 = .ok (.iconst (-1), 1) := by decide +kernel
theorem dX7_ever_8 : decode cX7_ever 8 = .ok (.ireturn, 1) := by decide +kernel
theorem dX7_ever_9 : decode cX7_ever 9 = .ok (.aload_n 0, 1) := by decide +kernel
theorem dX7_ever_10 : decode cX7_ever 10 = .ok (.invokevirtual 191, 3) := by decide +kernel
theorem dX7_ever_13 : decode cX7_ever 13 = .ok (.istore_n 2, 1) := by decide +kernel
theorem dX7_ever_14 : decode cX7_ever 14 = .ok (.aload_n 0, 1) := by decide +kernel
theorem dX7_ever_15 : decode cX7_ever 15 = .ok (.invokevirtual 191, 3) := by decide +kernel
theorem dX7_ever_18 : decode cX7_ever 18 = .ok (.istore_n 3, 1) := by decide +kernel
theorem dX7_ever_19 : decode cX7_ever 19 = .ok (.iconst 0, 1) := by decide +kernel
theorem dX7_ever_20 : decode cX7_ever 20 = .ok (.istore 4, 2) := by decide +kernel
theorem dX7_ever_22 : decode cX7_ever 22 = .ok (.iload 4, 2) := by decide +kernel
theorem dX7_ever_24 : decode cX7_ever 24 = .ok (.aload_n 0, 1) := by decide +kernel
theorem dX7_ever_25 : decode cX7_ever 25 = .ok (.invokevirtual 191, 3) := by decide +kernel
theorem dX7_ever_28 : decode cX7_ever 28 = .ok (.if_icmp .gt 34, 3) := by decide +kernel
theorem dX7_ever_31 : decode cX7_ever 31 = .ok (.iload_n 2, 1) := by decide +kernel
theorem dX7_ever_32 : decode cX7_ever 32 = .ok (.aload_n 0, 1) := by decide +kernel
theorem dX7_ever_33 : decode cX7_ever 33 = .ok (.iload 4, 2) := by decide +kernel
theorem dX7_ever_35 : decode cX7_ever 35 = .ok (.invokevirtual 168, 3) := by decide +kernel
theorem dX7_ever_38 : decode cX7_ever 38 = .ok (.iconst (-1), 1) := by decide +kernel
theorem dX7_ever_39 : decode cX7_ever 39 = .ok (.ixor, 1) := by decide +kernel
theorem dX7_ever_40 : decode cX7_ever 40 = .ok (.iand, 1) := by decide +kernel
theorem dX7_ever_41 : decode cX7_ever 41 = .ok (.istore_n 2, 1) := by decide +kernel
theorem dX7_ever_42 : decode cX7_ever 42 = .ok (.iload_n 3, 1) := by decide +kernel
theorem dX7_ever_43 : decode cX7_ever 43 = .ok (.iload 4, 2) := by decide +kernel
theorem dX7_ever_45 : decode cX7_ever 45 = .ok (.iconst (-1), 1) := by decide +kernel
theorem dX7_ever_46 : decode cX7_ever 46 = .ok (.ixor, 1) := by decide +kernel
theorem dX7_ever_47 : decode cX7_ever 47 = .ok (.aload_n 0, 1) := by decide +kernel
theorem dX7_ever_48 : decode cX7_ever 48 = .ok (.iload 4, 2) := by decide +kernel
theorem dX7_ever_50 : decode cX7_ever 50 = .ok (.invokevirtual 168, 3) := by decide +kernel
theorem dX7_ever_53 : decode cX7_ever 53 = .ok (.ior, 1) := by decide +kernel
theorem dX7_ever_54 : decode cX7_ever 54 = .ok (.iand, 1) := by decide +kernel
theorem dX7_ever_55 : decode cX7_ever 55 = .ok (.istore_n 3, 1) := by decide +kernel
theorem dX7_ever_56 : decode cX7_ever 56 = .ok (.iinc 4 1, 3) := by decide +kernel
theorem dX7_ever_59 : decode cX7_ever 59 = .ok (.goto (-37), 3) := by decide +kernel
theorem dX7_ever_62 : decode cX7_ever 62 = .ok (.iload_n 1, 1) := by decide +kernel
theorem dX7_ever_63 : decode cX7_ever 63 = .ok (.ifCond .ne 7, 3) := by decide +kernel
theorem dX7_ever_66 : decode cX7_ever 66 = .ok (.iload_n 2, 1) := by decide +kernel
theorem dX7_ever_67 : decode cX7_ever 67 = .ok (.goto 4, 3) := by decide +kernel
theorem dX7_ever_70 : decode cX7_ever 70 = .ok (.iload_n 3, 1) := by decide +kernel
theorem dX7_ever_71 : decode cX7_ever 71 = .ok (.ireturn, 1) := by decide +kernel
theorem dX7_chain_0 : decode cX7_chain 0 = .ok (.aload_n 0, 1) := by decide +kernel
theorem dX7_chain_1 : decode cX7_chain 1 = .ok (.iload_n 1, 1) := by decide +kernel
theorem dX7_chain_2 : decode cX7_chain 2 = .ok (.invokevirtual 171, 3) := by decide +kernel
theorem dX7_chain_5 : decode cX7_chain 5 = .ok (.ifCond .ne 5, 3) := by decide +kernel
theorem dX7_chain_8 : decode cX7_chain 8 = .ok (.iconst (-1), 1) := by decide +kernel
theorem dX7_chain_9 : decode cX7_chain 9 = .ok (.ireturn, 1) := by decide +kernel
theorem dX7_chain_10 : decode cX7_chain 10 = .ok (.iconst 0, 1) := by decide +kernel
theorem dX7_chain_11 : decode cX7_chain 11 = .ok (.istore_n 2, 1) := by decide +kernel
theorem dX7_chain_12 : decode cX7_chain 12 = .ok (.iload_n 2, 1) := by decide +kernel
theorem dX7_chain_13 : decode cX7_chain 13 = .ok (.iload_n 1, 1) := by decide +kernel
theorem dX7_chain_14 : decode cX7_chain 14 = .ok (.if_icmp .gt 95, 3) := by decide +kernel
theorem dX7_chain_17 : decode cX7_chain 17 = .ok (.aload_n 0, 1) := by decide +kernel
theorem dX7_chain_18 : decode cX7_chain 18 = .ok (.getfield 41, 3) := by decide +kernel
theorem dX7_chain_21 : decode cX7_chain 21 = .ok (.iload_n 2, 1) := by decide +kernel
theorem dX7_chain_22 : decode cX7_chain 22 = .ok (.iconst 1, 1) := by decide +kernel
theorem dX7_chain_23 : decode cX7_chain 23 = .ok (.iastore, 1) := by decide +kernel
theorem dX7_chain_24 : decode cX7_chain 24 = .ok (.iconst 0, 1) := by decide +kernel
theorem dX7_chain_25 : decode cX7_chain 25 = .ok (.istore_n 3, 1) := by decide +kernel
theorem dX7_chain_26 : decode cX7_chain 26 = .ok (.iload_n 3, 1) := by decide +kernel
theorem dX7_chain_27 : decode cX7_chain 27 = .ok (.iload_n 2, 1) := by decide +kernel
theorem dX7_chain_28 : decode cX7_chain 28 = .ok (.if_icmp .ge 75, 3) := by decide +kernel
theorem dX7_chain_31 : decode cX7_chain 31 = .ok (.aload_n 0, 1) := by decide +kernel
theorem dX7_chain_32 : decode cX7_chain 32 = .ok (.getfield 7, 3) := by decide +kernel
theorem dX7_chain_35 : decode cX7_chain 35 = .ok (.iconst 0, 1) := by decide +kernel
theorem dX7_chain_36 : decode cX7_chain 36 = .ok (.iload_n 2, 1) := by decide +kernel
theorem dX7_chain_37 : decode cX7_chain 37 = .ok (.iadd, 1) := by decide +kernel
theorem dX7_chain_38 : decode cX7_chain 38 = .ok (.iaload, 1) := by decide +kernel
theorem dX7_chain_39 : decode cX7_chain 39 = .ok (.iload_n 3, 1) := by decide +kernel
theorem dX7_chain_40 : decode cX7_chain 40 = .ok (.ishr, 1) := by decide +kernel
theorem dX7_chain_41 : decode cX7_chain 41 = .ok (.iconst 1, 1) := by decide +kernel
theorem dX7_chain_42 : decode cX7_chain 42 = .ok (.iand, 1) := by decide +kernel
theorem dX7_chain_43 : decode cX7_chain 43 = .ok (.iconst 1, 1) := by decide +kernel
theorem dX7_chain_44 : decode cX7_chain 44 = .ok (.if_icmp .ne 22, 3) := by decide +kernel
theorem dX7_chain_47 : decode cX7_chain 47 = .ok (.aload_n 0, 1) := by decide +kernel
theorem dX7_chain_48 : decode cX7_chain 48 = .ok (.getfield 41, 3) := by decide +kernel
theorem dX7_chain_51 : decode cX7_chain 51 = .ok (.iload_n 3, 1) := by decide +kernel
theorem dX7_chain_52 : decode cX7_chain 52 = .ok (.iaload, 1) := by decide +kernel
theorem dX7_chain_53 : decode cX7_chain 53 = .ok (.aload_n 0, 1) := by decide +kernel
theorem dX7_chain_54 : decode cX7_chain 54 = .ok (.getfield 41, 3) := by decide +kernel
theorem dX7_chain_57 : decode cX7_chain 57 = .ok (.iload_n 2, 1) := by decide +kernel
theorem dX7_chain_58 : decode cX7_chain 58 = .ok (.iaload, 1) := by decide +kernel
theorem dX7_chain_59 : decode cX7_chain 59 = .ok (.if_icmp .lt 7, 3) := by decide +kernel
theorem dX7_chain_62 : decode cX7_chain 62 = .ok (.iconst 1, 1) := by decide +kernel
theorem dX7_chain_63 : decode cX7_chain 63 = .ok (.goto 4, 3) := by decide +kernel
theorem dX7_chain_66 : decode cX7_chain 66 = .ok (.iconst 0, 1) := by decide +kernel
theorem dX7_chain_67 : decode cX7_chain 67 = .ok (.istore 4, 2) := by decide +kernel
theorem dX7_chain_69 : decode cX7_chain 69 = .ok (.aload_n 0, 1) := by decide +kernel
theorem dX7_chain_70 : decode cX7_chain 70 = .ok (.getfield 41, 3) := by decide +kernel
theorem dX7_chain_73 : decode cX7_chain 73 = .ok (.iload_n 2, 1) := by decide +kernel
theorem dX7_chain_74 : decode cX7_chain 74 = .ok (.iload 4, 2) := by decide +kernel
theorem dX7_chain_76 : decode cX7_chain 76 = .ok (.ifCond .eq 14, 3) := by decide +kernel
theorem dX7_chain_79 : decode cX7_chain 79 = .ok (.aload_n 0, 1) := by decide +kernel
theorem dX7_chain_80 : decode cX7_chain 80 = .ok (.getfield 41, 3) := by decide +kernel
theorem dX7_chain_83 : decode cX7_chain 83 = .ok (.iload_n 3, 1) := by decide +kernel
theorem dX7_chain_84 : decode cX7_chain 84 = .ok (.iaload, 1) := by decide +kernel
theorem dX7_chain_85 : decode cX7_chain 85 = .ok (.iconst 1, 1) := by decide +kernel
theorem dX7_chain_86 : decode cX7_chain 86 = .ok (.iadd, 1) := by decide +kernel
theorem dX7_chain_87 : decode cX7_chain 87 = .ok (.goto 9, 3) := by decide +kernel
theorem dX7_chain_90 : decode cX7_chain 90 = .ok (.aload_n 0, 1) := by decide +kernel
theorem dX7_chain_91 : decode cX7_chain 91 = .ok (.getfield 41, 3) := by decide +kernel
theorem dX7_chain_94 : decode cX7_chain 94 = .ok (.iload_n 2, 1) := by decide +kernel
theorem dX7_chain_95 : decode cX7_chain 95 = .ok (.iaload, 1) := by decide +kernel
theorem dX7_chain_96 : decode cX7_chain 96 = .ok (.iastore, 1) := by decide +kernel
theorem dX7_chain_97 : decode cX7_chain 97 = .ok (.iinc 3 1, 3) := by decide +kernel
theorem dX7_chain_100 : decode cX7_chain 100 = .ok (.goto (-74), 3) := by decide +kernel
theorem dX7_chain_103 : decode cX7_chain 103 = .ok (.iinc 2 1, 3) := by decide +kernel
theorem dX7_chain_106 : decode cX7_chain 106 = .ok (.goto (-94), 3) := by decide +kernel
theorem dX7_chain_109 : decode cX7_chain 109 = .ok (.aload_n 0, 1) := by decide +kernel
theorem dX7_chain_110 : decode cX7_chain 110 = .ok (.getfield 41, 3) := by decide +kernel
theorem dX7_chain_113 : decode cX7_chain 113 = .ok (.iload_n 1, 1) := by decide +kernel
theorem dX7_chain_114 : decode cX7_chain 114 = .ok (.iaload, 1) := by decide +kernel
theorem dX7_chain_115 : decode cX7_chain 115 = .ok (.ireturn, 1) := by decide +kernel
theorem dX7_late_0 : decode cX7_late 0 = .ok (.iconst 0, 1) := by decide +kernel
theorem dX7_late_1 : decode cX7_late 1 = .ok (.istore_n 1, 1) := by decide +kernel
theorem dX7_late_2 : decode cX7_late 2 = .ok (.iconst 0, 1) := by decide +kernel
theorem dX7_late_3 : decode cX7_late 3 = .ok (.istore_n 2, 1) := by decide +kernel
theorem dX7_late_4 : decode cX7_late 4 = .ok (.iload_n 2, 1) := by decide +kernel
theorem dX7_late_5 : decode cX7_late 5 = .ok (.aload_n 0, 1) := by decide +kernel
theorem dX7_late_6 : decode cX7_late 6 = .ok (.getfield 72, 3) := by decide +kernel
theorem dX7_late_9 : decode cX7_late 9 = .ok (.if_icmp .ge 52, 3) := by decide +kernel
theorem dX7_late_12 : decode cX7_late 12 = .ok (.iload_n 1, 1) := by decide +kernel
theorem dX7_late_13 : decode cX7_late 13 = .ok (.aload_n 0, 1) := by decide +kernel
theorem dX7_late_14 : decode cX7_late 14 = .ok (.getfield 7, 3) := by decide +kernel
theorem dX7_late_17 : decode cX7_late 17 = .ok (.bipush 24, 2) := by decide +kernel
theorem dX7_late_19 : decode cX7_late 19 = .ok (.iaload, 1) := by decide +kernel
theorem dX7_late_20 : decode cX7_late 20 = .ok (.iload_n 2, 1) := by decide +kernel
theorem dX7_late_21 : decode cX7_late 21 = .ok (.ishr, 1) := by decide +kernel
theorem dX7_late_22 : decode cX7_late 22 = .ok (.iconst 1, 1) := by decide +kernel
theorem dX7_late_23 : decode cX7_late 23 = .ok (.iand, 1) := by decide +kernel
theorem dX7_late_24 : decode cX7_late 24 = .ok (.ifCond .ne 23, 3) := by decide +kernel
theorem dX7_late_27 : decode cX7_late 27 = .ok (.aload_n 0, 1) := by decide +kernel
theorem dX7_late_28 : decode cX7_late 28 = .ok (.getfield 23, 3) := by decide +kernel
theorem dX7_late_31 : decode cX7_late 31 = .ok (.iload_n 2, 1) := by decide +kernel
theorem dX7_late_32 : decode cX7_late 32 = .ok (.iaload, 1) := by decide +kernel
theorem dX7_late_33 : decode cX7_late 33 = .ok (.aload_n 0, 1) := by decide +kernel
theorem dX7_late_34 : decode cX7_late 34 = .ok (.getfield 7, 3) := by decide +kernel
theorem dX7_late_37 : decode cX7_late 37 = .ok (.bipush 26, 2) := by decide +kernel
theorem dX7_late_39 : decode cX7_late 39 = .ok (.iaload, 1) := by decide +kernel
theorem dX7_late_40 : decode cX7_late 40 = .ok (.if_icmp .ge 7, 3) := by decide +kernel
theorem dX7_late_43 : decode cX7_late 43 = .ok (.iconst 1, 1) := by decide +kernel
theorem dX7_late_44 : decode cX7_late 44 = .ok (.goto 4, 3) := by decide +kernel
theorem dX7_late_47 : decode cX7_late 47 = .ok (.iconst 0, 1) := by decide +kernel
theorem dX7_late_48 : decode cX7_late 48 = .ok (.invokestatic 164, 3) := by decide +kernel
theorem dX7_late_51 : decode cX7_late 51 = .ok (.iload_n 2, 1) := by decide +kernel
theorem dX7_late_52 : decode cX7_late 52 = .ok (.ishl, 1) := by decide +kernel
theorem dX7_late_53 : decode cX7_late 53 = .ok (.ior, 1) := by decide +kernel
theorem dX7_late_54 : decode cX7_late 54 = .ok (.istore_n 1, 1) := by decide +kernel
theorem dX7_late_55 : decode cX7_late 55 = .ok (.iinc 2 1, 3) := by decide +kernel
theorem dX7_late_58 : decode cX7_late 58 = .ok (.goto (-54), 3) := by decide +kernel
theorem dX7_late_61 : decode cX7_late 61 = .ok (.iload_n 1, 1) := by decide +kernel
theorem dX7_late_62 : decode cX7_late 62 = .ok (.ireturn, 1) := by decide +kernel
theorem dX7_fewest_0 : decode cX7_fewest 0 = .ok (.iload_n 2, 1) := by decide +kernel
theorem dX7_fewest_1 : decode cX7_fewest 1 = .ok (.invokestatic 196, 3) := by decide +kernel
theorem dX7_fewest_4 : decode cX7_fewest 4 = .ok (.ifCond .ne 5, 3) := by decide +kernel
theorem dX7_fewest_7 : decode cX7_fewest 7 = .ok (.iconst (-1), 1) := by decide +kernel
theorem dX7_fewest_8 : decode cX7_fewest 8 = .ok (.ireturn, 1) := by decide +kernel
theorem dX7_fewest_9 : decode cX7_fewest 9 = .ok (.ldc 199, 2) := by decide +kernel
theorem dX7_fewest_11 : decode cX7_fewest 11 = .ok (.istore_n 3, 1) := by decide +kernel
theorem dX7_fewest_12 : decode cX7_fewest 12 = .ok (.bipush (-4), 2) := by decide +kernel
theorem dX7_fewest_14 : decode cX7_fewest 14 = .ok (.istore 4, 2) := by decide +kernel
theorem dX7_fewest_16 : decode cX7_fewest 16 = .ok (.iconst 0, 1) := by decide +kernel
theorem dX7_fewest_17 : decode cX7_fewest 17 = .ok (.istore 5, 2) := by decide +kernel
theorem dX7_fewest_19 : decode cX7_fewest 19 = .ok (.iload 5, 2) := by decide +kernel
theorem dX7_fewest_21 : decode cX7_fewest 21 = .ok (.aload_n 0, 1) := by decide +kernel
theorem dX7_fewest_22 : decode cX7_fewest 22 = .ok (.invokevirtual 191, 3) := by decide +kernel
theorem dX7_fewest_25 : decode cX7_fewest 25 = .ok (.if_icmp .gt 92, 3) := by decide +kernel
theorem dX7_fewest_28 : decode cX7_fewest 28 = .ok (.aload_n 0, 1) := by decide +kernel
theorem dX7_fewest_29 : decode cX7_fewest 29 = .ok (.getfield 72, 3) := by decide +kernel
theorem dX7_fewest_32 : decode cX7_fewest 32 = .ok (.ifCond .le 85, 3) := by decide +kernel
theorem dX7_fewest_35 : decode cX7_fewest 35 = .ok (.iload 5, 2) := by decide +kernel
theorem dX7_fewest_37 : decode cX7_fewest 37 = .ok (.aload_n 0, 1) := by decide +kernel
theorem dX7_fewest_38 : decode cX7_fewest 38 = .ok (.getfield 7, 3) := by decide +kernel
theorem dX7_fewest_41 : decode cX7_fewest 41 = .ok (.bipush 24, 2) := by decide +kernel
theorem dX7_fewest_43 : decode cX7_fewest 43 = .ok (.iaload, 1) := by decide +kernel
theorem dX7_fewest_44 : decode cX7_fewest 44 = .ok (.iand, 1) := by decide +kernel
theorem dX7_fewest_45 : decode cX7_fewest 45 = .ok (.ifCond .ne 34, 3) := by decide +kernel
theorem dX7_fewest_48 : decode cX7_fewest 48 = .ok (.iload 5, 2) := by decide +kernel
theorem dX7_fewest_50 : decode cX7_fewest 50 = .ok (.invokestatic 179, 3) := by decide +kernel
theorem dX7_fewest_53 : decode cX7_fewest 53 = .ok (.iload_n 3, 1) := by decide +kernel
theorem dX7_fewest_54 : decode cX7_fewest 54 = .ok (.if_icmp .ge 25, 3) := by decide +kernel
theorem dX7_fewest_57 : decode cX7_fewest 57 = .ok (.aload_n 0, 1) := by decide +kernel
theorem dX7_fewest_58 : decode cX7_fewest 58 = .ok (.aload_n 0, 1) := by decide +kernel
theorem dX7_fewest_59 : decode cX7_fewest 59 = .ok (.getfield 7, 3) := by decide +kernel
theorem dX7_fewest_62 : decode cX7_fewest 62 = .ok (.bipush 24, 2) := by decide +kernel
theorem dX7_fewest_64 : decode cX7_fewest 64 = .ok (.iaload, 1) := by decide +kernel
theorem dX7_fewest_65 : decode cX7_fewest 65 = .ok (.iload 5, 2) := by decide +kernel
theorem dX7_fewest_67 : decode cX7_fewest 67 = .ok (.ior, 1) := by decide +kernel
theorem dX7_fewest_68 : decode cX7_fewest 68 = .ok (.invokevirtual 200, 3) := by decide +kernel
theorem dX7_fewest_71 : decode cX7_fewest 71 = .ok (.iload_n 1, 1) := by decide +kernel
theorem dX7_fewest_72 : decode cX7_fewest 72 = .ok (.if_icmp .ne 7, 3) := by decide +kernel
theorem dX7_fewest_75 : decode cX7_fewest 75 = .ok (.iconst 1, 1) := by decide +kernel
theorem dX7_fewest_76 : decode cX7_fewest 76 = .ok (.goto 4, 3) := by decide +kernel
theorem dX7_fewest_79 : decode cX7_fewest 79 = .ok (.iconst 0, 1) := by decide +kernel
theorem dX7_fewest_80 : decode cX7_fewest 80 = .ok (.istore 6, 2) := by decide +kernel
theorem dX7_fewest_82 : decode cX7_fewest 82 = .ok (.iload 6, 2) := by decide +kernel
theorem dX7_fewest_84 : decode cX7_fewest 84 = .ok (.ifCond .eq 8, 3) := by decide +kernel
theorem dX7_fewest_87 : decode cX7_fewest 87 = .ok (.iload 5, 2) := by decide +kernel
theorem dX7_fewest_89 : decode cX7_fewest 89 = .ok (.goto 5, 3) := by decide +kernel
theorem dX7_fewest_92 : decode cX7_fewest 92 = .ok (.iload 4, 2) := by decide +kernel
theorem dX7_fewest_94 : decode cX7_fewest 94 = .ok (.istore 4, 2) := by decide +kernel
theorem dX7_fewest_96 : decode cX7_fewest 96 = .ok (.iload 6, 2) := by decide +kernel
theorem dX7_fewest_98 : decode cX7_fewest 98 = .ok (.ifCond .eq 11, 3) := by decide +kernel
theorem dX7_fewest_101 : decode cX7_fewest 101 = .ok (.iload 5, 2) := by decide +kernel
theorem dX7_fewest_103 : decode cX7_fewest 103 = .ok (.invokestatic 179, 3) := by decide +kernel
theorem dX7_fewest_106 : decode cX7_fewest 106 = .ok (.goto 4, 3) := by decide +kernel
theorem dX7_fewest_109 : decode cX7_fewest 109 = .ok (.iload_n 3, 1) := by decide +kernel
theorem dX7_fewest_110 : decode cX7_fewest 110 = .ok (.istore_n 3, 1) := by decide +kernel
theorem dX7_fewest_111 : decode cX7_fewest 111 = .ok (.iinc 5 1, 3) := by decide +kernel
theorem dX7_fewest_114 : decode cX7_fewest 114 = .ok (.goto (-95), 3) := by decide +kernel
theorem dX7_fewest_117 : decode cX7_fewest 117 = .ok (.iload 4, 2) := by decide +kernel
theorem dX7_fewest_119 : decode cX7_fewest 119 = .ok (.bipush (-4), 2) := by decide +kernel
theorem dX7_fewest_121 : decode cX7_fewest 121 = .ok (.if_icmp .ne 8, 3) := by decide +kernel
theorem dX7_fewest_124 : decode cX7_fewest 124 = .ok (.bipush (-4), 2) := by decide +kernel
theorem dX7_fewest_126 : decode cX7_fewest 126 = .ok (.goto 13, 3) := by decide +kernel
theorem dX7_fewest_129 : decode cX7_fewest 129 = .ok (.iload_n 2, 1) := by decide +kernel
theorem dX7_fewest_130 : decode cX7_fewest 130 = .ok (.ifCond .ne 7, 3) := by decide +kernel
theorem dX7_fewest_133 : decode cX7_fewest 133 = .ok (.iload_n 3, 1) := by decide +kernel
theorem dX7_fewest_134 : decode cX7_fewest 134 = .ok (.goto 5, 3) := by decide +kernel
theorem dX7_fewest_137 : decode cX7_fewest 137 = .ok (.iload 4, 2) := by decide +kernel
theorem dX7_fewest_139 : decode cX7_fewest 139 = .ok (.ireturn, 1) := by decide +kernel
theorem dX7_few_0 : decode cX7_few 0 = .ok (.aload_n 0, 1) := by decide +kernel
theorem dX7_few_1 : decode cX7_few 1 = .ok (.iconst 1, 1) := by decide +kernel
theorem dX7_few_2 : decode cX7_few 2 = .ok (.iload_n 1, 1) := by decide +kernel
theorem dX7_few_3 : decode cX7_few 3 = .ok (.invokevirtual 203, 3) := by decide +kernel
theorem dX7_few_6 : decode cX7_few 6 = .ok (.ireturn, 1) := by decide +kernel
theorem dX7_foil_0 : decode cX7_foil 0 = .ok (.aload_n 0, 1) := by decide +kernel
theorem dX7_foil_1 : decode cX7_foil 1 = .ok (.iconst 0, 1) := by decide +kernel
theorem dX7_foil_2 : decode cX7_foil 2 = .ok (.iload_n 1, 1) := by decide +kernel
theorem dX7_foil_3 : decode cX7_foil 3 = .ok (.invokevirtual 203, 3) := by decide +kernel
theorem dX7_foil_6 : decode cX7_foil 6 = .ok (.ireturn, 1) := by decide +kernel
theorem dX7_tries_0 : decode cX7_tries 0 = .ok (.aload_n 0, 1) := by decide +kernel
theorem dX7_tries_1 : decode cX7_tries 1 = .ok (.getfield 7, 3) := by decide +kernel
theorem dX7_tries_4 : decode cX7_tries 4 = .ok (.bipush 24, 2) := by decide +kernel
theorem dX7_tries_6 : decode cX7_tries 6 = .ok (.iaload, 1) := by decide +kernel
theorem dX7_tries_7 : decode cX7_tries 7 = .ok (.istore_n 2, 1) := by decide +kernel
theorem dX7_tries_8 : decode cX7_tries 8 = .ok (.aload_n 0, 1) := by decide +kernel
theorem dX7_tries_9 : decode cX7_tries 9 = .ok (.bipush (-4), 2) := by decide +kernel
theorem dX7_tries_11 : decode cX7_tries 11 = .ok (.putfield 207, 3) := by decide +kernel
theorem dX7_tries_14 : decode cX7_tries 14 = .ok (.aload_n 0, 1) := by decide +kernel
theorem dX7_tries_15 : decode cX7_tries 15 = .ok (.iconst 0, 1) := by decide +kernel
theorem dX7_tries_16 : decode cX7_tries 16 = .ok (.putfield 210, 3) := by decide +kernel
theorem dX7_tries_19 : decode cX7_tries 19 = .ok (.iconst 0, 1) := by decide +kernel
theorem dX7_tries_20 : decode cX7_tries 20 = .ok (.istore_n 3, 1) := by decide +kernel
theorem dX7_tries_21 : decode cX7_tries 21 = .ok (.iload_n 3, 1) := by decide +kernel
theorem dX7_tries_22 : decode cX7_tries 22 = .ok (.aload_n 0, 1) := by decide +kernel
theorem dX7_tries_23 : decode cX7_tries 23 = .ok (.getfield 7, 3) := by decide +kernel
theorem dX7_tries_26 : decode cX7_tries 26 = .ok (.bipush 27, 2) := by decide +kernel
theorem dX7_tries_28 : decode cX7_tries 28 = .ok (.iaload, 1) := by decide +kernel
theorem dX7_tries_29 : decode cX7_tries 29 = .ok (.if_icmp .ge 132, 3) := by decide +kernel
theorem dX7_tries_32 : decode cX7_tries 32 = .ok (.aload_n 0, 1) := by decide +kernel
theorem dX7_tries_33 : decode cX7_tries 33 = .ok (.getfield 7, 3) := by decide +kernel
theorem dX7_tries_36 : decode cX7_tries 36 = .ok (.bipush 28, 2) := by decide +kernel
theorem dX7_tries_38 : decode cX7_tries 38 = .ok (.iload_n 3, 1) := by decide +kernel
theorem dX7_tries_39 : decode cX7_tries 39 = .ok (.iadd, 1) := by decide +kernel
theorem dX7_tries_40 : decode cX7_tries 40 = .ok (.iaload, 1) := by decide +kernel
theorem dX7_tries_41 : decode cX7_tries 41 = .ok (.istore 4, 2) := by decide +kernel
theorem dX7_tries_43 : decode cX7_tries 43 = .ok (.aload_n 0, 1) := by decide +kernel
theorem dX7_tries_44 : decode cX7_tries 44 = .ok (.getfield 7, 3) := by decide +kernel
theorem dX7_tries_47 : decode cX7_tries 47 = .ok (.bipush 26, 2) := by decide +kernel
theorem dX7_tries_49 : decode cX7_tries 49 = .ok (.iaload, 1) := by decide +kernel
theorem dX7_tries_50 : decode cX7_tries 50 = .ok (.iload_n 3, 1) := by decide +kernel
theorem dX7_tries_51 : decode cX7_tries 51 = .ok (.iadd, 1) := by decide +kernel
theorem dX7_tries_52 : decode cX7_tries 52 = .ok (.istore 5, 2) := by decide +kernel
theorem dX7_tries_54 : decode cX7_tries 54 = .ok (.iload 5, 2) := by decide +kernel
theorem dX7_tries_56 : decode cX7_tries 56 = .ok (.bipush 9, 2) := by decide +kernel
theorem dX7_tries_58 : decode cX7_tries 58 = .ok (.if_icmp .gt 35, 3) := by decide +kernel
theorem dX7_tries_61 : decode cX7_tries 61 = .ok (.aload_n 0, 1) := by decide +kernel
theorem dX7_tries_62 : decode cX7_tries 62 = .ok (.iload 4, 2) := by decide +kernel
theorem dX7_tries_64 : decode cX7_tries 64 = .ok (.iload 5, 2) := by decide +kernel
theorem dX7_tries_66 : decode cX7_tries 66 = .ok (.invokevirtual 175, 3) := by decide +kernel
theorem dX7_tries_69 : decode cX7_tries 69 = .ok (.ifCond .eq 24, 3) := by decide +kernel
theorem dX7_tries_72 : decode cX7_tries 72 = .ok (.iload_n 2, 1) := by decide +kernel
theorem dX7_tries_73 : decode cX7_tries 73 = .ok (.iload 4, 2) := by decide +kernel
theorem dX7_tries_75 : decode cX7_tries 75 = .ok (.ishr, 1) := by decide +kernel
theorem dX7_tries_76 : decode cX7_tries 76 = .ok (.iconst 1, 1) := by decide +kernel
theorem dX7_tries_77 : decode cX7_tries 77 = .ok (.iand, 1) := by decide +kernel
theorem dX7_tries_78 : decode cX7_tries 78 = .ok (.ifCond .ne 15, 3) := by decide +kernel
theorem dX7_tries_81 : decode cX7_tries 81 = .ok (.iload_n 1, 1) := by decide +kernel
theorem dX7_tries_82 : decode cX7_tries 82 = .ok (.iload_n 3, 1) := by decide +kernel
theorem dX7_tries_83 : decode cX7_tries 83 = .ok (.ishr, 1) := by decide +kernel
theorem dX7_tries_84 : decode cX7_tries 84 = .ok (.iconst 1, 1) := by decide +kernel
theorem dX7_tries_85 : decode cX7_tries 85 = .ok (.iand, 1) := by decide +kernel
theorem dX7_tries_86 : decode cX7_tries 86 = .ok (.ifCond .ne 7, 3) := by decide +kernel
theorem dX7_tries_89 : decode cX7_tries 89 = .ok (.iconst 1, 1) := by decide +kernel
theorem dX7_tries_90 : decode cX7_tries 90 = .ok (.goto 4, 3) := by decide +kernel
theorem dX7_tries_93 : decode cX7_tries 93 = .ok (.iconst 0, 1) := by decide +kernel
theorem dX7_tries_94 : decode cX7_tries 94 = .ok (.istore 6, 2) := by decide +kernel
theorem dX7_tries_96 : decode cX7_tries 96 = .ok (.iload_n 2, 1) := by decide +kernel
theorem dX7_tries_97 : decode cX7_tries 97 = .ok (.iload 6, 2) := by decide +kernel
theorem dX7_tries_99 : decode cX7_tries 99 = .ok (.invokestatic 164, 3) := by decide +kernel
theorem dX7_tries_102 : decode cX7_tries 102 = .ok (.iload 4, 2) := by decide +kernel
theorem dX7_tries_104 : decode cX7_tries 104 = .ok (.ishl, 1) := by decide +kernel
theorem dX7_tries_105 : decode cX7_tries 105 = .ok (.ior, 1) := by decide +kernel
theorem dX7_tries_106 : decode cX7_tries 106 = .ok (.istore_n 2, 1) := by decide +kernel
theorem dX7_tries_107 : decode cX7_tries 107 = .ok (.aload_n 0, 1) := by decide +kernel
theorem dX7_tries_108 : decode cX7_tries 108 = .ok (.iload 6, 2) := by decide +kernel
theorem dX7_tries_110 : decode cX7_tries 110 = .ok (.ifCond .ne 16, 3) := by decide +kernel
theorem dX7_tries_113 : decode cX7_tries 113 = .ok (.aload_n 0, 1) := by decide +kernel
theorem dX7_tries_114 : decode cX7_tries 114 = .ok (.getfield 207, 3) := by decide +kernel
theorem dX7_tries_117 : decode cX7_tries 117 = .ok (.bipush (-4), 2) := by decide +kernel
theorem dX7_tries_119 : decode cX7_tries 119 = .ok (.if_icmp .ne 7, 3) := by decide +kernel
theorem dX7_tries_122 : decode cX7_tries 122 = .ok (.iload_n 3, 1) := by decide +kernel
theorem dX7_tries_123 : decode cX7_tries 123 = .ok (.goto 7, 3) := by decide +kernel
theorem dX7_tries_126 : decode cX7_tries 126 = .ok (.aload_n 0, 1) := by decide +kernel
theorem dX7_tries_127 : decode cX7_tries 127 = .ok (.getfield 207, 3) := by decide +kernel
theorem dX7_tries_130 : decode cX7_tries 130 = .ok (.putfield 207, 3) := by decide +kernel
theorem dX7_tries_133 : decode cX7_tries 133 = .ok (.aload_n 0, 1) := by decide +kernel
theorem dX7_tries_134 : decode cX7_tries 134 = .ok (.dup, 1) := by decide +kernel
theorem dX7_tries_135 : decode cX7_tries 135 = .ok (.getfield 210, 3) := by decide +kernel
theorem dX7_tries_138 : decode cX7_tries 138 = .ok (.iload 6, 2) := by decide +kernel
theorem dX7_tries_140 : decode cX7_tries 140 = .ok (.ifCond .ne 7, 3) := by decide +kernel
theorem dX7_tries_143 : decode cX7_tries 143 = .ok (.iconst 1, 1) := by decide +kernel
theorem dX7_tries_144 : decode cX7_tries 144 = .ok (.goto 4, 3) := by decide +kernel
theorem dX7_tries_147 : decode cX7_tries 147 = .ok (.iconst 0, 1) := by decide +kernel
theorem dX7_tries_148 : decode cX7_tries 148 = .ok (.invokestatic 164, 3) := by decide +kernel
theorem dX7_tries_151 : decode cX7_tries 151 = .ok (.iadd, 1) := by decide +kernel
theorem dX7_tries_152 : decode cX7_tries 152 = .ok (.putfield 210, 3) := by decide +kernel
theorem dX7_tries_155 : decode cX7_tries 155 = .ok (.iinc 3 1, 3) := by decide +kernel
theorem dX7_tries_158 : decode cX7_tries 158 = .ok (.goto (-137), 3) := by decide +kernel
theorem dX7_tries_161 : decode cX7_tries 161 = .ok (.iload_n 2, 1) := by decide +kernel
theorem dX7_tries_162 : decode cX7_tries 162 = .ok (.ireturn, 1) := by decide +kernel
theorem dX7_trial_0 : decode cX7_trial 0 = .ok (.aload_n 0, 1) := by decide +kernel
theorem dX7_trial_1 : decode cX7_trial 1 = .ok (.iconst 0, 1) := by decide +kernel
theorem dX7_trial_2 : decode cX7_trial 2 = .ok (.invokevirtual 213, 3) := by decide +kernel
theorem dX7_trial_5 : decode cX7_trial 5 = .ok (.istore_n 2, 1) := by decide +kernel
theorem dX7_trial_6 : decode cX7_trial 6 = .ok (.iload_n 1, 1) := by decide +kernel
theorem dX7_trial_7 : decode cX7_trial 7 = .ok (.tableswitch 66 0 3 #[29, 35, 56, 61], 29) := by decide +kernel
theorem dX7_trial_36 : decode cX7_trial 36 = .ok (.aload_n 0, 1) := by decide +kernel
theorem dX7_trial_37 : decode cX7_trial 37 = .ok (.iload_n 2, 1) := by decide +kernel
theorem dX7_trial_38 : decode cX7_trial 38 = .ok (.invokevirtual 168, 3) := by decide +kernel
theorem dX7_trial_41 : decode cX7_trial 41 = .ok (.ireturn, 1) := by decide +kernel
theorem dX7_trial_42 : decode cX7_trial 42 = .ok (.aload_n 0, 1) := by decide +kernel
theorem dX7_trial_43 : decode cX7_trial 43 = .ok (.getfield 72, 3) := by decide +kernel
theorem dX7_trial_46 : decode cX7_trial 46 = .ok (.ifCond .ne 8, 3) := by decide +kernel
theorem dX7_trial_49 : decode cX7_trial 49 = .ok (.bipush (-4), 2) := by decide +kernel
theorem dX7_trial_51 : decode cX7_trial 51 = .ok (.goto 11, 3) := by decide +kernel
theorem dX7_trial_54 : decode cX7_trial 54 = .ok (.aload_n 0, 1) := by decide +kernel
theorem dX7_trial_55 : decode cX7_trial 55 = .ok (.iload_n 2, 1) := by decide +kernel
theorem dX7_trial_56 : decode cX7_trial 56 = .ok (.invokevirtual 200, 3) := by decide +kernel
theorem dX7_trial_59 : decode cX7_trial 59 = .ok (.invokestatic 164, 3) := by decide +kernel
theorem dX7_trial_62 : decode cX7_trial 62 = .ok (.ireturn, 1) := by decide +kernel
theorem dX7_trial_63 : decode cX7_trial 63 = .ok (.aload_n 0, 1) := by decide +kernel
theorem dX7_trial_64 : decode cX7_trial 64 = .ok (.getfield 207, 3) := by decide +kernel
theorem dX7_trial_67 : decode cX7_trial 67 = .ok (.ireturn, 1) := by decide +kernel
theorem dX7_trial_68 : decode cX7_trial 68 = .ok (.aload_n 0, 1) := by decide +kernel
theorem dX7_trial_69 : decode cX7_trial 69 = .ok (.getfield 210, 3) := by decide +kernel
theorem dX7_trial_72 : decode cX7_trial 72 = .ok (.ireturn, 1) := by decide +kernel
theorem dX7_trial_73 : decode cX7_trial 73 = .ok (.iconst (-1), 1) := by decide +kernel
theorem dX7_trial_74 : decode cX7_trial 74 = .ok (.ireturn, 1) := by decide +kernel
theorem dX7_common_0 : decode cX7_common 0 = .ok (.lload_n 0, 1) := by decide +kernel
theorem dX7_common_1 : decode cX7_common 1 = .ok (.lconst 0, 1) := by decide +kernel
theorem dX7_common_2 : decode cX7_common 2 = .ok (.lcmp, 1) := by decide +kernel
theorem dX7_common_3 : decode cX7_common 3 = .ok (.ifCond .ge 8, 3) := by decide +kernel
theorem dX7_common_6 : decode cX7_common 6 = .ok (.lload_n 0, 1) := by decide +kernel
theorem dX7_common_7 : decode cX7_common 7 = .ok (.lneg, 1) := by decide +kernel
theorem dX7_common_8 : decode cX7_common 8 = .ok (.goto 4, 3) := by decide +kernel
theorem dX7_common_11 : decode cX7_common 11 = .ok (.lload_n 0, 1) := by decide +kernel
theorem dX7_common_12 : decode cX7_common 12 = .ok (.lstore 4, 2) := by decide +kernel
theorem dX7_common_14 : decode cX7_common 14 = .ok (.lload_n 2, 1) := by decide +kernel
theorem dX7_common_15 : decode cX7_common 15 = .ok (.lconst 0, 1) := by decide +kernel
theorem dX7_common_16 : decode cX7_common 16 = .ok (.lcmp, 1) := by decide +kernel
theorem dX7_common_17 : decode cX7_common 17 = .ok (.ifCond .ge 8, 3) := by decide +kernel
theorem dX7_common_20 : decode cX7_common 20 = .ok (.lload_n 2, 1) := by decide +kernel
theorem dX7_common_21 : decode cX7_common 21 = .ok (.lneg, 1) := by decide +kernel
theorem dX7_common_22 : decode cX7_common 22 = .ok (.goto 4, 3) := by decide +kernel
theorem dX7_common_25 : decode cX7_common 25 = .ok (.lload_n 2, 1) := by decide +kernel
theorem dX7_common_26 : decode cX7_common 26 = .ok (.lstore 6, 2) := by decide +kernel
theorem dX7_common_28 : decode cX7_common 28 = .ok (.lload 6, 2) := by decide +kernel
theorem dX7_common_30 : decode cX7_common 30 = .ok (.lconst 0, 1) := by decide +kernel
theorem dX7_common_31 : decode cX7_common 31 = .ok (.lcmp, 1) := by decide +kernel
theorem dX7_common_32 : decode cX7_common 32 = .ok (.ifCond .eq 21, 3) := by decide +kernel
theorem dX7_common_35 : decode cX7_common 35 = .ok (.lload 4, 2) := by decide +kernel
theorem dX7_common_37 : decode cX7_common 37 = .ok (.lload 6, 2) := by decide +kernel
theorem dX7_common_39 : decode cX7_common 39 = .ok (.lrem, 1) := by decide +kernel
theorem dX7_common_40 : decode cX7_common 40 = .ok (.lstore 8, 2) := by decide +kernel
theorem dX7_common_42 : decode cX7_common 42 = .ok (.lload 6, 2) := by decide +kernel
theorem dX7_common_44 : decode cX7_common 44 = .ok (.lstore 4, 2) := by decide +kernel
theorem dX7_common_46 : decode cX7_common 46 = .ok (.lload 8, 2) := by decide +kernel
theorem dX7_common_48 : decode cX7_common 48 = .ok (.lstore 6, 2) := by decide +kernel
theorem dX7_common_50 : decode cX7_common 50 = .ok (.goto (-22), 3) := by decide +kernel
theorem dX7_common_53 : decode cX7_common 53 = .ok (.lload 4, 2) := by decide +kernel
theorem dX7_common_55 : decode cX7_common 55 = .ok (.lreturn, 1) := by decide +kernel
theorem dX7_told_0 : decode cX7_told 0 = .ok (.lload_n 2, 1) := by decide +kernel
theorem dX7_told_1 : decode cX7_told 1 = .ok (.lload_n 0, 1) := by decide +kernel
theorem dX7_told_2 : decode cX7_told 2 = .ok (.invokestatic 216, 3) := by decide +kernel
theorem dX7_told_5 : decode cX7_told 5 = .ok (.lstore 5, 2) := by decide +kernel
theorem dX7_told_7 : decode cX7_told 7 = .ok (.iload 4, 2) := by decide +kernel
theorem dX7_told_9 : decode cX7_told 9 = .ok (.ifCond .ne 10, 3) := by decide +kernel
theorem dX7_told_12 : decode cX7_told 12 = .ok (.lload_n 0, 1) := by decide +kernel
theorem dX7_told_13 : decode cX7_told 13 = .ok (.lload 5, 2) := by decide +kernel
theorem dX7_told_15 : decode cX7_told 15 = .ok (.ldiv, 1) := by decide +kernel
theorem dX7_told_16 : decode cX7_told 16 = .ok (.goto 7, 3) := by decide +kernel
theorem dX7_told_19 : decode cX7_told 19 = .ok (.lload_n 2, 1) := by decide +kernel
theorem dX7_told_20 : decode cX7_told 20 = .ok (.lload 5, 2) := by decide +kernel
theorem dX7_told_22 : decode cX7_told 22 = .ok (.ldiv, 1) := by decide +kernel
theorem dX7_told_23 : decode cX7_told 23 = .ok (.lreturn, 1) := by decide +kernel
theorem dX7_luck_0 : decode cX7_luck 0 = .ok (.iload_n 1, 1) := by decide +kernel
theorem dX7_luck_1 : decode cX7_luck 1 = .ok (.i2l, 1) := by decide +kernel
theorem dX7_luck_2 : decode cX7_luck 2 = .ok (.lconst 0, 1) := by decide +kernel
theorem dX7_luck_3 : decode cX7_luck 3 = .ok (.ldc2_w 220, 3) := by decide +kernel
theorem dX7_luck_6 : decode cX7_luck 6 = .ok (.invokestatic 77, 3) := by decide +kernel
theorem dX7_luck_9 : decode cX7_luck 9 = .ok (.ifCond .eq 10, 3) := by decide +kernel
theorem dX7_luck_12 : decode cX7_luck 12 = .ok (.iload_n 2, 1) := by decide +kernel
theorem dX7_luck_13 : decode cX7_luck 13 = .ok (.invokestatic 196, 3) := by decide +kernel
theorem dX7_luck_16 : decode cX7_luck 16 = .ok (.ifCond .ne 7, 3) := by decide +kernel
theorem dX7_luck_19 : decode cX7_luck 19 = .ok (.ldc2_w 222, 3) := by decide +kernel
theorem dX7_luck_22 : decode cX7_luck 22 = .ok (.lreturn, 1) := by decide +kernel
theorem dX7_luck_23 : decode cX7_luck 23 = .ok (.aload_n 0, 1) := by decide +kernel
theorem dX7_luck_24 : decode cX7_luck 24 = .ok (.getfield 72, 3) := by decide +kernel
theorem dX7_luck_27 : decode cX7_luck 27 = .ok (.ifCond .ne 7, 3) := by decide +kernel
theorem dX7_luck_30 : decode cX7_luck 30 = .ok (.ldc2_w 224, 3) := by decide +kernel
theorem dX7_luck_33 : decode cX7_luck 33 = .ok (.lreturn, 1) := by decide +kernel
theorem dX7_luck_34 : decode cX7_luck 34 = .ok (.bipush 10, 2) := by decide +kernel
theorem dX7_luck_36 : decode cX7_luck 36 = .ok (.aload_n 0, 1) := by decide +kernel
theorem dX7_luck_37 : decode cX7_luck 37 = .ok (.getfield 7, 3) := by decide +kernel
theorem dX7_luck_40 : decode cX7_luck 40 = .ok (.bipush 26, 2) := by decide +kernel
theorem dX7_luck_42 : decode cX7_luck 42 = .ok (.iaload, 1) := by decide +kernel
theorem dX7_luck_43 : decode cX7_luck 43 = .ok (.isub, 1) := by decide +kernel
theorem dX7_luck_44 : decode cX7_luck 44 = .ok (.istore_n 3, 1) := by decide +kernel
theorem dX7_luck_45 : decode cX7_luck 45 = .ok (.aload_n 0, 1) := by decide +kernel
theorem dX7_luck_46 : decode cX7_luck 46 = .ok (.getfield 7, 3) := by decide +kernel
theorem dX7_luck_49 : decode cX7_luck 49 = .ok (.bipush 27, 2) := by decide +kernel
theorem dX7_luck_51 : decode cX7_luck 51 = .ok (.iaload, 1) := by decide +kernel
theorem dX7_luck_52 : decode cX7_luck 52 = .ok (.iload_n 3, 1) := by decide +kernel
theorem dX7_luck_53 : decode cX7_luck 53 = .ok (.if_icmp .ge 13, 3) := by decide +kernel
theorem dX7_luck_56 : decode cX7_luck 56 = .ok (.aload_n 0, 1) := by decide +kernel
theorem dX7_luck_57 : decode cX7_luck 57 = .ok (.getfield 7, 3) := by decide +kernel
theorem dX7_luck_60 : decode cX7_luck 60 = .ok (.bipush 27, 2) := by decide +kernel
theorem dX7_luck_62 : decode cX7_luck 62 = .ok (.iaload, 1) := by decide +kernel
theorem dX7_luck_63 : decode cX7_luck 63 = .ok (.goto 4, 3) := by decide +kernel
theorem dX7_luck_66 : decode cX7_luck 66 = .ok (.iload_n 3, 1) := by decide +kernel
theorem dX7_luck_67 : decode cX7_luck 67 = .ok (.istore 4, 2) := by decide +kernel
theorem dX7_luck_69 : decode cX7_luck 69 = .ok (.lconst 1, 1) := by decide +kernel
theorem dX7_luck_70 : decode cX7_luck 70 = .ok (.lstore 5, 2) := by decide +kernel
theorem dX7_luck_72 : decode cX7_luck 72 = .ok (.lconst 0, 1) := by decide +kernel
theorem dX7_luck_73 : decode cX7_luck 73 = .ok (.lstore 7, 2) := by decide +kernel
theorem dX7_luck_75 : decode cX7_luck 75 = .ok (.iconst 0, 1) := by decide +kernel
theorem dX7_luck_76 : decode cX7_luck 76 = .ok (.istore 9, 2) := by decide +kernel
theorem dX7_luck_78 : decode cX7_luck 78 = .ok (.iload 9, 2) := by decide +kernel
theorem dX7_luck_80 : decode cX7_luck 80 = .ok (.iload 4, 2) := by decide +kernel
theorem dX7_luck_82 : decode cX7_luck 82 = .ok (.if_icmp .ge 17, 3) := by decide +kernel
theorem dX7_luck_85 : decode cX7_luck 85 = .ok (.lload 5, 2) := by decide +kernel
theorem dX7_luck_87 : decode cX7_luck 87 = .ok (.ldc2_w 220, 3) := by decide +kernel
theorem dX7_luck_90 : decode cX7_luck 90 = .ok (.lmul, 1) := by decide +kernel
theorem dX7_luck_91 : decode cX7_luck 91 = .ok (.lstore 5, 2) := by decide +kernel
theorem dX7_luck_93 : decode cX7_luck 93 = .ok (.iinc 9 1, 3) := by decide +kernel
theorem dX7_luck_96 : decode cX7_luck 96 = .ok (.goto (-18), 3) := by decide +kernel
theorem dX7_luck_99 : decode cX7_luck 99 = .ok (.iconst 0, 1) := by decide +kernel
theorem dX7_luck_100 : decode cX7_luck 100 = .ok (.istore 9, 2) := by decide +kernel
theorem dX7_luck_102 : decode cX7_luck 102 = .ok (.iload 9, 2) := by decide +kernel
theorem dX7_luck_104 : decode cX7_luck 104 = .ok (.iconst 1, 1) := by decide +kernel
theorem dX7_luck_105 : decode cX7_luck 105 = .ok (.iload 4, 2) := by decide +kernel
theorem dX7_luck_107 : decode cX7_luck 107 = .ok (.ishl, 1) := by decide +kernel
theorem dX7_luck_108 : decode cX7_luck 108 = .ok (.if_icmp .ge 78, 3) := by decide +kernel
theorem dX7_luck_111 : decode cX7_luck 111 = .ok (.lconst 1, 1) := by decide +kernel
theorem dX7_luck_112 : decode cX7_luck 112 = .ok (.lstore 10, 2) := by decide +kernel
theorem dX7_luck_114 : decode cX7_luck 114 = .ok (.iconst 0, 1) := by decide +kernel
theorem dX7_luck_115 : decode cX7_luck 115 = .ok (.istore 12, 2) := by decide +kernel
theorem dX7_luck_117 : decode cX7_luck 117 = .ok (.iload 12, 2) := by decide +kernel
theorem dX7_luck_119 : decode cX7_luck 119 = .ok (.iload 4, 2) := by decide +kernel
theorem dX7_luck_121 : decode cX7_luck 121 = .ok (.if_icmp .ge 35, 3) := by decide +kernel
theorem dX7_luck_124 : decode cX7_luck 124 = .ok (.lload 10, 2) := by decide +kernel
theorem dX7_luck_126 : decode cX7_luck 126 = .ok (.iload 9, 2) := by decide +kernel
theorem dX7_luck_128 : decode cX7_luck 128 = .ok (.iload 12, 2) := by decide +kernel
theorem dX7_luck_130 : decode cX7_luck 130 = .ok (.ishr, 1) := by decide +kernel
theorem dX7_luck_131 : decode cX7_luck 131 = .ok (.iconst 1, 1) := by decide +kernel
theorem dX7_luck_132 : decode cX7_luck 132 = .ok (.iand, 1) := by decide +kernel
theorem dX7_luck_133 : decode cX7_luck 133 = .ok (.iconst 1, 1) := by decide +kernel
theorem dX7_luck_134 : decode cX7_luck 134 = .ok (.if_icmp .ne 8, 3) := by decide +kernel
theorem dX7_luck_137 : decode cX7_luck 137 = .ok (.iload_n 1, 1) := by decide +kernel
theorem dX7_luck_138 : decode cX7_luck 138 = .ok (.i2l, 1) := by decide +kernel
theorem dX7_luck_139 : decode cX7_luck 139 = .ok (.goto 8, 3) := by decide +kernel
theorem dX7_luck_142 : decode cX7_luck 142 = .ok (.bipush 10, 2) := by decide +kernel
theorem dX7_luck_144 : decode cX7_luck 144 = .ok (.iload_n 1, 1) := by decide +kernel
theorem dX7_luck_145 : decode cX7_luck 145 = .ok (.isub, 1) := by decide +kernel
theorem dX7_luck_146 : decode cX7_luck 146 = .ok (.i2l, 1) := by decide +kernel
theorem dX7_luck_147 : decode cX7_luck 147 = .ok (.lmul, 1) := by decide +kernel
theorem dX7_luck_148 : decode cX7_luck 148 = .ok (.lstore 10, 2) := by decide +kernel
theorem dX7_luck_150 : decode cX7_luck 150 = .ok (.iinc 12 1, 3) := by decide +kernel
theorem dX7_luck_153 : decode cX7_luck 153 = .ok (.goto (-36), 3) := by decide +kernel
theorem dX7_luck_156 : decode cX7_luck 156 = .ok (.lload 7, 2) := by decide +kernel
theorem dX7_luck_158 : decode cX7_luck 158 = .ok (.aload_n 0, 1) := by decide +kernel
theorem dX7_luck_159 : decode cX7_luck 159 = .ok (.aload_n 0, 1) := by decide +kernel
theorem dX7_luck_160 : decode cX7_luck 160 = .ok (.iload 9, 2) := by decide +kernel
theorem dX7_luck_162 : decode cX7_luck 162 = .ok (.invokevirtual 213, 3) := by decide +kernel
theorem dX7_luck_165 : decode cX7_luck 165 = .ok (.invokevirtual 200, 3) := by decide +kernel
theorem dX7_luck_168 : decode cX7_luck 168 = .ok (.ifCond .eq 8, 3) := by decide +kernel
theorem dX7_luck_171 : decode cX7_luck 171 = .ok (.lload 10, 2) := by decide +kernel
theorem dX7_luck_173 : decode cX7_luck 173 = .ok (.goto 4, 3) := by decide +kernel
theorem dX7_luck_176 : decode cX7_luck 176 = .ok (.lconst 0, 1) := by decide +kernel
theorem dX7_luck_177 : decode cX7_luck 177 = .ok (.ladd, 1) := by decide +kernel
theorem dX7_luck_178 : decode cX7_luck 178 = .ok (.lstore 7, 2) := by decide +kernel
theorem dX7_luck_180 : decode cX7_luck 180 = .ok (.iinc 9 1, 3) := by decide +kernel
theorem dX7_luck_183 : decode cX7_luck 183 = .ok (.goto (-81), 3) := by decide +kernel
theorem dX7_luck_186 : decode cX7_luck 186 = .ok (.lload 7, 2) := by decide +kernel
theorem dX7_luck_188 : decode cX7_luck 188 = .ok (.lload 5, 2) := by decide +kernel
theorem dX7_luck_190 : decode cX7_luck 190 = .ok (.iload_n 2, 1) := by decide +kernel
theorem dX7_luck_191 : decode cX7_luck 191 = .ok (.invokestatic 226, 3) := by decide +kernel
theorem dX7_luck_194 : decode cX7_luck 194 = .ok (.lreturn, 1) := by decide +kernel
theorem dX7_play_0 : decode cX7_play 0 = .ok (.iconst 0, 1) := by decide +kernel
theorem dX7_play_1 : decode cX7_play 1 = .ok (.istore_n 1, 1) := by decide +kernel
theorem dX7_play_2 : decode cX7_play 2 = .ok (.iload_n 1, 1) := by decide +kernel
theorem dX7_play_3 : decode cX7_play 3 = .ok (.aload_n 0, 1) := by decide +kernel
theorem dX7_play_4 : decode cX7_play 4 = .ok (.invokevirtual 191, 3) := by decide +kernel
theorem dX7_play_7 : decode cX7_play 7 = .ok (.if_icmp .gt 24, 3) := by decide +kernel
theorem dX7_play_10 : decode cX7_play 10 = .ok (.aload_n 0, 1) := by decide +kernel
theorem dX7_play_11 : decode cX7_play 11 = .ok (.getfield 44, 3) := by decide +kernel
theorem dX7_play_14 : decode cX7_play 14 = .ok (.sipush 2560, 3) := by decide +kernel
theorem dX7_play_17 : decode cX7_play 17 = .ok (.iload_n 1, 1) := by decide +kernel
theorem dX7_play_18 : decode cX7_play 18 = .ok (.iadd, 1) := by decide +kernel
theorem dX7_play_19 : decode cX7_play 19 = .ok (.aload_n 0, 1) := by decide +kernel
theorem dX7_play_20 : decode cX7_play 20 = .ok (.iload_n 1, 1) := by decide +kernel
theorem dX7_play_21 : decode cX7_play 21 = .ok (.invokevirtual 200, 3) := by decide +kernel
theorem dX7_play_24 : decode cX7_play 24 = .ok (.bastore, 1) := by decide +kernel
theorem dX7_play_25 : decode cX7_play 25 = .ok (.iinc 1 1, 3) := by decide +kernel
theorem dX7_play_28 : decode cX7_play 28 = .ok (.goto (-26), 3) := by decide +kernel
theorem dX7_play_31 : decode cX7_play 31 = .ok (.bipush 9, 2) := by decide +kernel
theorem dX7_play_33 : decode cX7_play 33 = .ok (.istore_n 1, 1) := by decide +kernel
theorem dX7_play_34 : decode cX7_play 34 = .ok (.iload_n 1, 1) := by decide +kernel
theorem dX7_play_35 : decode cX7_play 35 = .ok (.ifCond .lt 149, 3) := by decide +kernel
theorem dX7_play_38 : decode cX7_play 38 = .ok (.iconst 0, 1) := by decide +kernel
theorem dX7_play_39 : decode cX7_play 39 = .ok (.istore_n 2, 1) := by decide +kernel
theorem dX7_play_40 : decode cX7_play 40 = .ok (.iload_n 2, 1) := by decide +kernel
theorem dX7_play_41 : decode cX7_play 41 = .ok (.aload_n 0, 1) := by decide +kernel
theorem dX7_play_42 : decode cX7_play 42 = .ok (.invokevirtual 191, 3) := by decide +kernel
theorem dX7_play_45 : decode cX7_play 45 = .ok (.if_icmp .gt 133, 3) := by decide +kernel
theorem dX7_play_48 : decode cX7_play 48 = .ok (.iload_n 1, 1) := by decide +kernel
theorem dX7_play_49 : decode cX7_play 49 = .ok (.iconst 2, 1) := by decide +kernel
theorem dX7_play_50 : decode cX7_play 50 = .ok (.irem, 1) := by decide +kernel
theorem dX7_play_51 : decode cX7_play 51 = .ok (.ifCond .ne 7, 3) := by decide +kernel
theorem dX7_play_54 : decode cX7_play 54 = .ok (.iconst 1, 1) := by decide +kernel
theorem dX7_play_55 : decode cX7_play 55 = .ok (.goto 4, 3) := by decide +kernel
theorem dX7_play_58 : decode cX7_play 58 = .ok (.iconst 0, 1) := by decide +kernel
theorem dX7_play_59 : decode cX7_play 59 = .ok (.istore_n 3, 1) := by decide +kernel
theorem dX7_play_60 : decode cX7_play 60 = .ok (.aload_n 0, 1) := by decide +kernel
theorem dX7_play_61 : decode cX7_play 61 = .ok (.getfield 44, 3) := by decide +kernel
theorem dX7_play_64 : decode cX7_play 64 = .ok (.sipush 256, 3) := by decide +kernel
theorem dX7_play_67 : decode cX7_play 67 = .ok (.iload_n 1, 1) := by decide +kernel
theorem dX7_play_68 : decode cX7_play 68 = .ok (.iconst 1, 1) := by decide +kernel
theorem dX7_play_69 : decode cX7_play 69 = .ok (.iadd, 1) := by decide +kernel
theorem dX7_play_70 : decode cX7_play 70 = .ok (.imul, 1) := by decide +kernel
theorem dX7_play_71 : decode cX7_play 71 = .ok (.iload_n 2, 1) := by decide +kernel
theorem dX7_play_72 : decode cX7_play 72 = .ok (.iadd, 1) := by decide +kernel
theorem dX7_play_73 : decode cX7_play 73 = .ok (.baload, 1) := by decide +kernel
theorem dX7_play_74 : decode cX7_play 74 = .ok (.iload_n 3, 1) := by decide +kernel
theorem dX7_play_75 : decode cX7_play 75 = .ok (.if_icmp .ne 7, 3) := by decide +kernel
theorem dX7_play_78 : decode cX7_play 78 = .ok (.iconst 1, 1) := by decide +kernel
theorem dX7_play_79 : decode cX7_play 79 = .ok (.goto 4, 3) := by decide +kernel
theorem dX7_play_82 : decode cX7_play 82 = .ok (.iconst 0, 1) := by decide +kernel
theorem dX7_play_83 : decode cX7_play 83 = .ok (.istore 4, 2) := by decide +kernel
theorem dX7_play_85 : decode cX7_play 85 = .ok (.iconst 0, 1) := by decide +kernel
theorem dX7_play_86 : decode cX7_play 86 = .ok (.istore 5, 2) := by decide +kernel
theorem dX7_play_88 : decode cX7_play 88 = .ok (.iload 5, 2) := by decide +kernel
theorem dX7_play_90 : decode cX7_play 90 = .ok (.aload_n 0, 1) := by decide +kernel
theorem dX7_play_91 : decode cX7_play 91 = .ok (.getfield 72, 3) := by decide +kernel
theorem dX7_play_94 : decode cX7_play 94 = .ok (.if_icmp .ge 55, 3) := by decide +kernel
theorem dX7_play_97 : decode cX7_play 97 = .ok (.iload 4, 2) := by decide +kernel
theorem dX7_play_99 : decode cX7_play 99 = .ok (.ifCond .ne 37, 3) := by decide +kernel
theorem dX7_play_102 : decode cX7_play 102 = .ok (.aload_n 0, 1) := by decide +kernel
theorem dX7_play_103 : decode cX7_play 103 = .ok (.iload 5, 2) := by decide +kernel
theorem dX7_play_105 : decode cX7_play 105 = .ok (.iload_n 1, 1) := by decide +kernel
theorem dX7_play_106 : decode cX7_play 106 = .ok (.iload_n 2, 1) := by decide +kernel
theorem dX7_play_107 : decode cX7_play 107 = .ok (.invokevirtual 230, 3) := by decide +kernel
theorem dX7_play_110 : decode cX7_play 110 = .ok (.ifCond .eq 30, 3) := by decide +kernel
theorem dX7_play_113 : decode cX7_play 113 = .ok (.aload_n 0, 1) := by decide +kernel
theorem dX7_play_114 : decode cX7_play 114 = .ok (.getfield 44, 3) := by decide +kernel
theorem dX7_play_117 : decode cX7_play 117 = .ok (.sipush 256, 3) := by decide +kernel
theorem dX7_play_120 : decode cX7_play 120 = .ok (.iload_n 1, 1) := by decide +kernel
theorem dX7_play_121 : decode cX7_play 121 = .ok (.iconst 1, 1) := by decide +kernel
theorem dX7_play_122 : decode cX7_play 122 = .ok (.iadd, 1) := by decide +kernel
theorem dX7_play_123 : decode cX7_play 123 = .ok (.imul, 1) := by decide +kernel
theorem dX7_play_124 : decode cX7_play 124 = .ok (.iload_n 2, 1) := by decide +kernel
theorem dX7_play_125 : decode cX7_play 125 = .ok (.iconst 1, 1) := by decide +kernel
theorem dX7_play_126 : decode cX7_play 126 = .ok (.iload 5, 2) := by decide +kernel
theorem dX7_play_128 : decode cX7_play 128 = .ok (.ishl, 1) := by decide +kernel
theorem dX7_play_129 : decode cX7_play 129 = .ok (.ior, 1) := by decide +kernel
theorem dX7_play_130 : decode cX7_play 130 = .ok (.iadd, 1) := by decide +kernel
theorem dX7_play_131 : decode cX7_play 131 = .ok (.baload, 1) := by decide +kernel
theorem dX7_play_132 : decode cX7_play 132 = .ok (.iload_n 3, 1) := by decide +kernel
theorem dX7_play_133 : decode cX7_play 133 = .ok (.if_icmp .ne 7, 3) := by decide +kernel
theorem dX7_play_136 : decode cX7_play 136 = .ok (.iconst 1, 1) := by decide +kernel
theorem dX7_play_137 : decode cX7_play 137 = .ok (.goto 4, 3) := by decide +kernel
theorem dX7_play_140 : decode cX7_play 140 = .ok (.iconst 0, 1) := by decide +kernel
theorem dX7_play_141 : decode cX7_play 141 = .ok (.istore 4, 2) := by decide +kernel
theorem dX7_play_143 : decode cX7_play 143 = .ok (.iinc 5 1, 3) := by decide +kernel
theorem dX7_play_146 : decode cX7_play 146 = .ok (.goto (-58), 3) := by decide +kernel
theorem dX7_play_149 : decode cX7_play 149 = .ok (.aload_n 0, 1) := by decide +kernel
theorem dX7_play_150 : decode cX7_play 150 = .ok (.getfield 44, 3) := by decide +kernel
theorem dX7_play_153 : decode cX7_play 153 = .ok (.sipush 256, 3) := by decide +kernel
theorem dX7_play_156 : decode cX7_play 156 = .ok (.iload_n 1, 1) := by decide +kernel
theorem dX7_play_157 : decode cX7_play 157 = .ok (.imul, 1) := by decide +kernel
theorem dX7_play_158 : decode cX7_play 158 = .ok (.iload_n 2, 1) := by decide +kernel
theorem dX7_play_159 : decode cX7_play 159 = .ok (.iadd, 1) := by decide +kernel
theorem dX7_play_160 : decode cX7_play 160 = .ok (.iload 4, 2) := by decide +kernel
theorem dX7_play_162 : decode cX7_play 162 = .ok (.iload_n 3, 1) := by decide +kernel
theorem dX7_play_163 : decode cX7_play 163 = .ok (.if_icmp .ne 7, 3) := by decide +kernel
theorem dX7_play_166 : decode cX7_play 166 = .ok (.iconst 1, 1) := by decide +kernel
theorem dX7_play_167 : decode cX7_play 167 = .ok (.goto 4, 3) := by decide +kernel
theorem dX7_play_170 : decode cX7_play 170 = .ok (.iconst 0, 1) := by decide +kernel
theorem dX7_play_171 : decode cX7_play 171 = .ok (.bastore, 1) := by decide +kernel
theorem dX7_play_172 : decode cX7_play 172 = .ok (.iinc 2 1, 3) := by decide +kernel
theorem dX7_play_175 : decode cX7_play 175 = .ok (.goto (-135), 3) := by decide +kernel
theorem dX7_play_178 : decode cX7_play 178 = .ok (.iinc 1 (-1), 3) := by decide +kernel
theorem dX7_play_181 : decode cX7_play 181 = .ok (.goto (-147), 3) := by decide +kernel
theorem dX7_play_184 : decode cX7_play 184 = .ok (.return_, 1) := by decide +kernel
theorem dX7_canSay_0 : decode cX7_canSay 0 = .ok (.aload_n 0, 1) := by decide +kernel
theorem dX7_canSay_1 : decode cX7_canSay 1 = .ok (.getfield 17, 3) := by decide +kernel
theorem dX7_canSay_4 : decode cX7_canSay 4 = .ok (.iload_n 1, 1) := by decide +kernel
theorem dX7_canSay_5 : decode cX7_canSay 5 = .ok (.iaload, 1) := by decide +kernel
theorem dX7_canSay_6 : decode cX7_canSay 6 = .ok (.iload_n 2, 1) := by decide +kernel
theorem dX7_canSay_7 : decode cX7_canSay 7 = .ok (.iconst 2, 1) := by decide +kernel
theorem dX7_canSay_8 : decode cX7_canSay 8 = .ok (.irem, 1) := by decide +kernel
theorem dX7_canSay_9 : decode cX7_canSay 9 = .ok (.if_icmp .ne 24, 3) := by decide +kernel
theorem dX7_canSay_12 : decode cX7_canSay 12 = .ok (.aload_n 0, 1) := by decide +kernel
theorem dX7_canSay_13 : decode cX7_canSay 13 = .ok (.iload_n 1, 1) := by decide +kernel
theorem dX7_canSay_14 : decode cX7_canSay 14 = .ok (.iload_n 2, 1) := by decide +kernel
theorem dX7_canSay_15 : decode cX7_canSay 15 = .ok (.invokevirtual 175, 3) := by decide +kernel
theorem dX7_canSay_18 : decode cX7_canSay 18 = .ok (.ifCond .eq 15, 3) := by decide +kernel
theorem dX7_canSay_21 : decode cX7_canSay 21 = .ok (.iload_n 3, 1) := by decide +kernel
theorem dX7_canSay_22 : decode cX7_canSay 22 = .ok (.iload_n 1, 1) := by decide +kernel
theorem dX7_canSay_23 : decode cX7_canSay 23 = .ok (.ishr, 1) := by decide +kernel
theorem dX7_canSay_24 : decode cX7_canSay 24 = .ok (.iconst 1, 1) := by decide +kernel
theorem dX7_canSay_25 : decode cX7_canSay 25 = .ok (.iand, 1) := by decide +kernel
theorem dX7_canSay_26 : decode cX7_canSay 26 = .ok (.ifCond .ne 7, 3) := by decide +kernel
theorem dX7_canSay_29 : decode cX7_canSay 29 = .ok (.iconst 1, 1) := by decide +kernel
theorem dX7_canSay_30 : decode cX7_canSay 30 = .ok (.goto 4, 3) := by decide +kernel
theorem dX7_canSay_33 : decode cX7_canSay 33 = .ok (.iconst 0, 1) := by decide +kernel
theorem dX7_canSay_34 : decode cX7_canSay 34 = .ok (.ireturn, 1) := by decide +kernel
theorem dX7_game_0 : decode cX7_game 0 = .ok (.iload_n 1, 1) := by decide +kernel
theorem dX7_game_1 : decode cX7_game 1 = .ok (.invokestatic 196, 3) := by decide +kernel
theorem dX7_game_4 : decode cX7_game 4 = .ok (.ifCond .ne 5, 3) := by decide +kernel
theorem dX7_game_7 : decode cX7_game 7 = .ok (.iconst (-1), 1) := by decide +kernel
theorem dX7_game_8 : decode cX7_game 8 = .ok (.ireturn, 1) := by decide +kernel
theorem dX7_game_9 : decode cX7_game 9 = .ok (.aload_n 0, 1) := by decide +kernel
theorem dX7_game_10 : decode cX7_game 10 = .ok (.getfield 72, 3) := by decide +kernel
theorem dX7_game_13 : decode cX7_game 13 = .ok (.ifCond .ne 6, 3) := by decide +kernel
theorem dX7_game_16 : decode cX7_game 16 = .ok (.bipush (-2), 2) := by decide +kernel
theorem dX7_game_18 : decode cX7_game 18 = .ok (.ireturn, 1) := by decide +kernel
theorem dX7_game_19 : decode cX7_game 19 = .ok (.aload_n 0, 1) := by decide +kernel
theorem dX7_game_20 : decode cX7_game 20 = .ok (.invokevirtual 233, 3) := by decide +kernel
theorem dX7_game_23 : decode cX7_game 23 = .ok (.aload_n 0, 1) := by decide +kernel
theorem dX7_game_24 : decode cX7_game 24 = .ok (.getfield 7, 3) := by decide +kernel
theorem dX7_game_27 : decode cX7_game 27 = .ok (.bipush 26, 2) := by decide +kernel
theorem dX7_game_29 : decode cX7_game 29 = .ok (.iaload, 1) := by decide +kernel
theorem dX7_game_30 : decode cX7_game 30 = .ok (.istore_n 2, 1) := by decide +kernel
theorem dX7_game_31 : decode cX7_game 31 = .ok (.iload_n 2, 1) := by decide +kernel
theorem dX7_game_32 : decode cX7_game 32 = .ok (.iconst 2, 1) := by decide +kernel
theorem dX7_game_33 : decode cX7_game 33 = .ok (.irem, 1) := by decide +kernel
theorem dX7_game_34 : decode cX7_game 34 = .ok (.ifCond .ne 7, 3) := by decide +kernel
theorem dX7_game_37 : decode cX7_game 37 = .ok (.iconst 1, 1) := by decide +kernel
theorem dX7_game_38 : decode cX7_game 38 = .ok (.goto 4, 3) := by decide +kernel
theorem dX7_game_41 : decode cX7_game 41 = .ok (.iconst 0, 1) := by decide +kernel
theorem dX7_game_42 : decode cX7_game 42 = .ok (.istore_n 3, 1) := by decide +kernel
theorem dX7_game_43 : decode cX7_game 43 = .ok (.iload_n 1, 1) := by decide +kernel
theorem dX7_game_44 : decode cX7_game 44 = .ok (.ifCond .ne 25, 3) := by decide +kernel
theorem dX7_game_47 : decode cX7_game 47 = .ok (.aload_n 0, 1) := by decide +kernel
theorem dX7_game_48 : decode cX7_game 48 = .ok (.getfield 44, 3) := by decide +kernel
theorem dX7_game_51 : decode cX7_game 51 = .ok (.sipush 256, 3) := by decide +kernel
theorem dX7_game_54 : decode cX7_game 54 = .ok (.iload_n 2, 1) := by decide +kernel
theorem dX7_game_55 : decode cX7_game 55 = .ok (.imul, 1) := by decide +kernel
theorem dX7_game_56 : decode cX7_game 56 = .ok (.aload_n 0, 1) := by decide +kernel
theorem dX7_game_57 : decode cX7_game 57 = .ok (.getfield 7, 3) := by decide +kernel
theorem dX7_game_60 : decode cX7_game 60 = .ok (.bipush 24, 2) := by decide +kernel
theorem dX7_game_62 : decode cX7_game 62 = .ok (.iaload, 1) := by decide +kernel
theorem dX7_game_63 : decode cX7_game 63 = .ok (.iadd, 1) := by decide +kernel
theorem dX7_game_64 : decode cX7_game 64 = .ok (.baload, 1) := by decide +kernel
theorem dX7_game_65 : decode cX7_game 65 = .ok (.invokestatic 164, 3) := by decide +kernel
theorem dX7_game_68 : decode cX7_game 68 = .ok (.ireturn, 1) := by decide +kernel
theorem dX7_game_69 : decode cX7_game 69 = .ok (.aload_n 0, 1) := by decide +kernel
theorem dX7_game_70 : decode cX7_game 70 = .ok (.getfield 44, 3) := by decide +kernel
theorem dX7_game_73 : decode cX7_game 73 = .ok (.sipush 256, 3) := by decide +kernel
theorem dX7_game_76 : decode cX7_game 76 = .ok (.iload_n 2, 1) := by decide +kernel
theorem dX7_game_77 : decode cX7_game 77 = .ok (.iconst 1, 1) := by decide +kernel
theorem dX7_game_78 : decode cX7_game 78 = .ok (.iadd, 1) := by decide +kernel
theorem dX7_game_79 : decode cX7_game 79 = .ok (.imul, 1) := by decide +kernel
theorem dX7_game_80 : decode cX7_game 80 = .ok (.aload_n 0, 1) := by decide +kernel
theorem dX7_game_81 : decode cX7_game 81 = .ok (.getfield 7, 3) := by decide +kernel
theorem dX7_game_84 : decode cX7_game 84 = .ok (.bipush 24, 2) := by decide +kernel
theorem dX7_game_86 : decode cX7_game 86 = .ok (.iaload, 1) := by decide +kernel
theorem dX7_game_87 : decode cX7_game 87 = .ok (.iadd, 1) := by decide +kernel
theorem dX7_game_88 : decode cX7_game 88 = .ok (.baload, 1) := by decide +kernel
theorem dX7_game_89 : decode cX7_game 89 = .ok (.iload_n 3, 1) := by decide +kernel
theorem dX7_game_90 : decode cX7_game 90 = .ok (.if_icmp .ne 6, 3) := by decide +kernel
theorem dX7_game_93 : decode cX7_game 93 = .ok (.bipush (-4), 2) := by decide +kernel
theorem dX7_game_95 : decode cX7_game 95 = .ok (.ireturn, 1) := by decide +kernel
theorem dX7_game_96 : decode cX7_game 96 = .ok (.iconst 0, 1) := by decide +kernel
theorem dX7_game_97 : decode cX7_game 97 = .ok (.istore 4, 2) := by decide +kernel
theorem dX7_game_99 : decode cX7_game 99 = .ok (.iload 4, 2) := by decide +kernel
theorem dX7_game_101 : decode cX7_game 101 = .ok (.aload_n 0, 1) := by decide +kernel
theorem dX7_game_102 : decode cX7_game 102 = .ok (.getfield 72, 3) := by decide +kernel
theorem dX7_game_105 : decode cX7_game 105 = .ok (.if_icmp .ge 58, 3) := by decide +kernel
theorem dX7_game_108 : decode cX7_game 108 = .ok (.aload_n 0, 1) := by decide +kernel
theorem dX7_game_109 : decode cX7_game 109 = .ok (.iload 4, 2) := by decide +kernel
theorem dX7_game_111 : decode cX7_game 111 = .ok (.iload_n 2, 1) := by decide +kernel
theorem dX7_game_112 : decode cX7_game 112 = .ok (.aload_n 0, 1) := by decide +kernel
theorem dX7_game_113 : decode cX7_game 113 = .ok (.getfield 7, 3) := by decide +kernel
theorem dX7_game_116 : decode cX7_game 116 = .ok (.bipush 24, 2) := by decide +kernel
theorem dX7_game_118 : decode cX7_game 118 = .ok (.iaload, 1) := by decide +kernel
theorem dX7_game_119 : decode cX7_game 119 = .ok (.invokevirtual 230, 3) := by decide +kernel
theorem dX7_game_122 : decode cX7_game 122 = .ok (.ifCond .eq 35, 3) := by decide +kernel
theorem dX7_game_125 : decode cX7_game 125 = .ok (.aload_n 0, 1) := by decide +kernel
theorem dX7_game_126 : decode cX7_game 126 = .ok (.getfield 44, 3) := by decide +kernel
theorem dX7_game_129 : decode cX7_game 129 = .ok (.sipush 256, 3) := by decide +kernel
theorem dX7_game_132 : decode cX7_game 132 = .ok (.iload_n 2, 1) := by decide +kernel
theorem dX7_game_133 : decode cX7_game 133 = .ok (.iconst 1, 1) := by decide +kernel
theorem dX7_game_134 : decode cX7_game 134 = .ok (.iadd, 1) := by decide +kernel
theorem dX7_game_135 : decode cX7_game 135 = .ok (.imul, 1) := by decide +kernel
theorem dX7_game_136 : decode cX7_game 136 = .ok (.aload_n 0, 1) := by decide +kernel
theorem dX7_game_137 : decode cX7_game 137 = .ok (.getfield 7, 3) := by decide +kernel
theorem dX7_game_140 : decode cX7_game 140 = .ok (.bipush 24, 2) := by decide +kernel
theorem dX7_game_142 : decode cX7_game 142 = .ok (.iaload, 1) := by decide +kernel
theorem dX7_game_143 : decode cX7_game 143 = .ok (.iconst 1, 1) := by decide +kernel
theorem dX7_game_144 : decode cX7_game 144 = .ok (.iload 4, 2) := by decide +kernel
theorem dX7_game_146 : decode cX7_game 146 = .ok (.ishl, 1) := by decide +kernel
theorem dX7_game_147 : decode cX7_game 147 = .ok (.ior, 1) := by decide +kernel
theorem dX7_game_148 : decode cX7_game 148 = .ok (.iadd, 1) := by decide +kernel
theorem dX7_game_149 : decode cX7_game 149 = .ok (.baload, 1) := by decide +kernel
theorem dX7_game_150 : decode cX7_game 150 = .ok (.iload_n 3, 1) := by decide +kernel
theorem dX7_game_151 : decode cX7_game 151 = .ok (.if_icmp .ne 6, 3) := by decide +kernel
theorem dX7_game_154 : decode cX7_game 154 = .ok (.iload 4, 2) := by decide +kernel
theorem dX7_game_156 : decode cX7_game 156 = .ok (.ireturn, 1) := by decide +kernel
theorem dX7_game_157 : decode cX7_game 157 = .ok (.iinc 4 1, 3) := by decide +kernel
theorem dX7_game_160 : decode cX7_game 160 = .ok (.goto (-61), 3) := by decide +kernel
theorem dX7_game_163 : decode cX7_game 163 = .ok (.bipush (-4), 2) := by decide +kernel
theorem dX7_game_165 : decode cX7_game 165 = .ok (.ireturn, 1) := by decide +kernel
theorem dX7_days_0 : decode cX7_days 0 = .ok (.aload_n 0, 1) := by decide +kernel
theorem dX7_days_1 : decode cX7_days 1 = .ok (.getfield 72, 3) := by decide +kernel
theorem dX7_days_4 : decode cX7_days 4 = .ok (.ifCond .ne 6, 3) := by decide +kernel
theorem dX7_days_7 : decode cX7_days 7 = .ok (.bipush (-2), 2) := by decide +kernel
theorem dX7_days_9 : decode cX7_days 9 = .ok (.ireturn, 1) := by decide +kernel
theorem dX7_days_10 : decode cX7_days 10 = .ok (.aload_n 0, 1) := by decide +kernel
theorem dX7_days_11 : decode cX7_days 11 = .ok (.invokevirtual 233, 3) := by decide +kernel
theorem dX7_days_14 : decode cX7_days 14 = .ok (.iconst 0, 1) := by decide +kernel
theorem dX7_days_15 : decode cX7_days 15 = .ok (.istore_n 1, 1) := by decide +kernel
theorem dX7_days_16 : decode cX7_days 16 = .ok (.iconst 0, 1) := by decide +kernel
theorem dX7_days_17 : decode cX7_days 17 = .ok (.istore_n 2, 1) := by decide +kernel
theorem dX7_days_18 : decode cX7_days 18 = .ok (.iload_n 2, 1) := by decide +kernel
theorem dX7_days_19 : decode cX7_days 19 = .ok (.bipush 9, 2) := by decide +kernel
theorem dX7_days_21 : decode cX7_days 21 = .ok (.if_icmp .gt 35, 3) := by decide +kernel
theorem dX7_days_24 : decode cX7_days 24 = .ok (.iload_n 1, 1) := by decide +kernel
theorem dX7_days_25 : decode cX7_days 25 = .ok (.aload_n 0, 1) := by decide +kernel
theorem dX7_days_26 : decode cX7_days 26 = .ok (.getfield 44, 3) := by decide +kernel
theorem dX7_days_29 : decode cX7_days 29 = .ok (.sipush 256, 3) := by decide +kernel
theorem dX7_days_32 : decode cX7_days 32 = .ok (.iload_n 2, 1) := by decide +kernel
theorem dX7_days_33 : decode cX7_days 33 = .ok (.imul, 1) := by decide +kernel
theorem dX7_days_34 : decode cX7_days 34 = .ok (.aload_n 0, 1) := by decide +kernel
theorem dX7_days_35 : decode cX7_days 35 = .ok (.getfield 7, 3) := by decide +kernel
theorem dX7_days_38 : decode cX7_days 38 = .ok (.bipush 24, 2) := by decide +kernel
theorem dX7_days_40 : decode cX7_days 40 = .ok (.iaload, 1) := by decide +kernel
theorem dX7_days_41 : decode cX7_days 41 = .ok (.iadd, 1) := by decide +kernel
theorem dX7_days_42 : decode cX7_days 42 = .ok (.baload, 1) := by decide +kernel
theorem dX7_days_43 : decode cX7_days 43 = .ok (.invokestatic 164, 3) := by decide +kernel
theorem dX7_days_46 : decode cX7_days 46 = .ok (.iload_n 2, 1) := by decide +kernel
theorem dX7_days_47 : decode cX7_days 47 = .ok (.ishl, 1) := by decide +kernel
theorem dX7_days_48 : decode cX7_days 48 = .ok (.ior, 1) := by decide +kernel
theorem dX7_days_49 : decode cX7_days 49 = .ok (.istore_n 1, 1) := by decide +kernel
theorem dX7_days_50 : decode cX7_days 50 = .ok (.iinc 2 1, 3) := by decide +kernel
theorem dX7_days_53 : decode cX7_days 53 = .ok (.goto (-35), 3) := by decide +kernel
theorem dX7_days_56 : decode cX7_days 56 = .ok (.iload_n 1, 1) := by decide +kernel
theorem dX7_days_57 : decode cX7_days 57 = .ok (.ireturn, 1) := by decide +kernel
theorem dX7_orders_0 : decode cX7_orders 0 = .ok (.lconst 1, 1) := by decide +kernel
theorem dX7_orders_1 : decode cX7_orders 1 = .ok (.lstore_n 1, 1) := by decide +kernel
theorem dX7_orders_2 : decode cX7_orders 2 = .ok (.iconst 2, 1) := by decide +kernel
theorem dX7_orders_3 : decode cX7_orders 3 = .ok (.istore_n 3, 1) := by decide +kernel
theorem dX7_orders_4 : decode cX7_orders 4 = .ok (.iload_n 3, 1) := by decide +kernel
theorem dX7_orders_5 : decode cX7_orders 5 = .ok (.iload_n 0, 1) := by decide +kernel
theorem dX7_orders_6 : decode cX7_orders 6 = .ok (.if_icmp .gt 14, 3) := by decide +kernel
theorem dX7_orders_9 : decode cX7_orders 9 = .ok (.lload_n 1, 1) := by decide +kernel
theorem dX7_orders_10 : decode cX7_orders 10 = .ok (.iload_n 3, 1) := by decide +kernel
theorem dX7_orders_11 : decode cX7_orders 11 = .ok (.i2l, 1) := by decide +kernel
theorem dX7_orders_12 : decode cX7_orders 12 = .ok (.lmul, 1) := by decide +kernel
theorem dX7_orders_13 : decode cX7_orders 13 = .ok (.lstore_n 1, 1) := by decide +kernel
theorem dX7_orders_14 : decode cX7_orders 14 = .ok (.iinc 3 1, 3) := by decide +kernel
theorem dX7_orders_17 : decode cX7_orders 17 = .ok (.goto (-13), 3) := by decide +kernel
theorem dX7_orders_20 : decode cX7_orders 20 = .ok (.lload_n 1, 1) := by decide +kernel
theorem dX7_orders_21 : decode cX7_orders 21 = .ok (.lreturn, 1) := by decide +kernel
theorem dX7_share_0 : decode cX7_share 0 = .ok (.aload_n 0, 1) := by decide +kernel
theorem dX7_share_1 : decode cX7_share 1 = .ok (.iload_n 1, 1) := by decide +kernel
theorem dX7_share_2 : decode cX7_share 2 = .ok (.invokevirtual 171, 3) := by decide +kernel
theorem dX7_share_5 : decode cX7_share 5 = .ok (.ifCond .eq 10, 3) := by decide +kernel
theorem dX7_share_8 : decode cX7_share 8 = .ok (.iload_n 2, 1) := by decide +kernel
theorem dX7_share_9 : decode cX7_share 9 = .ok (.invokestatic 196, 3) := by decide +kernel
theorem dX7_share_12 : decode cX7_share 12 = .ok (.ifCond .ne 7, 3) := by decide +kernel
theorem dX7_share_15 : decode cX7_share 15 = .ok (.ldc2_w 222, 3) := by decide +kernel
theorem dX7_share_18 : decode cX7_share 18 = .ok (.lreturn, 1) := by decide +kernel
theorem dX7_share_19 : decode cX7_share 19 = .ok (.lconst 0, 1) := by decide +kernel
theorem dX7_share_20 : decode cX7_share 20 = .ok (.lstore_n 3, 1) := by decide +kernel
theorem dX7_share_21 : decode cX7_share 21 = .ok (.iconst 0, 1) := by decide +kernel
theorem dX7_share_22 : decode cX7_share 22 = .ok (.istore 5, 2) := by decide +kernel
theorem dX7_share_24 : decode cX7_share 24 = .ok (.iload 5, 2) := by decide +kernel
theorem dX7_share_26 : decode cX7_share 26 = .ok (.aload_n 0, 1) := by decide +kernel
theorem dX7_share_27 : decode cX7_share 27 = .ok (.invokevirtual 191, 3) := by decide +kernel
theorem dX7_share_30 : decode cX7_share 30 = .ok (.if_icmp .gt 74, 3) := by decide +kernel
theorem dX7_share_33 : decode cX7_share 33 = .ok (.iload 5, 2) := by decide +kernel
theorem dX7_share_35 : decode cX7_share 35 = .ok (.iload_n 1, 1) := by decide +kernel
theorem dX7_share_36 : decode cX7_share 36 = .ok (.ishr, 1) := by decide +kernel
theorem dX7_share_37 : decode cX7_share 37 = .ok (.iconst 1, 1) := by decide +kernel
theorem dX7_share_38 : decode cX7_share 38 = .ok (.iand, 1) := by decide +kernel
theorem dX7_share_39 : decode cX7_share 39 = .ok (.ifCond .ne 59, 3) := by decide +kernel
theorem dX7_share_42 : decode cX7_share 42 = .ok (.aload_n 0, 1) := by decide +kernel
theorem dX7_share_43 : decode cX7_share 43 = .ok (.iload 5, 2) := by decide +kernel
theorem dX7_share_45 : decode cX7_share 45 = .ok (.iconst 1, 1) := by decide +kernel
theorem dX7_share_46 : decode cX7_share 46 = .ok (.iload_n 1, 1) := by decide +kernel
theorem dX7_share_47 : decode cX7_share 47 = .ok (.ishl, 1) := by decide +kernel
theorem dX7_share_48 : decode cX7_share 48 = .ok (.ior, 1) := by decide +kernel
theorem dX7_share_49 : decode cX7_share 49 = .ok (.invokevirtual 200, 3) := by decide +kernel
theorem dX7_share_52 : decode cX7_share 52 = .ok (.invokestatic 164, 3) := by decide +kernel
theorem dX7_share_55 : decode cX7_share 55 = .ok (.aload_n 0, 1) := by decide +kernel
theorem dX7_share_56 : decode cX7_share 56 = .ok (.iload 5, 2) := by decide +kernel
theorem dX7_share_58 : decode cX7_share 58 = .ok (.invokevirtual 200, 3) := by decide +kernel
theorem dX7_share_61 : decode cX7_share 61 = .ok (.invokestatic 164, 3) := by decide +kernel
theorem dX7_share_64 : decode cX7_share 64 = .ok (.isub, 1) := by decide +kernel
theorem dX7_share_65 : decode cX7_share 65 = .ok (.istore 6, 2) := by decide +kernel
theorem dX7_share_67 : decode cX7_share 67 = .ok (.lload_n 3, 1) := by decide +kernel
theorem dX7_share_68 : decode cX7_share 68 = .ok (.iload 6, 2) := by decide +kernel
theorem dX7_share_70 : decode cX7_share 70 = .ok (.i2l, 1) := by decide +kernel
theorem dX7_share_71 : decode cX7_share 71 = .ok (.iload 5, 2) := by decide +kernel
theorem dX7_share_73 : decode cX7_share 73 = .ok (.invokestatic 179, 3) := by decide +kernel
theorem dX7_share_76 : decode cX7_share 76 = .ok (.invokestatic 236, 3) := by decide +kernel
theorem dX7_share_79 : decode cX7_share 79 = .ok (.lmul, 1) := by decide +kernel
theorem dX7_share_80 : decode cX7_share 80 = .ok (.aload_n 0, 1) := by decide +kernel
theorem dX7_share_81 : decode cX7_share 81 = .ok (.getfield 72, 3) := by decide +kernel
theorem dX7_share_84 : decode cX7_share 84 = .ok (.iconst 1, 1) := by decide +kernel
theorem dX7_share_85 : decode cX7_share 85 = .ok (.isub, 1) := by decide +kernel
theorem dX7_share_86 : decode cX7_share 86 = .ok (.iload 5, 2) := by decide +kernel
theorem dX7_share_88 : decode cX7_share 88 = .ok (.invokestatic 179, 3) := by decide +kernel
theorem dX7_share_91 : decode cX7_share 91 = .ok (.isub, 1) := by decide +kernel
theorem dX7_share_92 : decode cX7_share 92 = .ok (.invokestatic 236, 3) := by decide +kernel
theorem dX7_share_95 : decode cX7_share 95 = .ok (.lmul, 1) := by decide +kernel
theorem dX7_share_96 : decode cX7_share 96 = .ok (.ladd, 1) := by decide +kernel
theorem dX7_share_97 : decode cX7_share 97 = .ok (.lstore_n 3, 1) := by decide +kernel
theorem dX7_share_98 : decode cX7_share 98 = .ok (.iinc 5 1, 3) := by decide +kernel
theorem dX7_share_101 : decode cX7_share 101 = .ok (.goto (-77), 3) := by decide +kernel
theorem dX7_share_104 : decode cX7_share 104 = .ok (.lload_n 3, 1) := by decide +kernel
theorem dX7_share_105 : decode cX7_share 105 = .ok (.aload_n 0, 1) := by decide +kernel
theorem dX7_share_106 : decode cX7_share 106 = .ok (.getfield 72, 3) := by decide +kernel
theorem dX7_share_109 : decode cX7_share 109 = .ok (.invokestatic 236, 3) := by decide +kernel
theorem dX7_share_112 : decode cX7_share 112 = .ok (.iload_n 2, 1) := by decide +kernel
theorem dX7_share_113 : decode cX7_share 113 = .ok (.invokestatic 226, 3) := by decide +kernel
theorem dX7_share_116 : decode cX7_share 116 = .ok (.lreturn, 1) := by decide +kernel
theorem dX7_see_0 : decode cX7_see 0 = .ok (.iload_n 1, 1) := by decide +kernel
theorem dX7_see_1 : decode cX7_see 1 = .ok (.i2l, 1) := by decide +kernel
theorem dX7_see_2 : decode cX7_see 2 = .ok (.lconst 0, 1) := by decide +kernel
theorem dX7_see_3 : decode cX7_see 3 = .ok (.aload_n 0, 1) := by decide +kernel
theorem dX7_see_4 : decode cX7_see 4 = .ok (.invokevirtual 191, 3) := by decide +kernel
theorem dX7_see_7 : decode cX7_see 7 = .ok (.i2l, 1) := by decide +kernel
theorem dX7_see_8 : decode cX7_see 8 = .ok (.invokestatic 77, 3) := by decide +kernel
theorem dX7_see_11 : decode cX7_see 11 = .ok (.ifCond .ne 5, 3) := by decide +kernel
theorem dX7_see_14 : decode cX7_see 14 = .ok (.iconst (-1), 1) := by decide +kernel
theorem dX7_see_15 : decode cX7_see 15 = .ok (.ireturn, 1) := by decide +kernel
theorem dX7_see_16 : decode cX7_see 16 = .ok (.aload_n 0, 1) := by decide +kernel
theorem dX7_see_17 : decode cX7_see 17 = .ok (.getfield 7, 3) := by decide +kernel
theorem dX7_see_20 : decode cX7_see 20 = .ok (.bipush 34, 2) := by decide +kernel
theorem dX7_see_22 : decode cX7_see 22 = .ok (.iaload, 1) := by decide +kernel
theorem dX7_see_23 : decode cX7_see 23 = .ok (.bipush 6, 2) := by decide +kernel
theorem dX7_see_25 : decode cX7_see 25 = .ok (.if_icmp .ne 6, 3) := by decide +kernel
theorem dX7_see_28 : decode cX7_see 28 = .ok (.bipush (-3), 2) := by decide +kernel
theorem dX7_see_30 : decode cX7_see 30 = .ok (.ireturn, 1) := by decide +kernel
theorem dX7_see_31 : decode cX7_see 31 = .ok (.aload_n 0, 1) := by decide +kernel
theorem dX7_see_32 : decode cX7_see 32 = .ok (.getfield 7, 3) := by decide +kernel
theorem dX7_see_35 : decode cX7_see 35 = .ok (.bipush 35, 2) := by decide +kernel
theorem dX7_see_37 : decode cX7_see 37 = .ok (.iconst 2, 1) := by decide +kernel
theorem dX7_see_38 : decode cX7_see 38 = .ok (.aload_n 0, 1) := by decide +kernel
theorem dX7_see_39 : decode cX7_see 39 = .ok (.getfield 7, 3) := by decide +kernel
theorem dX7_see_42 : decode cX7_see 42 = .ok (.bipush 34, 2) := by decide +kernel
theorem dX7_see_44 : decode cX7_see 44 = .ok (.iaload, 1) := by decide +kernel
theorem dX7_see_45 : decode cX7_see 45 = .ok (.imul, 1) := by decide +kernel
theorem dX7_see_46 : decode cX7_see 46 = .ok (.iadd, 1) := by decide +kernel
theorem dX7_see_47 : decode cX7_see 47 = .ok (.iload_n 1, 1) := by decide +kernel
theorem dX7_see_48 : decode cX7_see 48 = .ok (.iastore, 1) := by decide +kernel
theorem dX7_see_49 : decode cX7_see 49 = .ok (.aload_n 0, 1) := by decide +kernel
theorem dX7_see_50 : decode cX7_see 50 = .ok (.getfield 7, 3) := by decide +kernel
theorem dX7_see_53 : decode cX7_see 53 = .ok (.bipush 35, 2) := by decide +kernel
theorem dX7_see_55 : decode cX7_see 55 = .ok (.iconst 2, 1) := by decide +kernel
theorem dX7_see_56 : decode cX7_see 56 = .ok (.aload_n 0, 1) := by decide +kernel
theorem dX7_see_57 : decode cX7_see 57 = .ok (.getfield 7, 3) := by decide +kernel
theorem dX7_see_60 : decode cX7_see 60 = .ok (.bipush 34, 2) := by decide +kernel
theorem dX7_see_62 : decode cX7_see 62 = .ok (.iaload, 1) := by decide +kernel
theorem dX7_see_63 : decode cX7_see 63 = .ok (.imul, 1) := by decide +kernel
theorem dX7_see_64 : decode cX7_see 64 = .ok (.iadd, 1) := by decide +kernel
theorem dX7_see_65 : decode cX7_see 65 = .ok (.iconst 1, 1) := by decide +kernel
theorem dX7_see_66 : decode cX7_see 66 = .ok (.iadd, 1) := by decide +kernel
theorem dX7_see_67 : decode cX7_see 67 = .ok (.iload_n 2, 1) := by decide +kernel
theorem dX7_see_68 : decode cX7_see 68 = .ok (.invokestatic 164, 3) := by decide +kernel
theorem dX7_see_71 : decode cX7_see 71 = .ok (.iastore, 1) := by decide +kernel
theorem dX7_see_72 : decode cX7_see 72 = .ok (.aload_n 0, 1) := by decide +kernel
theorem dX7_see_73 : decode cX7_see 73 = .ok (.getfield 7, 3) := by decide +kernel
theorem dX7_see_76 : decode cX7_see 76 = .ok (.bipush 34, 2) := by decide +kernel
theorem dX7_see_78 : decode cX7_see 78 = .ok (.dup2, 1) := by decide +kernel
theorem dX7_see_79 : decode cX7_see 79 = .ok (.iaload, 1) := by decide +kernel
theorem dX7_see_80 : decode cX7_see 80 = .ok (.iconst 1, 1) := by decide +kernel
theorem dX7_see_81 : decode cX7_see 81 = .ok (.iadd, 1) := by decide +kernel
theorem dX7_see_82 : decode cX7_see 82 = .ok (.iastore, 1) := by decide +kernel
theorem dX7_see_83 : decode cX7_see 83 = .ok (.aload_n 0, 1) := by decide +kernel
theorem dX7_see_84 : decode cX7_see 84 = .ok (.getfield 7, 3) := by decide +kernel
theorem dX7_see_87 : decode cX7_see 87 = .ok (.bipush 34, 2) := by decide +kernel
theorem dX7_see_89 : decode cX7_see 89 = .ok (.iaload, 1) := by decide +kernel
theorem dX7_see_90 : decode cX7_see 90 = .ok (.ireturn, 1) := by decide +kernel
theorem dX7_forget_0 : decode cX7_forget 0 = .ok (.iload_n 1, 1) := by decide +kernel
theorem dX7_forget_1 : decode cX7_forget 1 = .ok (.i2l, 1) := by decide +kernel
theorem dX7_forget_2 : decode cX7_forget 2 = .ok (.lconst 0, 1) := by decide +kernel
theorem dX7_forget_3 : decode cX7_forget 3 = .ok (.aload_n 0, 1) := by decide +kernel
theorem dX7_forget_4 : decode cX7_forget 4 = .ok (.getfield 7, 3) := by decide +kernel
theorem dX7_forget_7 : decode cX7_forget 7 = .ok (.bipush 34, 2) := by decide +kernel
theorem dX7_forget_9 : decode cX7_forget 9 = .ok (.iaload, 1) := by decide +kernel
theorem dX7_forget_10 : decode cX7_forget 10 = .ok (.i2l, 1) := by decide +kernel
theorem dX7_forget_11 : decode cX7_forget 11 = .ok (.invokestatic 77, 3) := by decide +kernel
theorem dX7_forget_14 : decode cX7_forget 14 = .ok (.ifCond .eq 13, 3) := by decide +kernel
theorem dX7_forget_17 : decode cX7_forget 17 = .ok (.aload_n 0, 1) := by decide +kernel
theorem dX7_forget_18 : decode cX7_forget 18 = .ok (.bipush 34, 2) := by decide +kernel
theorem dX7_forget_20 : decode cX7_forget 20 = .ok (.iload_n 1, 1) := by decide +kernel
theorem dX7_forget_21 : decode cX7_forget 21 = .ok (.invokevirtual 184, 3) := by decide +kernel
theorem dX7_forget_24 : decode cX7_forget 24 = .ok (.goto 4, 3) := by decide +kernel
theorem dX7_forget_27 : decode cX7_forget 27 = .ok (.iconst (-1), 1) := by decide +kernel
theorem dX7_forget_28 : decode cX7_forget 28 = .ok (.ireturn, 1) := by decide +kernel
theorem dX7_isSo_0 : decode cX7_isSo 0 = .ok (.aload_n 0, 1) := by decide +kernel
theorem dX7_isSo_1 : decode cX7_isSo 1 = .ok (.getfield 7, 3) := by decide +kernel
theorem dX7_isSo_4 : decode cX7_isSo 4 = .ok (.bipush 8, 2) := by decide +kernel
theorem dX7_isSo_6 : decode cX7_isSo 6 = .ok (.aload_n 0, 1) := by decide +kernel
theorem dX7_isSo_7 : decode cX7_isSo 7 = .ok (.getfield 7, 3) := by decide +kernel
theorem dX7_isSo_10 : decode cX7_isSo 10 = .ok (.bipush 25, 2) := by decide +kernel
theorem dX7_isSo_12 : decode cX7_isSo 12 = .ok (.iaload, 1) := by decide +kernel
theorem dX7_isSo_13 : decode cX7_isSo 13 = .ok (.iadd, 1) := by decide +kernel
theorem dX7_isSo_14 : decode cX7_isSo 14 = .ok (.iaload, 1) := by decide +kernel
theorem dX7_isSo_15 : decode cX7_isSo 15 = .ok (.istore_n 2, 1) := by decide +kernel
theorem dX7_isSo_16 : decode cX7_isSo 16 = .ok (.iconst 1, 1) := by decide +kernel
theorem dX7_isSo_17 : decode cX7_isSo 17 = .ok (.istore_n 3, 1) := by decide +kernel
theorem dX7_isSo_18 : decode cX7_isSo 18 = .ok (.aload_n 0, 1) := by decide +kernel
theorem dX7_isSo_19 : decode cX7_isSo 19 = .ok (.getfield 7, 3) := by decide +kernel
theorem dX7_isSo_22 : decode cX7_isSo 22 = .ok (.bipush 8, 2) := by decide +kernel
theorem dX7_isSo_24 : decode cX7_isSo 24 = .ok (.aload_n 0, 1) := by decide +kernel
theorem dX7_isSo_25 : decode cX7_isSo 25 = .ok (.getfield 7, 3) := by decide +kernel
theorem dX7_isSo_28 : decode cX7_isSo 28 = .ok (.bipush 25, 2) := by decide +kernel
theorem dX7_isSo_30 : decode cX7_isSo 30 = .ok (.iaload, 1) := by decide +kernel
theorem dX7_isSo_31 : decode cX7_isSo 31 = .ok (.iadd, 1) := by decide +kernel
theorem dX7_isSo_32 : decode cX7_isSo 32 = .ok (.iload_n 1, 1) := by decide +kernel
theorem dX7_isSo_33 : decode cX7_isSo 33 = .ok (.iastore, 1) := by decide +kernel
theorem dX7_isSo_34 : decode cX7_isSo 34 = .ok (.iconst 0, 1) := by decide +kernel
theorem dX7_isSo_35 : decode cX7_isSo 35 = .ok (.istore 4, 2) := by decide +kernel
theorem dX7_isSo_37 : decode cX7_isSo 37 = .ok (.iload 4, 2) := by decide +kernel
theorem dX7_isSo_39 : decode cX7_isSo 39 = .ok (.aload_n 0, 1) := by decide +kernel
theorem dX7_isSo_40 : decode cX7_isSo 40 = .ok (.getfield 7, 3) := by decide +kernel
theorem dX7_isSo_43 : decode cX7_isSo 43 = .ok (.bipush 34, 2) := by decide +kernel
theorem dX7_isSo_45 : decode cX7_isSo 45 = .ok (.iaload, 1) := by decide +kernel
theorem dX7_isSo_46 : decode cX7_isSo 46 = .ok (.if_icmp .ge 55, 3) := by decide +kernel
theorem dX7_isSo_49 : decode cX7_isSo 49 = .ok (.iload_n 3, 1) := by decide +kernel
theorem dX7_isSo_50 : decode cX7_isSo 50 = .ok (.ifCond .eq 43, 3) := by decide +kernel
theorem dX7_isSo_53 : decode cX7_isSo 53 = .ok (.aload_n 0, 1) := by decide +kernel
theorem dX7_isSo_54 : decode cX7_isSo 54 = .ok (.aload_n 0, 1) := by decide +kernel
theorem dX7_isSo_55 : decode cX7_isSo 55 = .ok (.getfield 7, 3) := by decide +kernel
theorem dX7_isSo_58 : decode cX7_isSo 58 = .ok (.bipush 35, 2) := by decide +kernel
theorem dX7_isSo_60 : decode cX7_isSo 60 = .ok (.iconst 2, 1) := by decide +kernel
theorem dX7_isSo_61 : decode cX7_isSo 61 = .ok (.iload 4, 2) := by decide +kernel
theorem dX7_isSo_63 : decode cX7_isSo 63 = .ok (.imul, 1) := by decide +kernel
theorem dX7_isSo_64 : decode cX7_isSo 64 = .ok (.iadd, 1) := by decide +kernel
theorem dX7_isSo_65 : decode cX7_isSo 65 = .ok (.iaload, 1) := by decide +kernel
theorem dX7_isSo_66 : decode cX7_isSo 66 = .ok (.invokevirtual 200, 3) := by decide +kernel
theorem dX7_isSo_69 : decode cX7_isSo 69 = .ok (.invokestatic 164, 3) := by decide +kernel
theorem dX7_isSo_72 : decode cX7_isSo 72 = .ok (.aload_n 0, 1) := by decide +kernel
theorem dX7_isSo_73 : decode cX7_isSo 73 = .ok (.getfield 7, 3) := by decide +kernel
theorem dX7_isSo_76 : decode cX7_isSo 76 = .ok (.bipush 35, 2) := by decide +kernel
theorem dX7_isSo_78 : decode cX7_isSo 78 = .ok (.iconst 2, 1) := by decide +kernel
theorem dX7_isSo_79 : decode cX7_isSo 79 = .ok (.iload 4, 2) := by decide +kernel
theorem dX7_isSo_81 : decode cX7_isSo 81 = .ok (.imul, 1) := by decide +kernel
theorem dX7_isSo_82 : decode cX7_isSo 82 = .ok (.iadd, 1) := by decide +kernel
theorem dX7_isSo_83 : decode cX7_isSo 83 = .ok (.iconst 1, 1) := by decide +kernel
theorem dX7_isSo_84 : decode cX7_isSo 84 = .ok (.iadd, 1) := by decide +kernel
theorem dX7_isSo_85 : decode cX7_isSo 85 = .ok (.iaload, 1) := by decide +kernel
theorem dX7_isSo_86 : decode cX7_isSo 86 = .ok (.if_icmp .ne 7, 3) := by decide +kernel
theorem dX7_isSo_89 : decode cX7_isSo 89 = .ok (.iconst 1, 1) := by decide +kernel
theorem dX7_isSo_90 : decode cX7_isSo 90 = .ok (.goto 4, 3) := by decide +kernel
theorem dX7_isSo_93 : decode cX7_isSo 93 = .ok (.iconst 0, 1) := by decide +kernel
theorem dX7_isSo_94 : decode cX7_isSo 94 = .ok (.istore_n 3, 1) := by decide +kernel
theorem dX7_isSo_95 : decode cX7_isSo 95 = .ok (.iinc 4 1, 3) := by decide +kernel
theorem dX7_isSo_98 : decode cX7_isSo 98 = .ok (.goto (-61), 3) := by decide +kernel
theorem dX7_isSo_101 : decode cX7_isSo 101 = .ok (.aload_n 0, 1) := by decide +kernel
theorem dX7_isSo_102 : decode cX7_isSo 102 = .ok (.getfield 7, 3) := by decide +kernel
theorem dX7_isSo_105 : decode cX7_isSo 105 = .ok (.bipush 8, 2) := by decide +kernel
theorem dX7_isSo_107 : decode cX7_isSo 107 = .ok (.aload_n 0, 1) := by decide +kernel
theorem dX7_isSo_108 : decode cX7_isSo 108 = .ok (.getfield 7, 3) := by decide +kernel
theorem dX7_isSo_111 : decode cX7_isSo 111 = .ok (.bipush 25, 2) := by decide +kernel
theorem dX7_isSo_113 : decode cX7_isSo 113 = .ok (.iaload, 1) := by decide +kernel
theorem dX7_isSo_114 : decode cX7_isSo 114 = .ok (.iadd, 1) := by decide +kernel
theorem dX7_isSo_115 : decode cX7_isSo 115 = .ok (.iload_n 2, 1) := by decide +kernel
theorem dX7_isSo_116 : decode cX7_isSo 116 = .ok (.iastore, 1) := by decide +kernel
theorem dX7_isSo_117 : decode cX7_isSo 117 = .ok (.iload_n 3, 1) := by decide +kernel
theorem dX7_isSo_118 : decode cX7_isSo 118 = .ok (.ireturn, 1) := by decide +kernel
theorem dX7_fits_0 : decode cX7_fits 0 = .ok (.iload_n 1, 1) := by decide +kernel
theorem dX7_fits_1 : decode cX7_fits 1 = .ok (.i2l, 1) := by decide +kernel
theorem dX7_fits_2 : decode cX7_fits 2 = .ok (.lconst 0, 1) := by decide +kernel
theorem dX7_fits_3 : decode cX7_fits 3 = .ok (.ldc2_w 154, 3) := by decide +kernel
theorem dX7_fits_6 : decode cX7_fits 6 = .ok (.invokestatic 77, 3) := by decide +kernel
theorem dX7_fits_9 : decode cX7_fits 9 = .ok (.ifCond .ne 5, 3) := by decide +kernel
theorem dX7_fits_12 : decode cX7_fits 12 = .ok (.iconst (-1), 1) := by decide +kernel
theorem dX7_fits_13 : decode cX7_fits 13 = .ok (.ireturn, 1) := by decide +kernel
theorem dX7_fits_14 : decode cX7_fits 14 = .ok (.aload_n 0, 1) := by decide +kernel
theorem dX7_fits_15 : decode cX7_fits 15 = .ok (.getfield 72, 3) := by decide +kernel
theorem dX7_fits_18 : decode cX7_fits 18 = .ok (.ifCond .ne 6, 3) := by decide +kernel
theorem dX7_fits_21 : decode cX7_fits 21 = .ok (.bipush (-2), 2) := by decide +kernel
theorem dX7_fits_23 : decode cX7_fits 23 = .ok (.ireturn, 1) := by decide +kernel
theorem dX7_fits_24 : decode cX7_fits 24 = .ok (.iconst 1, 1) := by decide +kernel
theorem dX7_fits_25 : decode cX7_fits 25 = .ok (.aload_n 0, 1) := by decide +kernel
theorem dX7_fits_26 : decode cX7_fits 26 = .ok (.getfield 7, 3) := by decide +kernel
theorem dX7_fits_29 : decode cX7_fits 29 = .ok (.bipush 25, 2) := by decide +kernel
theorem dX7_fits_31 : decode cX7_fits 31 = .ok (.iaload, 1) := by decide +kernel
theorem dX7_fits_32 : decode cX7_fits 32 = .ok (.ishl, 1) := by decide +kernel
theorem dX7_fits_33 : decode cX7_fits 33 = .ok (.iconst 1, 1) := by decide +kernel
theorem dX7_fits_34 : decode cX7_fits 34 = .ok (.isub, 1) := by decide +kernel
theorem dX7_fits_35 : decode cX7_fits 35 = .ok (.aload_n 0, 1) := by decide +kernel
theorem dX7_fits_36 : decode cX7_fits 36 = .ok (.getfield 7, 3) := by decide +kernel
theorem dX7_fits_39 : decode cX7_fits 39 = .ok (.iconst 0, 1) := by decide +kernel
theorem dX7_fits_40 : decode cX7_fits 40 = .ok (.aload_n 0, 1) := by decide +kernel
theorem dX7_fits_41 : decode cX7_fits 41 = .ok (.getfield 7, 3) := by decide +kernel
theorem dX7_fits_44 : decode cX7_fits 44 = .ok (.bipush 25, 2) := by decide +kernel
theorem dX7_fits_46 : decode cX7_fits 46 = .ok (.iaload, 1) := by decide +kernel
theorem dX7_fits_47 : decode cX7_fits 47 = .ok (.iadd, 1) := by decide +kernel
theorem dX7_fits_48 : decode cX7_fits 48 = .ok (.iaload, 1) := by decide +kernel
theorem dX7_fits_49 : decode cX7_fits 49 = .ok (.iconst (-1), 1) := by decide +kernel
theorem dX7_fits_50 : decode cX7_fits 50 = .ok (.ixor, 1) := by decide +kernel
theorem dX7_fits_51 : decode cX7_fits 51 = .ok (.iand, 1) := by decide +kernel
theorem dX7_fits_52 : decode cX7_fits 52 = .ok (.istore_n 2, 1) := by decide +kernel
theorem dX7_fits_53 : decode cX7_fits 53 = .ok (.iconst 0, 1) := by decide +kernel
theorem dX7_fits_54 : decode cX7_fits 54 = .ok (.istore_n 3, 1) := by decide +kernel
theorem dX7_fits_55 : decode cX7_fits 55 = .ok (.bipush (-4), 2) := by decide +kernel
theorem dX7_fits_57 : decode cX7_fits 57 = .ok (.istore 4, 2) := by decide +kernel
theorem dX7_fits_59 : decode cX7_fits 59 = .ok (.iload_n 2, 1) := by decide +kernel
theorem dX7_fits_60 : decode cX7_fits 60 = .ok (.istore 5, 2) := by decide +kernel
theorem dX7_fits_62 : decode cX7_fits 62 = .ok (.iconst 0, 1) := by decide +kernel
theorem dX7_fits_63 : decode cX7_fits 63 = .ok (.istore 6, 2) := by decide +kernel
theorem dX7_fits_65 : decode cX7_fits 65 = .ok (.iconst 0, 1) := by decide +kernel
theorem dX7_fits_66 : decode cX7_fits 66 = .ok (.istore 7, 2) := by decide +kernel
theorem dX7_fits_68 : decode cX7_fits 68 = .ok (.iload 7, 2) := by decide +kernel
theorem dX7_fits_70 : decode cX7_fits 70 = .ok (.iload_n 2, 1) := by decide +kernel
theorem dX7_fits_71 : decode cX7_fits 71 = .ok (.if_icmp .gt 57, 3) := by decide +kernel
theorem dX7_fits_74 : decode cX7_fits 74 = .ok (.iload 7, 2) := by decide +kernel
theorem dX7_fits_76 : decode cX7_fits 76 = .ok (.iload_n 2, 1) := by decide +kernel
theorem dX7_fits_77 : decode cX7_fits 77 = .ok (.iconst (-1), 1) := by decide +kernel
theorem dX7_fits_78 : decode cX7_fits 78 = .ok (.ixor, 1) := by decide +kernel
theorem dX7_fits_79 : decode cX7_fits 79 = .ok (.iand, 1) := by decide +kernel
theorem dX7_fits_80 : decode cX7_fits 80 = .ok (.ifCond .ne 42, 3) := by decide +kernel
theorem dX7_fits_83 : decode cX7_fits 83 = .ok (.aload_n 0, 1) := by decide +kernel
theorem dX7_fits_84 : decode cX7_fits 84 = .ok (.iload 7, 2) := by decide +kernel
theorem dX7_fits_86 : decode cX7_fits 86 = .ok (.invokevirtual 240, 3) := by decide +kernel
theorem dX7_fits_89 : decode cX7_fits 89 = .ok (.ifCond .eq 33, 3) := by decide +kernel
theorem dX7_fits_92 : decode cX7_fits 92 = .ok (.iload_n 3, 1) := by decide +kernel
theorem dX7_fits_93 : decode cX7_fits 93 = .ok (.ifCond .ne 8, 3) := by decide +kernel
theorem dX7_fits_96 : decode cX7_fits 96 = .ok (.iload 7, 2) := by decide +kernel
theorem dX7_fits_98 : decode cX7_fits 98 = .ok (.goto 5, 3) := by decide +kernel
theorem dX7_fits_101 : decode cX7_fits 101 = .ok (.iload 4, 2) := by decide +kernel
theorem dX7_fits_103 : decode cX7_fits 103 = .ok (.istore 4, 2) := by decide +kernel
theorem dX7_fits_105 : decode cX7_fits 105 = .ok (.iload 5, 2) := by decide +kernel
theorem dX7_fits_107 : decode cX7_fits 107 = .ok (.iload 7, 2) := by decide +kernel
theorem dX7_fits_109 : decode cX7_fits 109 = .ok (.iand, 1) := by decide +kernel
theorem dX7_fits_110 : decode cX7_fits 110 = .ok (.istore 5, 2) := by decide +kernel
theorem dX7_fits_112 : decode cX7_fits 112 = .ok (.iload 6, 2) := by decide +kernel
theorem dX7_fits_114 : decode cX7_fits 114 = .ok (.iload 7, 2) := by decide +kernel
theorem dX7_fits_116 : decode cX7_fits 116 = .ok (.ior, 1) := by decide +kernel
theorem dX7_fits_117 : decode cX7_fits 117 = .ok (.istore 6, 2) := by decide +kernel
theorem dX7_fits_119 : decode cX7_fits 119 = .ok (.iinc 3 1, 3) := by decide +kernel
theorem dX7_fits_122 : decode cX7_fits 122 = .ok (.iinc 7 1, 3) := by decide +kernel
theorem dX7_fits_125 : decode cX7_fits 125 = .ok (.goto (-57), 3) := by decide +kernel
theorem dX7_fits_128 : decode cX7_fits 128 = .ok (.iload_n 1, 1) := by decide +kernel
theorem dX7_fits_129 : decode cX7_fits 129 = .ok (.ifCond .eq 7, 3) := by decide +kernel
theorem dX7_fits_132 : decode cX7_fits 132 = .ok (.iload_n 3, 1) := by decide +kernel
theorem dX7_fits_133 : decode cX7_fits 133 = .ok (.ifCond .ne 14, 3) := by decide +kernel
theorem dX7_fits_136 : decode cX7_fits 136 = .ok (.iload_n 1, 1) := by decide +kernel
theorem dX7_fits_137 : decode cX7_fits 137 = .ok (.ifCond .ne 7, 3) := by decide +kernel
theorem dX7_fits_140 : decode cX7_fits 140 = .ok (.iload_n 3, 1) := by decide +kernel
theorem dX7_fits_141 : decode cX7_fits 141 = .ok (.goto 5, 3) := by decide +kernel
theorem dX7_fits_144 : decode cX7_fits 144 = .ok (.bipush (-4), 2) := by decide +kernel
theorem dX7_fits_146 : decode cX7_fits 146 = .ok (.ireturn, 1) := by decide +kernel
theorem dX7_fits_147 : decode cX7_fits 147 = .ok (.iload_n 1, 1) := by decide +kernel
theorem dX7_fits_148 : decode cX7_fits 148 = .ok (.iconst 1, 1) := by decide +kernel
theorem dX7_fits_149 : decode cX7_fits 149 = .ok (.if_icmp .ne 8, 3) := by decide +kernel
theorem dX7_fits_152 : decode cX7_fits 152 = .ok (.iload 4, 2) := by decide +kernel
theorem dX7_fits_154 : decode cX7_fits 154 = .ok (.goto 19, 3) := by decide +kernel
theorem dX7_fits_157 : decode cX7_fits 157 = .ok (.iload_n 1, 1) := by decide +kernel
theorem dX7_fits_158 : decode cX7_fits 158 = .ok (.iconst 2, 1) := by decide +kernel
theorem dX7_fits_159 : decode cX7_fits 159 = .ok (.if_icmp .ne 8, 3) := by decide +kernel
theorem dX7_fits_162 : decode cX7_fits 162 = .ok (.iload 5, 2) := by decide +kernel
theorem dX7_fits_164 : decode cX7_fits 164 = .ok (.goto 9, 3) := by decide +kernel
theorem dX7_fits_167 : decode cX7_fits 167 = .ok (.iload_n 2, 1) := by decide +kernel
theorem dX7_fits_168 : decode cX7_fits 168 = .ok (.iload 6, 2) := by decide +kernel
theorem dX7_fits_170 : decode cX7_fits 170 = .ok (.iconst (-1), 1) := by decide +kernel
theorem dX7_fits_171 : decode cX7_fits 171 = .ok (.ixor, 1) := by decide +kernel
theorem dX7_fits_172 : decode cX7_fits 172 = .ok (.iand, 1) := by decide +kernel
theorem dX7_fits_173 : decode cX7_fits 173 = .ok (.ireturn, 1) := by decide +kernel
theorem dX7_drift_0 : decode cX7_drift 0 = .ok (.iload_n 2, 1) := by decide +kernel
theorem dX7_drift_1 : decode cX7_drift 1 = .ok (.i2l, 1) := by decide +kernel
theorem dX7_drift_2 : decode cX7_drift 2 = .ok (.lconst 1, 1) := by decide +kernel
theorem dX7_drift_3 : decode cX7_drift 3 = .ok (.ldc2_w 243, 3) := by decide +kernel
theorem dX7_drift_6 : decode cX7_drift 6 = .ok (.invokestatic 77, 3) := by decide +kernel
theorem dX7_drift_9 : decode cX7_drift 9 = .ok (.ifCond .eq 10, 3) := by decide +kernel
theorem dX7_drift_12 : decode cX7_drift 12 = .ok (.iload_n 3, 1) := by decide +kernel
theorem dX7_drift_13 : decode cX7_drift 13 = .ok (.invokestatic 196, 3) := by decide +kernel
theorem dX7_drift_16 : decode cX7_drift 16 = .ok (.ifCond .ne 5, 3) := by decide +kernel
theorem dX7_drift_19 : decode cX7_drift 19 = .ok (.iconst (-1), 1) := by decide +kernel
theorem dX7_drift_20 : decode cX7_drift 20 = .ok (.ireturn, 1) := by decide +kernel
theorem dX7_drift_21 : decode cX7_drift 21 = .ok (.aload_n 0, 1) := by decide +kernel
theorem dX7_drift_22 : decode cX7_drift 22 = .ok (.getfield 72, 3) := by decide +kernel
theorem dX7_drift_25 : decode cX7_drift 25 = .ok (.ifCond .ne 6, 3) := by decide +kernel
theorem dX7_drift_28 : decode cX7_drift 28 = .ok (.bipush (-2), 2) := by decide +kernel
theorem dX7_drift_30 : decode cX7_drift 30 = .ok (.ireturn, 1) := by decide +kernel
theorem dX7_drift_31 : decode cX7_drift 31 = .ok (.aload_n 0, 1) := by decide +kernel
theorem dX7_drift_32 : decode cX7_drift 32 = .ok (.getfield 7, 3) := by decide +kernel
theorem dX7_drift_35 : decode cX7_drift 35 = .ok (.bipush 24, 2) := by decide +kernel
theorem dX7_drift_37 : decode cX7_drift 37 = .ok (.iaload, 1) := by decide +kernel
theorem dX7_drift_38 : decode cX7_drift 38 = .ok (.istore 4, 2) := by decide +kernel
theorem dX7_drift_40 : decode cX7_drift 40 = .ok (.iconst 0, 1) := by decide +kernel
theorem dX7_drift_41 : decode cX7_drift 41 = .ok (.istore 5, 2) := by decide +kernel
theorem dX7_drift_43 : decode cX7_drift 43 = .ok (.iload_n 1, 1) := by decide +kernel
theorem dX7_drift_44 : decode cX7_drift 44 = .ok (.istore 6, 2) := by decide +kernel
theorem dX7_drift_46 : decode cX7_drift 46 = .ok (.iconst 0, 1) := by decide +kernel
theorem dX7_drift_47 : decode cX7_drift 47 = .ok (.istore 7, 2) := by decide +kernel
theorem dX7_drift_49 : decode cX7_drift 49 = .ok (.iload 7, 2) := by decide +kernel
theorem dX7_drift_51 : decode cX7_drift 51 = .ok (.iload_n 2, 1) := by decide +kernel
theorem dX7_drift_52 : decode cX7_drift 52 = .ok (.if_icmp .ge 55, 3) := by decide +kernel
theorem dX7_drift_55 : decode cX7_drift 55 = .ok (.iload 6, 2) := by decide +kernel
theorem dX7_drift_57 : decode cX7_drift 57 = .ok (.ldc 245, 2) := by decide +kernel
theorem dX7_drift_59 : decode cX7_drift 59 = .ok (.imul, 1) := by decide +kernel
theorem dX7_drift_60 : decode cX7_drift 60 = .ok (.sipush 12345, 3) := by decide +kernel
theorem dX7_drift_63 : decode cX7_drift 63 = .ok (.iadd, 1) := by decide +kernel
theorem dX7_drift_64 : decode cX7_drift 64 = .ok (.istore 6, 2) := by decide +kernel
theorem dX7_drift_66 : decode cX7_drift 66 = .ok (.iload 4, 2) := by decide +kernel
theorem dX7_drift_68 : decode cX7_drift 68 = .ok (.iconst 1, 1) := by decide +kernel
theorem dX7_drift_69 : decode cX7_drift 69 = .ok (.iload 6, 2) := by decide +kernel
theorem dX7_drift_71 : decode cX7_drift 71 = .ok (.bipush 16, 2) := by decide +kernel
theorem dX7_drift_73 : decode cX7_drift 73 = .ok (.ishr, 1) := by decide +kernel
theorem dX7_drift_74 : decode cX7_drift 74 = .ok (.sipush 32767, 3) := by decide +kernel
theorem dX7_drift_77 : decode cX7_drift 77 = .ok (.iand, 1) := by decide +kernel
theorem dX7_drift_78 : decode cX7_drift 78 = .ok (.aload_n 0, 1) := by decide +kernel
theorem dX7_drift_79 : decode cX7_drift 79 = .ok (.getfield 72, 3) := by decide +kernel
theorem dX7_drift_82 : decode cX7_drift 82 = .ok (.irem, 1) := by decide +kernel
theorem dX7_drift_83 : decode cX7_drift 83 = .ok (.ishl, 1) := by decide +kernel
theorem dX7_drift_84 : decode cX7_drift 84 = .ok (.ixor, 1) := by decide +kernel
theorem dX7_drift_85 : decode cX7_drift 85 = .ok (.istore 4, 2) := by decide +kernel
theorem dX7_drift_87 : decode cX7_drift 87 = .ok (.iload 5, 2) := by decide +kernel
theorem dX7_drift_89 : decode cX7_drift 89 = .ok (.aload_n 0, 1) := by decide +kernel
theorem dX7_drift_90 : decode cX7_drift 90 = .ok (.iload 4, 2) := by decide +kernel
theorem dX7_drift_92 : decode cX7_drift 92 = .ok (.invokevirtual 200, 3) := by decide +kernel
theorem dX7_drift_95 : decode cX7_drift 95 = .ok (.invokestatic 164, 3) := by decide +kernel
theorem dX7_drift_98 : decode cX7_drift 98 = .ok (.iadd, 1) := by decide +kernel
theorem dX7_drift_99 : decode cX7_drift 99 = .ok (.istore 5, 2) := by decide +kernel
theorem dX7_drift_101 : decode cX7_drift 101 = .ok (.iinc 7 1, 3) := by decide +kernel
theorem dX7_drift_104 : decode cX7_drift 104 = .ok (.goto (-55), 3) := by decide +kernel
theorem dX7_drift_107 : decode cX7_drift 107 = .ok (.iload_n 3, 1) := by decide +kernel
theorem dX7_drift_108 : decode cX7_drift 108 = .ok (.ifCond .ne 8, 3) := by decide +kernel
theorem dX7_drift_111 : decode cX7_drift 111 = .ok (.iload 5, 2) := by decide +kernel
theorem dX7_drift_113 : decode cX7_drift 113 = .ok (.goto 9, 3) := by decide +kernel
theorem dX7_drift_116 : decode cX7_drift 116 = .ok (.aload_n 0, 1) := by decide +kernel
theorem dX7_drift_117 : decode cX7_drift 117 = .ok (.iload 4, 2) := by decide +kernel
theorem dX7_drift_119 : decode cX7_drift 119 = .ok (.invokevirtual 168, 3) := by decide +kernel
theorem dX7_drift_122 : decode cX7_drift 122 = .ok (.ireturn, 1) := by decide +kernel
theorem dX7_copies_0 : decode cX7_copies 0 = .ok (.iconst 0, 1) := by decide +kernel
theorem dX7_copies_1 : decode cX7_copies 1 = .ok (.istore_n 3, 1) := by decide +kernel
theorem dX7_copies_2 : decode cX7_copies 2 = .ok (.iload_n 3, 1) := by decide +kernel
theorem dX7_copies_3 : decode cX7_copies 3 = .ok (.bipush 47, 2) := by decide +kernel
theorem dX7_copies_5 : decode cX7_copies 5 = .ok (.if_icmp .ge 25, 3) := by decide +kernel
theorem dX7_copies_8 : decode cX7_copies 8 = .ok (.aload_n 0, 1) := by decide +kernel
theorem dX7_copies_9 : decode cX7_copies 9 = .ok (.getfield 7, 3) := by decide +kernel
theorem dX7_copies_12 : decode cX7_copies 12 = .ok (.iload_n 1, 1) := by decide +kernel
theorem dX7_copies_13 : decode cX7_copies 13 = .ok (.iload_n 3, 1) := by decide +kernel
theorem dX7_copies_14 : decode cX7_copies 14 = .ok (.iadd, 1) := by decide +kernel
theorem dX7_copies_15 : decode cX7_copies 15 = .ok (.aload_n 0, 1) := by decide +kernel
theorem dX7_copies_16 : decode cX7_copies 16 = .ok (.getfield 7, 3) := by decide +kernel
theorem dX7_copies_19 : decode cX7_copies 19 = .ok (.iload_n 2, 1) := by decide +kernel
theorem dX7_copies_20 : decode cX7_copies 20 = .ok (.iload_n 3, 1) := by decide +kernel
theorem dX7_copies_21 : decode cX7_copies 21 = .ok (.iadd, 1) := by decide +kernel
theorem dX7_copies_22 : decode cX7_copies 22 = .ok (.iaload, 1) := by decide +kernel
theorem dX7_copies_23 : decode cX7_copies 23 = .ok (.iastore, 1) := by decide +kernel
theorem dX7_copies_24 : decode cX7_copies 24 = .ok (.iinc 3 1, 3) := by decide +kernel
theorem dX7_copies_27 : decode cX7_copies 27 = .ok (.goto (-25), 3) := by decide +kernel
theorem dX7_copies_30 : decode cX7_copies 30 = .ok (.return_, 1) := by decide +kernel
theorem dX7_keep_0 : decode cX7_keep 0 = .ok (.iload_n 1, 1) := by decide +kernel
theorem dX7_keep_1 : decode cX7_keep 1 = .ok (.i2l, 1) := by decide +kernel
theorem dX7_keep_2 : decode cX7_keep 2 = .ok (.lconst 0, 1) := by decide +kernel
theorem dX7_keep_3 : decode cX7_keep 3 = .ok (.lconst 1, 1) := by decide +kernel
theorem dX7_keep_4 : decode cX7_keep 4 = .ok (.invokestatic 77, 3) := by decide +kernel
theorem dX7_keep_7 : decode cX7_keep 7 = .ok (.ifCond .ne 5, 3) := by decide +kernel
theorem dX7_keep_10 : decode cX7_keep 10 = .ok (.iconst (-1), 1) := by decide +kernel
theorem dX7_keep_11 : decode cX7_keep 11 = .ok (.ireturn, 1) := by decide +kernel
theorem dX7_keep_12 : decode cX7_keep 12 = .ok (.aload_n 0, 1) := by decide +kernel
theorem dX7_keep_13 : decode cX7_keep 13 = .ok (.getfield 13, 3) := by decide +kernel
theorem dX7_keep_16 : decode cX7_keep 16 = .ok (.iload_n 1, 1) := by decide +kernel
theorem dX7_keep_17 : decode cX7_keep 17 = .ok (.baload, 1) := by decide +kernel
theorem dX7_keep_18 : decode cX7_keep 18 = .ok (.invokestatic 164, 3) := by decide +kernel
theorem dX7_keep_21 : decode cX7_keep 21 = .ok (.istore_n 2, 1) := by decide +kernel
theorem dX7_keep_22 : decode cX7_keep 22 = .ok (.aload_n 0, 1) := by decide +kernel
theorem dX7_keep_23 : decode cX7_keep 23 = .ok (.getfield 13, 3) := by decide +kernel
theorem dX7_keep_26 : decode cX7_keep 26 = .ok (.iload_n 1, 1) := by decide +kernel
theorem dX7_keep_27 : decode cX7_keep 27 = .ok (.iconst 1, 1) := by decide +kernel
theorem dX7_keep_28 : decode cX7_keep 28 = .ok (.bastore, 1) := by decide +kernel
theorem dX7_keep_29 : decode cX7_keep 29 = .ok (.aload_n 0, 1) := by decide +kernel
theorem dX7_keep_30 : decode cX7_keep 30 = .ok (.bipush 47, 2) := by decide +kernel
theorem dX7_keep_32 : decode cX7_keep 32 = .ok (.iload_n 1, 1) := by decide +kernel
theorem dX7_keep_33 : decode cX7_keep 33 = .ok (.iconst 1, 1) := by decide +kernel
theorem dX7_keep_34 : decode cX7_keep 34 = .ok (.iadd, 1) := by decide +kernel
theorem dX7_keep_35 : decode cX7_keep 35 = .ok (.imul, 1) := by decide +kernel
theorem dX7_keep_36 : decode cX7_keep 36 = .ok (.iconst 0, 1) := by decide +kernel
theorem dX7_keep_37 : decode cX7_keep 37 = .ok (.invokevirtual 246, 3) := by decide +kernel
theorem dX7_keep_40 : decode cX7_keep 40 = .ok (.iload_n 2, 1) := by decide +kernel
theorem dX7_keep_41 : decode cX7_keep 41 = .ok (.ireturn, 1) := by decide +kernel
theorem dX7_back_0 : decode cX7_back 0 = .ok (.iload_n 1, 1) := by decide +kernel
theorem dX7_back_1 : decode cX7_back 1 = .ok (.i2l, 1) := by decide +kernel
theorem dX7_back_2 : decode cX7_back 2 = .ok (.lconst 0, 1) := by decide +kernel
theorem dX7_back_3 : decode cX7_back 3 = .ok (.lconst 1, 1) := by decide +kernel
theorem dX7_back_4 : decode cX7_back 4 = .ok (.invokestatic 77, 3) := by decide +kernel
theorem dX7_back_7 : decode cX7_back 7 = .ok (.ifCond .ne 5, 3) := by decide +kernel
theorem dX7_back_10 : decode cX7_back 10 = .ok (.iconst (-1), 1) := by decide +kernel
theorem dX7_back_11 : decode cX7_back 11 = .ok (.ireturn, 1) := by decide +kernel
theorem dX7_back_12 : decode cX7_back 12 = .ok (.aload_n 0, 1) := by decide +kernel
theorem dX7_back_13 : decode cX7_back 13 = .ok (.getfield 13, 3) := by decide +kernel
theorem dX7_back_16 : decode cX7_back 16 = .ok (.iload_n 1, 1) := by decide +kernel
theorem dX7_back_17 : decode cX7_back 17 = .ok (.baload, 1) := by decide +kernel
theorem dX7_back_18 : decode cX7_back 18 = .ok (.ifCond .ne 6, 3) := by decide +kernel
theorem dX7_back_21 : decode cX7_back 21 = .ok (.bipush (-2), 2) := by decide +kernel
theorem dX7_back_23 : decode cX7_back 23 = .ok (.ireturn, 1) := by decide +kernel
theorem dX7_back_24 : decode cX7_back 24 = .ok (.aload_n 0, 1) := by decide +kernel
theorem dX7_back_25 : decode cX7_back 25 = .ok (.iconst 0, 1) := by decide +kernel
theorem dX7_back_26 : decode cX7_back 26 = .ok (.bipush 47, 2) := by decide +kernel
theorem dX7_back_28 : decode cX7_back 28 = .ok (.iload_n 1, 1) := by decide +kernel
theorem dX7_back_29 : decode cX7_back 29 = .ok (.iconst 1, 1) := by decide +kernel
theorem dX7_back_30 : decode cX7_back 30 = .ok (.iadd, 1) := by decide +kernel
theorem dX7_back_31 : decode cX7_back 31 = .ok (.imul, 1) := by decide +kernel
theorem dX7_back_32 : decode cX7_back 32 = .ok (.invokevirtual 246, 3) := by decide +kernel
theorem dX7_back_35 : decode cX7_back 35 = .ok (.aload_n 0, 1) := by decide +kernel
theorem dX7_back_36 : decode cX7_back 36 = .ok (.getfield 7, 3) := by decide +kernel
theorem dX7_back_39 : decode cX7_back 39 = .ok (.bipush 26, 2) := by decide +kernel
theorem dX7_back_41 : decode cX7_back 41 = .ok (.iaload, 1) := by decide +kernel
theorem dX7_back_42 : decode cX7_back 42 = .ok (.ireturn, 1) := by decide +kernel
theorem dX7_isSheet_0 : decode cX7_isSheet 0 = .ok (.iload_n 0, 1) := by decide +kernel
theorem dX7_isSheet_1 : decode cX7_isSheet 1 = .ok (.i2l, 1) := by decide +kernel
theorem dX7_isSheet_2 : decode cX7_isSheet 2 = .ok (.lconst 0, 1) := by decide +kernel
theorem dX7_isSheet_3 : decode cX7_isSheet 3 = .ok (.ldc2_w 154, 3) := by decide +kernel
theorem dX7_isSheet_6 : decode cX7_isSheet 6 = .ok (.invokestatic 77, 3) := by decide +kernel
theorem dX7_isSheet_9 : decode cX7_isSheet 9 = .ok (.ifCond .eq 19, 3) := by decide +kernel
theorem dX7_isSheet_12 : decode cX7_isSheet 12 = .ok (.iload_n 1, 1) := by decide +kernel
theorem dX7_isSheet_13 : decode cX7_isSheet 13 = .ok (.i2l, 1) := by decide +kernel
theorem dX7_isSheet_14 : decode cX7_isSheet 14 = .ok (.lconst 0, 1) := by decide +kernel
theorem dX7_isSheet_15 : decode cX7_isSheet 15 = .ok (.ldc2_w 194, 3) := by decide +kernel
theorem dX7_isSheet_18 : decode cX7_isSheet 18 = .ok (.invokestatic 77, 3) := by decide +kernel
theorem dX7_isSheet_21 : decode cX7_isSheet 21 = .ok (.ifCond .eq 7, 3) := by decide +kernel
theorem dX7_isSheet_24 : decode cX7_isSheet 24 = .ok (.iconst 1, 1) := by decide +kernel
theorem dX7_isSheet_25 : decode cX7_isSheet 25 = .ok (.goto 4, 3) := by decide +kernel
theorem dX7_isSheet_28 : decode cX7_isSheet 28 = .ok (.iconst 0, 1) := by decide +kernel
theorem dX7_isSheet_29 : decode cX7_isSheet 29 = .ok (.ireturn, 1) := by decide +kernel
theorem dX7_sheet_0 : decode cX7_sheet 0 = .ok (.iload_n 1, 1) := by decide +kernel
theorem dX7_sheet_1 : decode cX7_sheet 1 = .ok (.iload_n 2, 1) := by decide +kernel
theorem dX7_sheet_2 : decode cX7_sheet 2 = .ok (.invokestatic 250, 3) := by decide +kernel
theorem dX7_sheet_5 : decode cX7_sheet 5 = .ok (.ifCond .eq 9, 3) := by decide +kernel
theorem dX7_sheet_8 : decode cX7_sheet 8 = .ok (.iload_n 3, 1) := by decide +kernel
theorem dX7_sheet_9 : decode cX7_sheet 9 = .ok (.bipush 40, 2) := by decide +kernel
theorem dX7_sheet_11 : decode cX7_sheet 11 = .ok (.if_icmp .le 5, 3) := by decide +kernel
theorem dX7_sheet_14 : decode cX7_sheet 14 = .ok (.iconst (-1), 1) := by decide +kernel
theorem dX7_sheet_15 : decode cX7_sheet 15 = .ok (.ireturn, 1) := by decide +kernel
theorem dX7_sheet_16 : decode cX7_sheet 16 = .ok (.iload_n 3, 1) := by decide +kernel
theorem dX7_sheet_17 : decode cX7_sheet 17 = .ok (.ifCond .ge 6, 3) := by decide +kernel
theorem dX7_sheet_20 : decode cX7_sheet 20 = .ok (.bipush (-14), 2) := by decide +kernel
theorem dX7_sheet_22 : decode cX7_sheet 22 = .ok (.ireturn, 1) := by decide +kernel
theorem dX7_sheet_23 : decode cX7_sheet 23 = .ok (.aload_n 0, 1) := by decide +kernel
theorem dX7_sheet_24 : decode cX7_sheet 24 = .ok (.getfield 47, 3) := by decide +kernel
theorem dX7_sheet_27 : decode cX7_sheet 27 = .ok (.iload_n 1, 1) := by decide +kernel
theorem dX7_sheet_28 : decode cX7_sheet 28 = .ok (.iload_n 2, 1) := by decide +kernel
theorem dX7_sheet_29 : decode cX7_sheet 29 = .ok (.iastore, 1) := by decide +kernel
theorem dX7_sheet_30 : decode cX7_sheet 30 = .ok (.aload_n 0, 1) := by decide +kernel
theorem dX7_sheet_31 : decode cX7_sheet 31 = .ok (.getfield 50, 3) := by decide +kernel
theorem dX7_sheet_34 : decode cX7_sheet 34 = .ok (.iload_n 1, 1) := by decide +kernel
theorem dX7_sheet_35 : decode cX7_sheet 35 = .ok (.iload_n 3, 1) := by decide +kernel
theorem dX7_sheet_36 : decode cX7_sheet 36 = .ok (.iastore, 1) := by decide +kernel
theorem dX7_sheet_37 : decode cX7_sheet 37 = .ok (.iconst 0, 1) := by decide +kernel
theorem dX7_sheet_38 : decode cX7_sheet 38 = .ok (.istore 4, 2) := by decide +kernel
theorem dX7_sheet_40 : decode cX7_sheet 40 = .ok (.iload 4, 2) := by decide +kernel
theorem dX7_sheet_42 : decode cX7_sheet 42 = .ok (.bipush 40, 2) := by decide +kernel
theorem dX7_sheet_44 : decode cX7_sheet 44 = .ok (.if_icmp .ge 22, 3) := by decide +kernel
theorem dX7_sheet_47 : decode cX7_sheet 47 = .ok (.aload_n 0, 1) := by decide +kernel
theorem dX7_sheet_48 : decode cX7_sheet 48 = .ok (.getfield 53, 3) := by decide +kernel
theorem dX7_sheet_51 : decode cX7_sheet 51 = .ok (.bipush 40, 2) := by decide +kernel
theorem dX7_sheet_53 : decode cX7_sheet 53 = .ok (.iload_n 1, 1) := by decide +kernel
theorem dX7_sheet_54 : decode cX7_sheet 54 = .ok (.imul, 1) := by decide +kernel
theorem dX7_sheet_55 : decode cX7_sheet 55 = .ok (.iload 4, 2) := by decide +kernel
theorem dX7_sheet_57 : decode cX7_sheet 57 = .ok (.iadd, 1) := by decide +kernel
theorem dX7_sheet_58 : decode cX7_sheet 58 = .ok (.iconst 0, 1) := by decide +kernel
theorem dX7_sheet_59 : decode cX7_sheet 59 = .ok (.iastore, 1) := by decide +kernel
theorem dX7_sheet_60 : decode cX7_sheet 60 = .ok (.iinc 4 1, 3) := by decide +kernel
theorem dX7_sheet_63 : decode cX7_sheet 63 = .ok (.goto (-23), 3) := by decide +kernel
theorem dX7_sheet_66 : decode cX7_sheet 66 = .ok (.iconst 1, 1) := by decide +kernel
theorem dX7_sheet_67 : decode cX7_sheet 67 = .ok (.ireturn, 1) := by decide +kernel
theorem dX7_lay_0 : decode cX7_lay 0 = .ok (.iload_n 1, 1) := by decide +kernel
theorem dX7_lay_1 : decode cX7_lay 1 = .ok (.iconst 0, 1) := by decide +kernel
theorem dX7_lay_2 : decode cX7_lay 2 = .ok (.invokestatic 250, 3) := by decide +kernel
theorem dX7_lay_5 : decode cX7_lay 5 = .ok (.ifCond .ne 5, 3) := by decide +kernel
theorem dX7_lay_8 : decode cX7_lay 8 = .ok (.iconst (-1), 1) := by decide +kernel
theorem dX7_lay_9 : decode cX7_lay 9 = .ok (.ireturn, 1) := by decide +kernel
theorem dX7_lay_10 : decode cX7_lay 10 = .ok (.aload_n 0, 1) := by decide +kernel
theorem dX7_lay_11 : decode cX7_lay 11 = .ok (.getfield 47, 3) := by decide +kernel
theorem dX7_lay_14 : decode cX7_lay 14 = .ok (.iload_n 1, 1) := by decide +kernel
theorem dX7_lay_15 : decode cX7_lay 15 = .ok (.iaload, 1) := by decide +kernel
theorem dX7_lay_16 : decode cX7_lay 16 = .ok (.bipush (-4), 2) := by decide +kernel
theorem dX7_lay_18 : decode cX7_lay 18 = .ok (.if_icmp .ne 6, 3) := by decide +kernel
theorem dX7_lay_21 : decode cX7_lay 21 = .ok (.bipush (-11), 2) := by decide +kernel
theorem dX7_lay_23 : decode cX7_lay 23 = .ok (.ireturn, 1) := by decide +kernel
theorem dX7_lay_24 : decode cX7_lay 24 = .ok (.iload_n 2, 1) := by decide +kernel
theorem dX7_lay_25 : decode cX7_lay 25 = .ok (.i2l, 1) := by decide +kernel
theorem dX7_lay_26 : decode cX7_lay 26 = .ok (.lconst 0, 1) := by decide +kernel
theorem dX7_lay_27 : decode cX7_lay 27 = .ok (.aload_n 0, 1) := by decide +kernel
theorem dX7_lay_28 : decode cX7_lay 28 = .ok (.getfield 50, 3) := by decide +kernel
theorem dX7_lay_31 : decode cX7_lay 31 = .ok (.iload_n 1, 1) := by decide +kernel
theorem dX7_lay_32 : decode cX7_lay 32 = .ok (.iaload, 1) := by decide +kernel
theorem dX7_lay_33 : decode cX7_lay 33 = .ok (.iconst 1, 1) := by decide +kernel
theorem dX7_lay_34 : decode cX7_lay 34 = .ok (.isub, 1) := by decide +kernel
theorem dX7_lay_35 : decode cX7_lay 35 = .ok (.i2l, 1) := by decide +kernel
theorem dX7_lay_36 : decode cX7_lay 36 = .ok (.invokestatic 77, 3) := by decide +kernel
theorem dX7_lay_39 : decode cX7_lay 39 = .ok (.ifCond .ne 6, 3) := by decide +kernel
theorem dX7_lay_42 : decode cX7_lay 42 = .ok (.bipush (-12), 2) := by decide +kernel
theorem dX7_lay_44 : decode cX7_lay 44 = .ok (.ireturn, 1) := by decide +kernel
theorem dX7_lay_45 : decode cX7_lay 45 = .ok (.aload_n 0, 1) := by decide +kernel
theorem dX7_lay_46 : decode cX7_lay 46 = .ok (.getfield 53, 3) := by decide +kernel
theorem dX7_lay_49 : decode cX7_lay 49 = .ok (.bipush 40, 2) := by decide +kernel
theorem dX7_lay_51 : decode cX7_lay 51 = .ok (.iload_n 1, 1) := by decide +kernel
theorem dX7_lay_52 : decode cX7_lay 52 = .ok (.imul, 1) := by decide +kernel
theorem dX7_lay_53 : decode cX7_lay 53 = .ok (.iload_n 2, 1) := by decide +kernel
theorem dX7_lay_54 : decode cX7_lay 54 = .ok (.iadd, 1) := by decide +kernel
theorem dX7_lay_55 : decode cX7_lay 55 = .ok (.aload_n 0, 1) := by decide +kernel
theorem dX7_lay_56 : decode cX7_lay 56 = .ok (.getfield 47, 3) := by decide +kernel
theorem dX7_lay_59 : decode cX7_lay 59 = .ok (.iload_n 1, 1) := by decide +kernel
theorem dX7_lay_60 : decode cX7_lay 60 = .ok (.iaload, 1) := by decide +kernel
theorem dX7_lay_61 : decode cX7_lay 61 = .ok (.ifCond .ne 8, 3) := by decide +kernel
theorem dX7_lay_64 : decode cX7_lay 64 = .ok (.iload_n 3, 1) := by decide +kernel
theorem dX7_lay_65 : decode cX7_lay 65 = .ok (.i2b, 1) := by decide +kernel
theorem dX7_lay_66 : decode cX7_lay 66 = .ok (.goto 19, 3) := by decide +kernel
theorem dX7_lay_69 : decode cX7_lay 69 = .ok (.aload_n 0, 1) := by decide +kernel
theorem dX7_lay_70 : decode cX7_lay 70 = .ok (.getfield 47, 3) := by decide +kernel
theorem dX7_lay_73 : decode cX7_lay 73 = .ok (.iload_n 1, 1) := by decide +kernel
theorem dX7_lay_74 : decode cX7_lay 74 = .ok (.iaload, 1) := by decide +kernel
theorem dX7_lay_75 : decode cX7_lay 75 = .ok (.iconst 1, 1) := by decide +kernel
theorem dX7_lay_76 : decode cX7_lay 76 = .ok (.if_icmp .ne 8, 3) := by decide +kernel
theorem dX7_lay_79 : decode cX7_lay 79 = .ok (.iload_n 3, 1) := by decide +kernel
theorem dX7_lay_80 : decode cX7_lay 80 = .ok (.i2s, 1) := by decide +kernel
theorem dX7_lay_81 : decode cX7_lay 81 = .ok (.goto 4, 3) := by decide +kernel
theorem dX7_lay_84 : decode cX7_lay 84 = .ok (.iload_n 3, 1) := by decide +kernel
theorem dX7_lay_85 : decode cX7_lay 85 = .ok (.iastore, 1) := by decide +kernel
theorem dX7_lay_86 : decode cX7_lay 86 = .ok (.iconst 1, 1) := by decide +kernel
theorem dX7_lay_87 : decode cX7_lay 87 = .ok (.ireturn, 1) := by decide +kernel
theorem dX7_read_0 : decode cX7_read 0 = .ok (.iload_n 1, 1) := by decide +kernel
theorem dX7_read_1 : decode cX7_read 1 = .ok (.iload_n 2, 1) := by decide +kernel
theorem dX7_read_2 : decode cX7_read 2 = .ok (.invokestatic 250, 3) := by decide +kernel
theorem dX7_read_5 : decode cX7_read 5 = .ok (.ifCond .eq 16, 3) := by decide +kernel
theorem dX7_read_8 : decode cX7_read 8 = .ok (.iload 4, 2) := by decide +kernel
theorem dX7_read_10 : decode cX7_read 10 = .ok (.i2l, 1) := by decide +kernel
theorem dX7_read_11 : decode cX7_read 11 = .ok (.lconst 0, 1) := by decide +kernel
theorem dX7_read_12 : decode cX7_read 12 = .ok (.ldc2_w 253, 3) := by decide +kernel
theorem dX7_read_15 : decode cX7_read 15 = .ok (.invokestatic 77, 3) := by decide +kernel
theorem dX7_read_18 : decode cX7_read 18 = .ok (.ifCond .ne 5, 3) := by decide +kernel
theorem dX7_read_21 : decode cX7_read 21 = .ok (.iconst (-1), 1) := by decide +kernel
theorem dX7_read_22 : decode cX7_read 22 = .ok (.ireturn, 1) := by decide +kernel
theorem dX7_read_23 : decode cX7_read 23 = .ok (.aload_n 0, 1) := by decide +kernel
theorem dX7_read_24 : decode cX7_read 24 = .ok (.getfield 7, 3) := by decide +kernel
theorem dX7_read_27 : decode cX7_read 27 = .ok (.bipush 24, 2) := by decide +kernel
theorem dX7_read_29 : decode cX7_read 29 = .ok (.iaload, 1) := by decide +kernel
theorem dX7_read_30 : decode cX7_read 30 = .ok (.istore 5, 2) := by decide +kernel
theorem dX7_read_32 : decode cX7_read 32 = .ok (.iconst 0, 1) := by decide +kernel
theorem dX7_read_33 : decode cX7_read 33 = .ok (.istore 6, 2) := by decide +kernel
theorem dX7_read_35 : decode cX7_read 35 = .ok (.iconst 0, 1) := by decide +kernel
theorem dX7_read_36 : decode cX7_read 36 = .ok (.istore 7, 2) := by decide +kernel
theorem dX7_read_38 : decode cX7_read 38 = .ok (.iconst 0, 1) := by decide +kernel
theorem dX7_read_39 : decode cX7_read 39 = .ok (.istore 8, 2) := by decide +kernel
theorem dX7_read_41 : decode cX7_read 41 = .ok (.iload 8, 2) := by decide +kernel
theorem dX7_read_43 : decode cX7_read 43 = .ok (.iload 4, 2) := by decide +kernel
theorem dX7_read_45 : decode cX7_read 45 = .ok (.if_icmp .ge 122, 3) := by decide +kernel
theorem dX7_read_48 : decode cX7_read 48 = .ok (.iload 6, 2) := by decide +kernel
theorem dX7_read_50 : decode cX7_read 50 = .ok (.ifCond .ne 117, 3) := by decide +kernel
theorem dX7_read_53 : decode cX7_read 53 = .ok (.iload_n 3, 1) := by decide +kernel
theorem dX7_read_54 : decode cX7_read 54 = .ok (.i2l, 1) := by decide +kernel
theorem dX7_read_55 : decode cX7_read 55 = .ok (.iload 8, 2) := by decide +kernel
theorem dX7_read_57 : decode cX7_read 57 = .ok (.i2l, 1) := by decide +kernel
theorem dX7_read_58 : decode cX7_read 58 = .ok (.ladd, 1) := by decide +kernel
theorem dX7_read_59 : decode cX7_read 59 = .ok (.lstore 9, 2) := by decide +kernel
theorem dX7_read_61 : decode cX7_read 61 = .ok (.aload_n 0, 1) := by decide +kernel
theorem dX7_read_62 : decode cX7_read 62 = .ok (.getfield 47, 3) := by decide +kernel
theorem dX7_read_65 : decode cX7_read 65 = .ok (.iload_n 1, 1) := by decide +kernel
theorem dX7_read_66 : decode cX7_read 66 = .ok (.iaload, 1) := by decide +kernel
theorem dX7_read_67 : decode cX7_read 67 = .ok (.bipush (-4), 2) := by decide +kernel
theorem dX7_read_69 : decode cX7_read 69 = .ok (.if_icmp .ne 7, 3) := by decide +kernel
theorem dX7_read_72 : decode cX7_read 72 = .ok (.iconst 1, 1) := by decide +kernel
theorem dX7_read_73 : decode cX7_read 73 = .ok (.goto 42, 3) := by decide +kernel
theorem dX7_read_76 : decode cX7_read 76 = .ok (.aload_n 0, 1) := by decide +kernel
theorem dX7_read_77 : decode cX7_read 77 = .ok (.getfield 47, 3) := by decide +kernel
theorem dX7_read_80 : decode cX7_read 80 = .ok (.iload_n 1, 1) := by decide +kernel
theorem dX7_read_81 : decode cX7_read 81 = .ok (.iaload, 1) := by decide +kernel
theorem dX7_read_82 : decode cX7_read 82 = .ok (.iload_n 2, 1) := by decide +kernel
theorem dX7_read_83 : decode cX7_read 83 = .ok (.if_icmp .eq 7, 3) := by decide +kernel
theorem dX7_read_86 : decode cX7_read 86 = .ok (.iconst 3, 1) := by decide +kernel
theorem dX7_read_87 : decode cX7_read 87 = .ok (.goto 28, 3) := by decide +kernel
theorem dX7_read_90 : decode cX7_read 90 = .ok (.lload 9, 2) := by decide +kernel
theorem dX7_read_92 : decode cX7_read 92 = .ok (.lconst 0, 1) := by decide +kernel
theorem dX7_read_93 : decode cX7_read 93 = .ok (.lcmp, 1) := by decide +kernel
theorem dX7_read_94 : decode cX7_read 94 = .ok (.ifCond .lt 16, 3) := by decide +kernel
theorem dX7_read_97 : decode cX7_read 97 = .ok (.lload 9, 2) := by decide +kernel
theorem dX7_read_99 : decode cX7_read 99 = .ok (.aload_n 0, 1) := by decide +kernel
theorem dX7_read_100 : decode cX7_read 100 = .ok (.getfield 50, 3) := by decide +kernel
theorem dX7_read_103 : decode cX7_read 103 = .ok (.iload_n 1, 1) := by decide +kernel
theorem dX7_read_104 : decode cX7_read 104 = .ok (.iaload, 1) := by decide +kernel
theorem dX7_read_105 : decode cX7_read 105 = .ok (.i2l, 1) := by decide +kernel
theorem dX7_read_106 : decode cX7_read 106 = .ok (.lcmp, 1) := by decide +kernel
theorem dX7_read_107 : decode cX7_read 107 = .ok (.ifCond .lt 7, 3) := by decide +kernel
theorem dX7_read_110 : decode cX7_read 110 = .ok (.iconst 2, 1) := by decide +kernel
theorem dX7_read_111 : decode cX7_read 111 = .ok (.goto 4, 3) := by decide +kernel
theorem dX7_read_114 : decode cX7_read 114 = .ok (.iconst 0, 1) := by decide +kernel
theorem dX7_read_115 : decode cX7_read 115 = .ok (.istore 6, 2) := by decide +kernel
theorem dX7_read_117 : decode cX7_read 117 = .ok (.iload 6, 2) := by decide +kernel
theorem dX7_read_119 : decode cX7_read 119 = .ok (.ifCond .ne 42, 3) := by decide +kernel
theorem dX7_read_122 : decode cX7_read 122 = .ok (.aload_n 0, 1) := by decide +kernel
theorem dX7_read_123 : decode cX7_read 123 = .ok (.aload_n 0, 1) := by decide +kernel
theorem dX7_read_124 : decode cX7_read 124 = .ok (.getfield 53, 3) := by decide +kernel
theorem dX7_read_127 : decode cX7_read 127 = .ok (.bipush 40, 2) := by decide +kernel
theorem dX7_read_129 : decode cX7_read 129 = .ok (.iload_n 1, 1) := by decide +kernel
theorem dX7_read_130 : decode cX7_read 130 = .ok (.imul, 1) := by decide +kernel
theorem dX7_read_131 : decode cX7_read 131 = .ok (.iload_n 3, 1) := by decide +kernel
theorem dX7_read_132 : decode cX7_read 132 = .ok (.iadd, 1) := by decide +kernel
theorem dX7_read_133 : decode cX7_read 133 = .ok (.iload 8, 2) := by decide +kernel
theorem dX7_read_135 : decode cX7_read 135 = .ok (.iadd, 1) := by decide +kernel
theorem dX7_read_136 : decode cX7_read 136 = .ok (.iaload, 1) := by decide +kernel
theorem dX7_read_137 : decode cX7_read 137 = .ok (.invokevirtual 255, 3) := by decide +kernel
theorem dX7_read_140 : decode cX7_read 140 = .ok (.ifCond .ge 18, 3) := by decide +kernel
theorem dX7_read_143 : decode cX7_read 143 = .ok (.aload_n 0, 1) := by decide +kernel
theorem dX7_read_144 : decode cX7_read 144 = .ok (.getfield 7, 3) := by decide +kernel
theorem dX7_read_147 : decode cX7_read 147 = .ok (.bipush 24, 2) := by decide +kernel
theorem dX7_read_149 : decode cX7_read 149 = .ok (.iload 5, 2) := by decide +kernel
theorem dX7_read_151 : decode cX7_read 151 = .ok (.iastore, 1) := by decide +kernel
theorem dX7_read_152 : decode cX7_read 152 = .ok (.bipush (-20), 2) := by decide +kernel
theorem dX7_read_154 : decode cX7_read 154 = .ok (.iload 8, 2) := by decide +kernel
theorem dX7_read_156 : decode cX7_read 156 = .ok (.isub, 1) := by decide +kernel
theorem dX7_read_157 : decode cX7_read 157 = .ok (.ireturn, 1) := by decide +kernel
theorem dX7_read_158 : decode cX7_read 158 = .ok (.iinc 7 1, 3) := by decide +kernel
theorem dX7_read_161 : decode cX7_read 161 = .ok (.iinc 8 1, 3) := by decide +kernel
theorem dX7_read_164 : decode cX7_read 164 = .ok (.goto (-123), 3) := by decide +kernel
theorem dX7_read_167 : decode cX7_read 167 = .ok (.aload_n 0, 1) := by decide +kernel
theorem dX7_read_168 : decode cX7_read 168 = .ok (.iload 6, 2) := by decide +kernel
theorem dX7_read_170 : decode cX7_read 170 = .ok (.putfield 258, 3) := by decide +kernel
theorem dX7_read_173 : decode cX7_read 173 = .ok (.iload 7, 2) := by decide +kernel
theorem dX7_read_175 : decode cX7_read 175 = .ok (.ireturn, 1) := by decide +kernel
theorem dX7_torn_0 : decode cX7_torn 0 = .ok (.aload_n 0, 1) := by decide +kernel
theorem dX7_torn_1 : decode cX7_torn 1 = .ok (.getfield 258, 3) := by decide +kernel
theorem dX7_torn_4 : decode cX7_torn 4 = .ok (.ireturn, 1) := by decide +kernel
theorem dX7_count_0 : decode cX7_count 0 = .ok (.iload_n 1, 1) := by decide +kernel
theorem dX7_count_1 : decode cX7_count 1 = .ok (.tableswitch 121 0 5 #[39, 50, 65, 73, 93, 98], 39) := by decide +kernel
theorem dX7_count_40 : decode cX7_count 40 = .ok (.aload_n 0, 1) := by decide +kernel
theorem dX7_count_41 : decode cX7_count 41 = .ok (.getfield 7, 3) := by decide +kernel
theorem dX7_count_44 : decode cX7_count 44 = .ok (.bipush 24, 2) := by decide +kernel
theorem dX7_count_46 : decode cX7_count 46 = .ok (.iaload, 1) := by decide +kernel
theorem dX7_count_47 : decode cX7_count 47 = .ok (.invokestatic 179, 3) := by decide +kernel
theorem dX7_count_50 : decode cX7_count 50 = .ok (.ireturn, 1) := by decide +kernel
theorem dX7_count_51 : decode cX7_count 51 = .ok (.aload_n 0, 1) := by decide +kernel
theorem dX7_count_52 : decode cX7_count 52 = .ok (.aload_n 0, 1) := by decide +kernel
theorem dX7_count_53 : decode cX7_count 53 = .ok (.getfield 7, 3) := by decide +kernel
theorem dX7_count_56 : decode cX7_count 56 = .ok (.bipush 24, 2) := by decide +kernel
theorem dX7_count_58 : decode cX7_count 58 = .ok (.iaload, 1) := by decide +kernel
theorem dX7_count_59 : decode cX7_count 59 = .ok (.invokevirtual 168, 3) := by decide +kernel
theorem dX7_count_62 : decode cX7_count 62 = .ok (.invokestatic 179, 3) := by decide +kernel
theorem dX7_count_65 : decode cX7_count 65 = .ok (.ireturn, 1) := by decide +kernel
theorem dX7_count_66 : decode cX7_count 66 = .ok (.aload_n 0, 1) := by decide +kernel
theorem dX7_count_67 : decode cX7_count 67 = .ok (.getfield 7, 3) := by decide +kernel
theorem dX7_count_70 : decode cX7_count 70 = .ok (.bipush 34, 2) := by decide +kernel
theorem dX7_count_72 : decode cX7_count 72 = .ok (.iaload, 1) := by decide +kernel
theorem dX7_count_73 : decode cX7_count 73 = .ok (.ireturn, 1) := by decide +kernel
theorem dX7_count_74 : decode cX7_count 74 = .ok (.aload_n 0, 1) := by decide +kernel
theorem dX7_count_75 : decode cX7_count 75 = .ok (.getfield 13, 3) := by decide +kernel
theorem dX7_count_78 : decode cX7_count 78 = .ok (.iconst 0, 1) := by decide +kernel
theorem dX7_count_79 : decode cX7_count 79 = .ok (.baload, 1) := by decide +kernel
theorem dX7_count_80 : decode cX7_count 80 = .ok (.invokestatic 164, 3) := by decide +kernel
theorem dX7_count_83 : decode cX7_count 83 = .ok (.aload_n 0, 1) := by decide +kernel
theorem dX7_count_84 : decode cX7_count 84 = .ok (.getfield 13, 3) := by decide +kernel
theorem dX7_count_87 : decode cX7_count 87 = .ok (.iconst 1, 1) := by decide +kernel
theorem dX7_count_88 : decode cX7_count 88 = .ok (.baload, 1) := by decide +kernel
theorem dX7_count_89 : decode cX7_count 89 = .ok (.invokestatic 164, 3) := by decide +kernel
theorem dX7_count_92 : decode cX7_count 92 = .ok (.iadd, 1) := by decide +kernel
theorem dX7_count_93 : decode cX7_count 93 = .ok (.ireturn, 1) := by decide +kernel
theorem dX7_count_94 : decode cX7_count 94 = .ok (.aload_n 0, 1) := by decide +kernel
theorem dX7_count_95 : decode cX7_count 95 = .ok (.getfield 81, 3) := by decide +kernel
theorem dX7_count_98 : decode cX7_count 98 = .ok (.ireturn, 1) := by decide +kernel
theorem dX7_count_99 : decode cX7_count 99 = .ok (.aload_n 0, 1) := by decide +kernel
theorem dX7_count_100 : decode cX7_count 100 = .ok (.getfield 47, 3) := by decide +kernel
theorem dX7_count_103 : decode cX7_count 103 = .ok (.iconst 0, 1) := by decide +kernel
theorem dX7_count_104 : decode cX7_count 104 = .ok (.iaload, 1) := by decide +kernel
theorem dX7_count_105 : decode cX7_count 105 = .ok (.bipush (-4), 2) := by decide +kernel
theorem dX7_count_107 : decode cX7_count 107 = .ok (.if_icmp .ne 8, 3) := by decide +kernel
theorem dX7_count_110 : decode cX7_count 110 = .ok (.bipush (-4), 2) := by decide +kernel
theorem dX7_count_112 : decode cX7_count 112 = .ok (.goto 9, 3) := by decide +kernel
theorem dX7_count_115 : decode cX7_count 115 = .ok (.aload_n 0, 1) := by decide +kernel
theorem dX7_count_116 : decode cX7_count 116 = .ok (.getfield 50, 3) := by decide +kernel
theorem dX7_count_119 : decode cX7_count 119 = .ok (.iconst 0, 1) := by decide +kernel
theorem dX7_count_120 : decode cX7_count 120 = .ok (.iaload, 1) := by decide +kernel
theorem dX7_count_121 : decode cX7_count 121 = .ok (.ireturn, 1) := by decide +kernel
theorem dX7_count_122 : decode cX7_count 122 = .ok (.iconst (-1), 1) := by decide +kernel
theorem dX7_count_123 : decode cX7_count 123 = .ok (.ireturn, 1) := by decide +kernel
theorem dJ6_bitCount_0f7a4_0 : decode cJ6_bitCount_0f7a4 0 = .ok (.iload_n 0, 1) := by decide +kernel
theorem dJ6_bitCount_0f7a4_1 : decode cJ6_bitCount_0f7a4 1 = .ok (.iload_n 0, 1) := by decide +kernel
theorem dJ6_bitCount_0f7a4_2 : decode cJ6_bitCount_0f7a4 2 = .ok (.iconst 1, 1) := by decide +kernel
theorem dJ6_bitCount_0f7a4_3 : decode cJ6_bitCount_0f7a4 3 = .ok (.iushr, 1) := by decide +kernel
theorem dJ6_bitCount_0f7a4_4 : decode cJ6_bitCount_0f7a4 4 = .ok (.ldc_w 265, 3) := by decide +kernel
theorem dJ6_bitCount_0f7a4_7 : decode cJ6_bitCount_0f7a4 7 = .ok (.iand, 1) := by decide +kernel
theorem dJ6_bitCount_0f7a4_8 : decode cJ6_bitCount_0f7a4 8 = .ok (.isub, 1) := by decide +kernel
theorem dJ6_bitCount_0f7a4_9 : decode cJ6_bitCount_0f7a4 9 = .ok (.istore_n 0, 1) := by decide +kernel
theorem dJ6_bitCount_0f7a4_10 : decode cJ6_bitCount_0f7a4 10 = .ok (.iload_n 0, 1) := by decide +kernel
theorem dJ6_bitCount_0f7a4_11 : decode cJ6_bitCount_0f7a4 11 = .ok (.ldc_w 266, 3) := by decide +kernel
theorem dJ6_bitCount_0f7a4_14 : decode cJ6_bitCount_0f7a4 14 = .ok (.iand, 1) := by decide +kernel
theorem dJ6_bitCount_0f7a4_15 : decode cJ6_bitCount_0f7a4 15 = .ok (.iload_n 0, 1) := by decide +kernel
theorem dJ6_bitCount_0f7a4_16 : decode cJ6_bitCount_0f7a4 16 = .ok (.iconst 2, 1) := by decide +kernel
theorem dJ6_bitCount_0f7a4_17 : decode cJ6_bitCount_0f7a4 17 = .ok (.iushr, 1) := by decide +kernel
theorem dJ6_bitCount_0f7a4_18 : decode cJ6_bitCount_0f7a4 18 = .ok (.ldc_w 266, 3) := by decide +kernel
theorem dJ6_bitCount_0f7a4_21 : decode cJ6_bitCount_0f7a4 21 = .ok (.iand, 1) := by decide +kernel
theorem dJ6_bitCount_0f7a4_22 : decode cJ6_bitCount_0f7a4 22 = .ok (.iadd, 1) := by decide +kernel
theorem dJ6_bitCount_0f7a4_23 : decode cJ6_bitCount_0f7a4 23 = .ok (.istore_n 0, 1) := by decide +kernel
theorem dJ6_bitCount_0f7a4_24 : decode cJ6_bitCount_0f7a4 24 = .ok (.iload_n 0, 1) := by decide +kernel
theorem dJ6_bitCount_0f7a4_25 : decode cJ6_bitCount_0f7a4 25 = .ok (.iload_n 0, 1) := by decide +kernel
theorem dJ6_bitCount_0f7a4_26 : decode cJ6_bitCount_0f7a4 26 = .ok (.iconst 4, 1) := by decide +kernel
theorem dJ6_bitCount_0f7a4_27 : decode cJ6_bitCount_0f7a4 27 = .ok (.iushr, 1) := by decide +kernel
theorem dJ6_bitCount_0f7a4_28 : decode cJ6_bitCount_0f7a4 28 = .ok (.iadd, 1) := by decide +kernel
theorem dJ6_bitCount_0f7a4_29 : decode cJ6_bitCount_0f7a4 29 = .ok (.ldc_w 267, 3) := by decide +kernel
theorem dJ6_bitCount_0f7a4_32 : decode cJ6_bitCount_0f7a4 32 = .ok (.iand, 1) := by decide +kernel
theorem dJ6_bitCount_0f7a4_33 : decode cJ6_bitCount_0f7a4 33 = .ok (.istore_n 0, 1) := by decide +kernel
theorem dJ6_bitCount_0f7a4_34 : decode cJ6_bitCount_0f7a4 34 = .ok (.iload_n 0, 1) := by decide +kernel
theorem dJ6_bitCount_0f7a4_35 : decode cJ6_bitCount_0f7a4 35 = .ok (.iload_n 0, 1) := by decide +kernel
theorem dJ6_bitCount_0f7a4_36 : decode cJ6_bitCount_0f7a4 36 = .ok (.bipush 8, 2) := by decide +kernel
theorem dJ6_bitCount_0f7a4_38 : decode cJ6_bitCount_0f7a4 38 = .ok (.iushr, 1) := by decide +kernel
theorem dJ6_bitCount_0f7a4_39 : decode cJ6_bitCount_0f7a4 39 = .ok (.iadd, 1) := by decide +kernel
theorem dJ6_bitCount_0f7a4_40 : decode cJ6_bitCount_0f7a4 40 = .ok (.istore_n 0, 1) := by decide +kernel
theorem dJ6_bitCount_0f7a4_41 : decode cJ6_bitCount_0f7a4 41 = .ok (.iload_n 0, 1) := by decide +kernel
theorem dJ6_bitCount_0f7a4_42 : decode cJ6_bitCount_0f7a4 42 = .ok (.iload_n 0, 1) := by decide +kernel
theorem dJ6_bitCount_0f7a4_43 : decode cJ6_bitCount_0f7a4 43 = .ok (.bipush 16, 2) := by decide +kernel
theorem dJ6_bitCount_0f7a4_45 : decode cJ6_bitCount_0f7a4 45 = .ok (.iushr, 1) := by decide +kernel
theorem dJ6_bitCount_0f7a4_46 : decode cJ6_bitCount_0f7a4 46 = .ok (.iadd, 1) := by decide +kernel
theorem dJ6_bitCount_0f7a4_47 : decode cJ6_bitCount_0f7a4 47 = .ok (.istore_n 0, 1) := by decide +kernel
theorem dJ6_bitCount_0f7a4_48 : decode cJ6_bitCount_0f7a4 48 = .ok (.iload_n 0, 1) := by decide +kernel
theorem dJ6_bitCount_0f7a4_49 : decode cJ6_bitCount_0f7a4 49 = .ok (.bipush 63, 2) := by decide +kernel
theorem dJ6_bitCount_0f7a4_51 : decode cJ6_bitCount_0f7a4 51 = .ok (.iand, 1) := by decide +kernel
theorem dJ6_bitCount_0f7a4_52 : decode cJ6_bitCount_0f7a4 52 = .ok (.ireturn, 1) := by decide +kernel
theorem dJ9_abs_067f4_0 : decode cJ9_abs_067f4 0 = .ok (.lload_n 0, 1) := by decide +kernel
theorem dJ9_abs_067f4_1 : decode cJ9_abs_067f4 1 = .ok (.lconst 0, 1) := by decide +kernel
theorem dJ9_abs_067f4_2 : decode cJ9_abs_067f4 2 = .ok (.lcmp, 1) := by decide +kernel
theorem dJ9_abs_067f4_3 : decode cJ9_abs_067f4 3 = .ok (.ifCond .ge 8, 3) := by decide +kernel
theorem dJ9_abs_067f4_6 : decode cJ9_abs_067f4 6 = .ok (.lload_n 0, 1) := by decide +kernel
theorem dJ9_abs_067f4_7 : decode cJ9_abs_067f4 7 = .ok (.lneg, 1) := by decide +kernel
theorem dJ9_abs_067f4_8 : decode cJ9_abs_067f4 8 = .ok (.goto 4, 3) := by decide +kernel
theorem dJ9_abs_067f4_11 : decode cJ9_abs_067f4 11 = .ok (.lload_n 0, 1) := by decide +kernel
theorem dJ9_abs_067f4_12 : decode cJ9_abs_067f4 12 = .ok (.lreturn, 1) := by decide +kernel
theorem dJ9_max_7cf53_0 : decode cJ9_max_7cf53 0 = .ok (.iload_n 0, 1) := by decide +kernel
theorem dJ9_max_7cf53_1 : decode cJ9_max_7cf53 1 = .ok (.iload_n 1, 1) := by decide +kernel
theorem dJ9_max_7cf53_2 : decode cJ9_max_7cf53 2 = .ok (.if_icmp .lt 7, 3) := by decide +kernel
theorem dJ9_max_7cf53_5 : decode cJ9_max_7cf53 5 = .ok (.iload_n 0, 1) := by decide +kernel
theorem dJ9_max_7cf53_6 : decode cJ9_max_7cf53 6 = .ok (.goto 4, 3) := by decide +kernel
theorem dJ9_max_7cf53_9 : decode cJ9_max_7cf53 9 = .ok (.iload_n 1, 1) := by decide +kernel
theorem dJ9_max_7cf53_10 : decode cJ9_max_7cf53 10 = .ok (.ireturn, 1) := by decide +kernel
theorem dJ0_length_8abf5_0 : decode cJ0_length_8abf5 0 = .ok (.aload_n 0, 1) := by decide +kernel
theorem dJ0_length_8abf5_1 : decode cJ0_length_8abf5 1 = .ok (.getfield 9, 3) := by decide +kernel
theorem dJ0_length_8abf5_4 : decode cJ0_length_8abf5 4 = .ok (.arraylength, 1) := by decide +kernel
theorem dJ0_length_8abf5_5 : decode cJ0_length_8abf5 5 = .ok (.aload_n 0, 1) := by decide +kernel
theorem dJ0_length_8abf5_6 : decode cJ0_length_8abf5 6 = .ok (.invokevirtual 335, 3) := by decide +kernel
theorem dJ0_length_8abf5_9 : decode cJ0_length_8abf5 9 = .ok (.ishr, 1) := by decide +kernel
theorem dJ0_length_8abf5_10 : decode cJ0_length_8abf5 10 = .ok (.ireturn, 1) := by decide +kernel
theorem dJ0_charAt_5068e_0 : decode cJ0_charAt_5068e 0 = .ok (.aload_n 0, 1) := by decide +kernel
theorem dJ0_charAt_5068e_1 : decode cJ0_charAt_5068e 1 = .ok (.invokevirtual 492, 3) := by decide +kernel
theorem dJ0_charAt_5068e_4 : decode cJ0_charAt_5068e 4 = .ok (.ifCond .eq 12, 3) := by decide +kernel
theorem dJ0_charAt_5068e_7 : decode cJ0_charAt_5068e 7 = .ok (.aload_n 0, 1) := by decide +kernel
theorem dJ0_charAt_5068e_8 : decode cJ0_charAt_5068e 8 = .ok (.getfield 9, 3) := by decide +kernel
