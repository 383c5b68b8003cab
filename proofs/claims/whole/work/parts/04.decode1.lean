theorem dX6_sum_86 : decode cX6_sum 86 = .ok (.iload_n 3, 1) := by decide +kernel
theorem dX6_sum_87 : decode cX6_sum 87 = .ok (.ireturn, 1) := by decide +kernel
theorem dX6_upon_0 : decode cX6_upon 0 = .ok (.aload_n 0, 1) := by decide +kernel
theorem dX6_upon_1 : decode cX6_upon 1 = .ok (.getfield 10, 3) := by decide +kernel
theorem dX6_upon_4 : decode cX6_upon 4 = .ok (.iload_n 1, 1) := by decide +kernel
theorem dX6_upon_5 : decode cX6_upon 5 = .ok (.invokevirtual 114, 3) := by decide +kernel
theorem dX6_upon_8 : decode cX6_upon 8 = .ok (.ifCond .ne 5, 3) := by decide +kernel
theorem dX6_upon_11 : decode cX6_upon 11 = .ok (.iconst (-1), 1) := by decide +kernel
theorem dX6_upon_12 : decode cX6_upon 12 = .ok (.ireturn, 1) := by decide +kernel
theorem dX6_upon_13 : decode cX6_upon 13 = .ok (.aload_n 0, 1) := by decide +kernel
theorem dX6_upon_14 : decode cX6_upon 14 = .ok (.getfield 10, 3) := by decide +kernel
theorem dX6_upon_17 : decode cX6_upon 17 = .ok (.aload_n 0, 1) := by decide +kernel
theorem dX6_upon_18 : decode cX6_upon 18 = .ok (.getfield 10, 3) := by decide +kernel
theorem dX6_upon_21 : decode cX6_upon 21 = .ok (.getfield 104, 3) := by decide +kernel
theorem dX6_upon_24 : decode cX6_upon 24 = .ok (.invokevirtual 107, 3) := by decide +kernel
theorem dX6_upon_27 : decode cX6_upon 27 = .ok (.aload_n 0, 1) := by decide +kernel
theorem dX6_upon_28 : decode cX6_upon 28 = .ok (.getfield 10, 3) := by decide +kernel
theorem dX6_upon_31 : decode cX6_upon 31 = .ok (.aload_n 0, 1) := by decide +kernel
theorem dX6_upon_32 : decode cX6_upon 32 = .ok (.getfield 10, 3) := by decide +kernel
theorem dX6_upon_35 : decode cX6_upon 35 = .ok (.getfield 104, 3) := by decide +kernel
theorem dX6_upon_38 : decode cX6_upon 38 = .ok (.iconst 1, 1) := by decide +kernel
theorem dX6_upon_39 : decode cX6_upon 39 = .ok (.iload_n 1, 1) := by decide +kernel
theorem dX6_upon_40 : decode cX6_upon 40 = .ok (.ishl, 1) := by decide +kernel
theorem dX6_upon_41 : decode cX6_upon 41 = .ok (.iconst (-1), 1) := by decide +kernel
theorem dX6_upon_42 : decode cX6_upon 42 = .ok (.ixor, 1) := by decide +kernel
theorem dX6_upon_43 : decode cX6_upon 43 = .ok (.iand, 1) := by decide +kernel
theorem dX6_upon_44 : decode cX6_upon 44 = .ok (.invokevirtual 107, 3) := by decide +kernel
theorem dX6_upon_47 : decode cX6_upon 47 = .ok (.iconst (-1), 1) := by decide +kernel
theorem dX6_upon_48 : decode cX6_upon 48 = .ok (.ixor, 1) := by decide +kernel
theorem dX6_upon_49 : decode cX6_upon 49 = .ok (.iand, 1) := by decide +kernel
theorem dX6_upon_50 : decode cX6_upon 50 = .ok (.ireturn, 1) := by decide +kernel
theorem dX6_reply_0 : decode cX6_reply 0 = .ok (.aload_n 0, 1) := by decide +kernel
theorem dX6_reply_1 : decode cX6_reply 1 = .ok (.getfield 10, 3) := by decide +kernel
theorem dX6_reply_4 : decode cX6_reply 4 = .ok (.iload_n 1, 1) := by decide +kernel
theorem dX6_reply_5 : decode cX6_reply 5 = .ok (.invokevirtual 114, 3) := by decide +kernel
theorem dX6_reply_8 : decode cX6_reply 8 = .ok (.ifCond .eq 12, 3) := by decide +kernel
theorem dX6_reply_11 : decode cX6_reply 11 = .ok (.iload_n 2, 1) := by decide +kernel
theorem dX6_reply_12 : decode cX6_reply 12 = .ok (.iconst 0, 1) := by decide +kernel
theorem dX6_reply_13 : decode cX6_reply 13 = .ok (.iconst 1, 1) := by decide +kernel
theorem dX6_reply_14 : decode cX6_reply 14 = .ok (.invokestatic 66, 3) := by decide +kernel
theorem dX6_reply_17 : decode cX6_reply 17 = .ok (.ifCond .ne 5, 3) := by decide +kernel
theorem dX6_reply_20 : decode cX6_reply 20 = .ok (.iconst (-1), 1) := by decide +kernel
theorem dX6_reply_21 : decode cX6_reply 21 = .ok (.ireturn, 1) := by decide +kernel
theorem dX6_reply_22 : decode cX6_reply 22 = .ok (.aload_n 0, 1) := by decide +kernel
theorem dX6_reply_23 : decode cX6_reply 23 = .ok (.getfield 10, 3) := by decide +kernel
theorem dX6_reply_26 : decode cX6_reply 26 = .ok (.aload_n 0, 1) := by decide +kernel
theorem dX6_reply_27 : decode cX6_reply 27 = .ok (.getfield 10, 3) := by decide +kernel
theorem dX6_reply_30 : decode cX6_reply 30 = .ok (.getfield 104, 3) := by decide +kernel
theorem dX6_reply_33 : decode cX6_reply 33 = .ok (.invokevirtual 107, 3) := by decide +kernel
theorem dX6_reply_36 : decode cX6_reply 36 = .ok (.iload_n 1, 1) := by decide +kernel
theorem dX6_reply_37 : decode cX6_reply 37 = .ok (.ishr, 1) := by decide +kernel
theorem dX6_reply_38 : decode cX6_reply 38 = .ok (.iconst 1, 1) := by decide +kernel
theorem dX6_reply_39 : decode cX6_reply 39 = .ok (.iand, 1) := by decide +kernel
theorem dX6_reply_40 : decode cX6_reply 40 = .ok (.istore_n 3, 1) := by decide +kernel
theorem dX6_reply_41 : decode cX6_reply 41 = .ok (.iload_n 3, 1) := by decide +kernel
theorem dX6_reply_42 : decode cX6_reply 42 = .ok (.iload_n 2, 1) := by decide +kernel
theorem dX6_reply_43 : decode cX6_reply 43 = .ok (.if_icmp .ne 5, 3) := by decide +kernel
theorem dX6_reply_46 : decode cX6_reply 46 = .ok (.iconst 0, 1) := by decide +kernel
theorem dX6_reply_47 : decode cX6_reply 47 = .ok (.ireturn, 1) := by decide +kernel
theorem dX6_reply_48 : decode cX6_reply 48 = .ok (.iconst 0, 1) := by decide +kernel
theorem dX6_reply_49 : decode cX6_reply 49 = .ok (.istore 4, 2) := by decide +kernel
theorem dX6_reply_51 : decode cX6_reply 51 = .ok (.iconst 0, 1) := by decide +kernel
theorem dX6_reply_52 : decode cX6_reply 52 = .ok (.istore 5, 2) := by decide +kernel
theorem dX6_reply_54 : decode cX6_reply 54 = .ok (.iload 5, 2) := by decide +kernel
theorem dX6_reply_56 : decode cX6_reply 56 = .ok (.aload_n 0, 1) := by decide +kernel
theorem dX6_reply_57 : decode cX6_reply 57 = .ok (.getfield 10, 3) := by decide +kernel
theorem dX6_reply_60 : decode cX6_reply 60 = .ok (.getfield 95, 3) := by decide +kernel
theorem dX6_reply_63 : decode cX6_reply 63 = .ok (.if_icmp .ge 57, 3) := by decide +kernel
theorem dX6_reply_66 : decode cX6_reply 66 = .ok (.aload_n 0, 1) := by decide +kernel
theorem dX6_reply_67 : decode cX6_reply 67 = .ok (.getfield 10, 3) := by decide +kernel
theorem dX6_reply_70 : decode cX6_reply 70 = .ok (.iload 5, 2) := by decide +kernel
theorem dX6_reply_72 : decode cX6_reply 72 = .ok (.invokevirtual 138, 3) := by decide +kernel
theorem dX6_reply_75 : decode cX6_reply 75 = .ok (.ifCond .ne 39, 3) := by decide +kernel
theorem dX6_reply_78 : decode cX6_reply 78 = .ok (.aload_n 0, 1) := by decide +kernel
theorem dX6_reply_79 : decode cX6_reply 79 = .ok (.getfield 10, 3) := by decide +kernel
theorem dX6_reply_82 : decode cX6_reply 82 = .ok (.aload_n 0, 1) := by decide +kernel
theorem dX6_reply_83 : decode cX6_reply 83 = .ok (.getfield 10, 3) := by decide +kernel
theorem dX6_reply_86 : decode cX6_reply 86 = .ok (.getfield 104, 3) := by decide +kernel
theorem dX6_reply_89 : decode cX6_reply 89 = .ok (.iconst 1, 1) := by decide +kernel
theorem dX6_reply_90 : decode cX6_reply 90 = .ok (.iload 5, 2) := by decide +kernel
theorem dX6_reply_92 : decode cX6_reply 92 = .ok (.ishl, 1) := by decide +kernel
theorem dX6_reply_93 : decode cX6_reply 93 = .ok (.ior, 1) := by decide +kernel
theorem dX6_reply_94 : decode cX6_reply 94 = .ok (.invokevirtual 107, 3) := by decide +kernel
theorem dX6_reply_97 : decode cX6_reply 97 = .ok (.iload_n 1, 1) := by decide +kernel
theorem dX6_reply_98 : decode cX6_reply 98 = .ok (.ishr, 1) := by decide +kernel
theorem dX6_reply_99 : decode cX6_reply 99 = .ok (.iconst 1, 1) := by decide +kernel
theorem dX6_reply_100 : decode cX6_reply 100 = .ok (.iand, 1) := by decide +kernel
theorem dX6_reply_101 : decode cX6_reply 101 = .ok (.iload_n 3, 1) := by decide +kernel
theorem dX6_reply_102 : decode cX6_reply 102 = .ok (.if_icmp .eq 12, 3) := by decide +kernel
theorem dX6_reply_105 : decode cX6_reply 105 = .ok (.iload 4, 2) := by decide +kernel
theorem dX6_reply_107 : decode cX6_reply 107 = .ok (.iconst 1, 1) := by decide +kernel
theorem dX6_reply_108 : decode cX6_reply 108 = .ok (.iload 5, 2) := by decide +kernel
theorem dX6_reply_110 : decode cX6_reply 110 = .ok (.ishl, 1) := by decide +kernel
theorem dX6_reply_111 : decode cX6_reply 111 = .ok (.ior, 1) := by decide +kernel
theorem dX6_reply_112 : decode cX6_reply 112 = .ok (.istore 4, 2) := by decide +kernel
theorem dX6_reply_114 : decode cX6_reply 114 = .ok (.iinc 5 1, 3) := by decide +kernel
theorem dX6_reply_117 : decode cX6_reply 117 = .ok (.goto (-63), 3) := by decide +kernel
theorem dX6_reply_120 : decode cX6_reply 120 = .ok (.iload 4, 2) := by decide +kernel
theorem dX6_reply_122 : decode cX6_reply 122 = .ok (.ireturn, 1) := by decide +kernel
theorem dX6_ever_0 : decode cX6_ever 0 = .ok (.iload_n 1, 1) := by decide +kernel
theorem dX6_ever_1 : decode cX6_ever 1 = .ok (.iconst 0, 1) := by decide +kernel
theorem dX6_ever_2 : decode cX6_ever 2 = .ok (.iconst 1, 1) := by decide +kernel
theorem dX6_ever_3 : decode cX6_ever 3 = .ok (.invokestatic 66, 3) := by decide +kernel
theorem dX6_ever_6 : decode cX6_ever 6 = .ok (.ifCond .ne 5, 3) := by decide +kernel
theorem dX6_ever_9 : decode cX6_ever 9 = .ok (.iconst (-1), 1) := by decide +kernel
theorem dX6_ever_10 : decode cX6_ever 10 = .ok (.ireturn, 1) := by decide +kernel
theorem dX6_ever_11 : decode cX6_ever 11 = .ok (.iconst 1, 1) := by decide +kernel
theorem dX6_ever_12 : decode cX6_ever 12 = .ok (.aload_n 0, 1) := by decide +kernel
theorem dX6_ever_13 : decode cX6_ever 13 = .ok (.getfield 10, 3) := by decide +kernel
theorem dX6_ever_16 : decode cX6_ever 16 = .ok (.getfield 95, 3) := by decide +kernel
theorem dX6_ever_19 : decode cX6_ever 19 = .ok (.ishl, 1) := by decide +kernel
theorem dX6_ever_20 : decode cX6_ever 20 = .ok (.istore_n 2, 1) := by decide +kernel
theorem dX6_ever_21 : decode cX6_ever 21 = .ok (.iconst 0, 1) := by decide +kernel
theorem dX6_ever_22 : decode cX6_ever 22 = .ok (.istore_n 3, 1) := by decide +kernel
theorem dX6_ever_23 : decode cX6_ever 23 = .ok (.iconst 0, 1) := by decide +kernel
theorem dX6_ever_24 : decode cX6_ever 24 = .ok (.istore 4, 2) := by decide +kernel
theorem dX6_ever_26 : decode cX6_ever 26 = .ok (.iconst 0, 1) := by decide +kernel
theorem dX6_ever_27 : decode cX6_ever 27 = .ok (.istore 5, 2) := by decide +kernel
theorem dX6_ever_29 : decode cX6_ever 29 = .ok (.iload 5, 2) := by decide +kernel
theorem dX6_ever_31 : decode cX6_ever 31 = .ok (.iload_n 2, 1) := by decide +kernel
theorem dX6_ever_32 : decode cX6_ever 32 = .ok (.if_icmp .ge 37, 3) := by decide +kernel
theorem dX6_ever_35 : decode cX6_ever 35 = .ok (.aload_n 0, 1) := by decide +kernel
theorem dX6_ever_36 : decode cX6_ever 36 = .ok (.getfield 10, 3) := by decide +kernel
theorem dX6_ever_39 : decode cX6_ever 39 = .ok (.iload 5, 2) := by decide +kernel
theorem dX6_ever_41 : decode cX6_ever 41 = .ok (.invokevirtual 107, 3) := by decide +kernel
theorem dX6_ever_44 : decode cX6_ever 44 = .ok (.istore 6, 2) := by decide +kernel
theorem dX6_ever_46 : decode cX6_ever 46 = .ok (.iload_n 3, 1) := by decide +kernel
theorem dX6_ever_47 : decode cX6_ever 47 = .ok (.iload 6, 2) := by decide +kernel
theorem dX6_ever_49 : decode cX6_ever 49 = .ok (.ior, 1) := by decide +kernel
theorem dX6_ever_50 : decode cX6_ever 50 = .ok (.istore_n 3, 1) := by decide +kernel
theorem dX6_ever_51 : decode cX6_ever 51 = .ok (.iload 4, 2) := by decide +kernel
theorem dX6_ever_53 : decode cX6_ever 53 = .ok (.iload 5, 2) := by decide +kernel
theorem dX6_ever_55 : decode cX6_ever 55 = .ok (.iload 6, 2) := by decide +kernel
theorem dX6_ever_57 : decode cX6_ever 57 = .ok (.iconst (-1), 1) := by decide +kernel
theorem dX6_ever_58 : decode cX6_ever 58 = .ok (.ixor, 1) := by decide +kernel
theorem dX6_ever_59 : decode cX6_ever 59 = .ok (.iand, 1) := by decide +kernel
theorem dX6_ever_60 : decode cX6_ever 60 = .ok (.ior, 1) := by decide +kernel
theorem dX6_ever_61 : decode cX6_ever 61 = .ok (.istore 4, 2) := by decide +kernel
theorem dX6_ever_63 : decode cX6_ever 63 = .ok (.iinc 5 1, 3) := by decide +kernel
theorem dX6_ever_66 : decode cX6_ever 66 = .ok (.goto (-37), 3) := by decide +kernel
theorem dX6_ever_69 : decode cX6_ever 69 = .ok (.iload_n 2, 1) := by decide +kernel
theorem dX6_ever_70 : decode cX6_ever 70 = .ok (.iconst 1, 1) := by decide +kernel
theorem dX6_ever_71 : decode cX6_ever 71 = .ok (.isub, 1) := by decide +kernel
theorem dX6_ever_72 : decode cX6_ever 72 = .ok (.iload_n 1, 1) := by decide +kernel
theorem dX6_ever_73 : decode cX6_ever 73 = .ok (.ifCond .ne 7, 3) := by decide +kernel
theorem dX6_ever_76 : decode cX6_ever 76 = .ok (.iload_n 3, 1) := by decide +kernel
theorem dX6_ever_77 : decode cX6_ever 77 = .ok (.goto 5, 3) := by decide +kernel
theorem dX6_ever_80 : decode cX6_ever 80 = .ok (.iload 4, 2) := by decide +kernel
theorem dX6_ever_82 : decode cX6_ever 82 = .ok (.iconst (-1), 1) := by decide +kernel
theorem dX6_ever_83 : decode cX6_ever 83 = .ok (.ixor, 1) := by decide +kernel
theorem dX6_ever_84 : decode cX6_ever 84 = .ok (.iand, 1) := by decide +kernel
theorem dX6_ever_85 : decode cX6_ever 85 = .ok (.ireturn, 1) := by decide +kernel
theorem dX6_chain_0 : decode cX6_chain 0 = .ok (.aload_n 0, 1) := by decide +kernel
theorem dX6_chain_1 : decode cX6_chain 1 = .ok (.getfield 10, 3) := by decide +kernel
theorem dX6_chain_4 : decode cX6_chain 4 = .ok (.iload_n 1, 1) := by decide +kernel
theorem dX6_chain_5 : decode cX6_chain 5 = .ok (.invokevirtual 114, 3) := by decide +kernel
theorem dX6_chain_8 : decode cX6_chain 8 = .ok (.ifCond .ne 5, 3) := by decide +kernel
theorem dX6_chain_11 : decode cX6_chain 11 = .ok (.iconst (-1), 1) := by decide +kernel
theorem dX6_chain_12 : decode cX6_chain 12 = .ok (.ireturn, 1) := by decide +kernel
theorem dX6_chain_13 : decode cX6_chain 13 = .ok (.iconst 0, 1) := by decide +kernel
theorem dX6_chain_14 : decode cX6_chain 14 = .ok (.istore_n 2, 1) := by decide +kernel
theorem dX6_chain_15 : decode cX6_chain 15 = .ok (.iload_n 2, 1) := by decide +kernel
theorem dX6_chain_16 : decode cX6_chain 16 = .ok (.iload_n 1, 1) := by decide +kernel
theorem dX6_chain_17 : decode cX6_chain 17 = .ok (.if_icmp .gt 69, 3) := by decide +kernel
theorem dX6_chain_20 : decode cX6_chain 20 = .ok (.aload_n 0, 1) := by decide +kernel
theorem dX6_chain_21 : decode cX6_chain 21 = .ok (.getfield 62, 3) := by decide +kernel
theorem dX6_chain_24 : decode cX6_chain 24 = .ok (.iload_n 2, 1) := by decide +kernel
theorem dX6_chain_25 : decode cX6_chain 25 = .ok (.iconst 1, 1) := by decide +kernel
theorem dX6_chain_26 : decode cX6_chain 26 = .ok (.iastore, 1) := by decide +kernel
theorem dX6_chain_27 : decode cX6_chain 27 = .ok (.iconst 0, 1) := by decide +kernel
theorem dX6_chain_28 : decode cX6_chain 28 = .ok (.istore_n 3, 1) := by decide +kernel
theorem dX6_chain_29 : decode cX6_chain 29 = .ok (.iload_n 3, 1) := by decide +kernel
theorem dX6_chain_30 : decode cX6_chain 30 = .ok (.iload_n 2, 1) := by decide +kernel
theorem dX6_chain_31 : decode cX6_chain 31 = .ok (.if_icmp .ge 49, 3) := by decide +kernel
theorem dX6_chain_34 : decode cX6_chain 34 = .ok (.aload_n 0, 1) := by decide +kernel
theorem dX6_chain_35 : decode cX6_chain 35 = .ok (.getfield 10, 3) := by decide +kernel
theorem dX6_chain_38 : decode cX6_chain 38 = .ok (.getfield 129, 3) := by decide +kernel
theorem dX6_chain_41 : decode cX6_chain 41 = .ok (.iload_n 2, 1) := by decide +kernel
theorem dX6_chain_42 : decode cX6_chain 42 = .ok (.iaload, 1) := by decide +kernel
theorem dX6_chain_43 : decode cX6_chain 43 = .ok (.iload_n 3, 1) := by decide +kernel
theorem dX6_chain_44 : decode cX6_chain 44 = .ok (.ishr, 1) := by decide +kernel
theorem dX6_chain_45 : decode cX6_chain 45 = .ok (.iconst 1, 1) := by decide +kernel
theorem dX6_chain_46 : decode cX6_chain 46 = .ok (.iand, 1) := by decide +kernel
theorem dX6_chain_47 : decode cX6_chain 47 = .ok (.iconst 1, 1) := by decide +kernel
theorem dX6_chain_48 : decode cX6_chain 48 = .ok (.if_icmp .ne 26, 3) := by decide +kernel
theorem dX6_chain_51 : decode cX6_chain 51 = .ok (.aload_n 0, 1) := by decide +kernel
theorem dX6_chain_52 : decode cX6_chain 52 = .ok (.getfield 62, 3) := by decide +kernel
theorem dX6_chain_55 : decode cX6_chain 55 = .ok (.iload_n 2, 1) := by decide +kernel
theorem dX6_chain_56 : decode cX6_chain 56 = .ok (.aload_n 0, 1) := by decide +kernel
theorem dX6_chain_57 : decode cX6_chain 57 = .ok (.getfield 62, 3) := by decide +kernel
theorem dX6_chain_60 : decode cX6_chain 60 = .ok (.iload_n 2, 1) := by decide +kernel
theorem dX6_chain_61 : decode cX6_chain 61 = .ok (.iaload, 1) := by decide +kernel
theorem dX6_chain_62 : decode cX6_chain 62 = .ok (.aload_n 0, 1) := by decide +kernel
theorem dX6_chain_63 : decode cX6_chain 63 = .ok (.getfield 62, 3) := by decide +kernel
theorem dX6_chain_66 : decode cX6_chain 66 = .ok (.iload_n 3, 1) := by decide +kernel
theorem dX6_chain_67 : decode cX6_chain 67 = .ok (.iaload, 1) := by decide +kernel
theorem dX6_chain_68 : decode cX6_chain 68 = .ok (.iconst 1, 1) := by decide +kernel
theorem dX6_chain_69 : decode cX6_chain 69 = .ok (.iadd, 1) := by decide +kernel
theorem dX6_chain_70 : decode cX6_chain 70 = .ok (.invokestatic 160, 3) := by decide +kernel
theorem dX6_chain_73 : decode cX6_chain 73 = .ok (.iastore, 1) := by decide +kernel
theorem dX6_chain_74 : decode cX6_chain 74 = .ok (.iinc 3 1, 3) := by decide +kernel
theorem dX6_chain_77 : decode cX6_chain 77 = .ok (.goto (-48), 3) := by decide +kernel
theorem dX6_chain_80 : decode cX6_chain 80 = .ok (.iinc 2 1, 3) := by decide +kernel
theorem dX6_chain_83 : decode cX6_chain 83 = .ok (.goto (-68), 3) := by decide +kernel
theorem dX6_chain_86 : decode cX6_chain 86 = .ok (.aload_n 0, 1) := by decide +kernel
theorem dX6_chain_87 : decode cX6_chain 87 = .ok (.getfield 62, 3) := by decide +kernel
theorem dX6_chain_90 : decode cX6_chain 90 = .ok (.iload_n 1, 1) := by decide +kernel
theorem dX6_chain_91 : decode cX6_chain 91 = .ok (.iaload, 1) := by decide +kernel
theorem dX6_chain_92 : decode cX6_chain 92 = .ok (.ireturn, 1) := by decide +kernel
theorem dX6_late_0 : decode cX6_late 0 = .ok (.iconst 0, 1) := by decide +kernel
theorem dX6_late_1 : decode cX6_late 1 = .ok (.istore_n 1, 1) := by decide +kernel
theorem dX6_late_2 : decode cX6_late 2 = .ok (.iconst 0, 1) := by decide +kernel
theorem dX6_late_3 : decode cX6_late 3 = .ok (.istore_n 2, 1) := by decide +kernel
theorem dX6_late_4 : decode cX6_late 4 = .ok (.iload_n 2, 1) := by decide +kernel
theorem dX6_late_5 : decode cX6_late 5 = .ok (.aload_n 0, 1) := by decide +kernel
theorem dX6_late_6 : decode cX6_late 6 = .ok (.getfield 10, 3) := by decide +kernel
theorem dX6_late_9 : decode cX6_late 9 = .ok (.getfield 95, 3) := by decide +kernel
theorem dX6_late_12 : decode cX6_late 12 = .ok (.if_icmp .ge 45, 3) := by decide +kernel
theorem dX6_late_15 : decode cX6_late 15 = .ok (.aload_n 0, 1) := by decide +kernel
theorem dX6_late_16 : decode cX6_late 16 = .ok (.getfield 10, 3) := by decide +kernel
theorem dX6_late_19 : decode cX6_late 19 = .ok (.iload_n 2, 1) := by decide +kernel
theorem dX6_late_20 : decode cX6_late 20 = .ok (.invokevirtual 138, 3) := by decide +kernel
theorem dX6_late_23 : decode cX6_late 23 = .ok (.ifCond .ne 28, 3) := by decide +kernel
theorem dX6_late_26 : decode cX6_late 26 = .ok (.aload_n 0, 1) := by decide +kernel
theorem dX6_late_27 : decode cX6_late 27 = .ok (.getfield 10, 3) := by decide +kernel
theorem dX6_late_30 : decode cX6_late 30 = .ok (.getfield 123, 3) := by decide +kernel
theorem dX6_late_33 : decode cX6_late 33 = .ok (.iload_n 2, 1) := by decide +kernel
theorem dX6_late_34 : decode cX6_late 34 = .ok (.iaload, 1) := by decide +kernel
theorem dX6_late_35 : decode cX6_late 35 = .ok (.aload_n 0, 1) := by decide +kernel
theorem dX6_late_36 : decode cX6_late 36 = .ok (.getfield 10, 3) := by decide +kernel
theorem dX6_late_39 : decode cX6_late 39 = .ok (.getfield 101, 3) := by decide +kernel
theorem dX6_late_42 : decode cX6_late 42 = .ok (.if_icmp .ge 9, 3) := by decide +kernel
theorem dX6_late_45 : decode cX6_late 45 = .ok (.iload_n 1, 1) := by decide +kernel
theorem dX6_late_46 : decode cX6_late 46 = .ok (.iconst 1, 1) := by decide +kernel
theorem dX6_late_47 : decode cX6_late 47 = .ok (.iload_n 2, 1) := by decide +kernel
theorem dX6_late_48 : decode cX6_late 48 = .ok (.ishl, 1) := by decide +kernel
theorem dX6_late_49 : decode cX6_late 49 = .ok (.ior, 1) := by decide +kernel
theorem dX6_late_50 : decode cX6_late 50 = .ok (.istore_n 1, 1) := by decide +kernel
theorem dX6_late_51 : decode cX6_late 51 = .ok (.iinc 2 1, 3) := by decide +kernel
theorem dX6_late_54 : decode cX6_late 54 = .ok (.goto (-50), 3) := by decide +kernel
theorem dX6_late_57 : decode cX6_late 57 = .ok (.iload_n 1, 1) := by decide +kernel
theorem dX6_late_58 : decode cX6_late 58 = .ok (.ireturn, 1) := by decide +kernel
theorem dX6_few_0 : decode cX6_few 0 = .ok (.iload_n 1, 1) := by decide +kernel
theorem dX6_few_1 : decode cX6_few 1 = .ok (.iconst 0, 1) := by decide +kernel
theorem dX6_few_2 : decode cX6_few 2 = .ok (.iconst 1, 1) := by decide +kernel
theorem dX6_few_3 : decode cX6_few 3 = .ok (.invokestatic 66, 3) := by decide +kernel
theorem dX6_few_6 : decode cX6_few 6 = .ok (.ifCond .eq 12, 3) := by decide +kernel
theorem dX6_few_9 : decode cX6_few 9 = .ok (.aload_n 0, 1) := by decide +kernel
theorem dX6_few_10 : decode cX6_few 10 = .ok (.iconst 1, 1) := by decide +kernel
theorem dX6_few_11 : decode cX6_few 11 = .ok (.iload_n 1, 1) := by decide +kernel
theorem dX6_few_12 : decode cX6_few 12 = .ok (.invokevirtual 166, 3) := by decide +kernel
theorem dX6_few_15 : decode cX6_few 15 = .ok (.goto 4, 3) := by decide +kernel
theorem dX6_few_18 : decode cX6_few 18 = .ok (.iconst (-1), 1) := by decide +kernel
theorem dX6_few_19 : decode cX6_few 19 = .ok (.ireturn, 1) := by decide +kernel
theorem dX6_foil_0 : decode cX6_foil 0 = .ok (.iload_n 1, 1) := by decide +kernel
theorem dX6_foil_1 : decode cX6_foil 1 = .ok (.iconst 0, 1) := by decide +kernel
theorem dX6_foil_2 : decode cX6_foil 2 = .ok (.iconst 1, 1) := by decide +kernel
theorem dX6_foil_3 : decode cX6_foil 3 = .ok (.invokestatic 66, 3) := by decide +kernel
theorem dX6_foil_6 : decode cX6_foil 6 = .ok (.ifCond .eq 12, 3) := by decide +kernel
theorem dX6_foil_9 : decode cX6_foil 9 = .ok (.aload_n 0, 1) := by decide +kernel
theorem dX6_foil_10 : decode cX6_foil 10 = .ok (.iconst 0, 1) := by decide +kernel
theorem dX6_foil_11 : decode cX6_foil 11 = .ok (.iload_n 1, 1) := by decide +kernel
theorem dX6_foil_12 : decode cX6_foil 12 = .ok (.invokevirtual 166, 3) := by decide +kernel
theorem dX6_foil_15 : decode cX6_foil 15 = .ok (.goto 4, 3) := by decide +kernel
theorem dX6_foil_18 : decode cX6_foil 18 = .ok (.iconst (-1), 1) := by decide +kernel
theorem dX6_foil_19 : decode cX6_foil 19 = .ok (.ireturn, 1) := by decide +kernel
theorem dX6_trial_0 : decode cX6_trial 0 = .ok (.iload_n 1, 1) := by decide +kernel
theorem dX6_trial_1 : decode cX6_trial 1 = .ok (.iconst 0, 1) := by decide +kernel
theorem dX6_trial_2 : decode cX6_trial 2 = .ok (.iconst 3, 1) := by decide +kernel
theorem dX6_trial_3 : decode cX6_trial 3 = .ok (.invokestatic 66, 3) := by decide +kernel
theorem dX6_trial_6 : decode cX6_trial 6 = .ok (.ifCond .ne 5, 3) := by decide +kernel
theorem dX6_trial_9 : decode cX6_trial 9 = .ok (.iconst (-1), 1) := by decide +kernel
theorem dX6_trial_10 : decode cX6_trial 10 = .ok (.ireturn, 1) := by decide +kernel
theorem dX6_trial_11 : decode cX6_trial 11 = .ok (.aload_n 0, 1) := by decide +kernel
theorem dX6_trial_12 : decode cX6_trial 12 = .ok (.getfield 44, 3) := by decide +kernel
theorem dX6_trial_15 : decode cX6_trial 15 = .ok (.aload_n 0, 1) := by decide +kernel
theorem dX6_trial_16 : decode cX6_trial 16 = .ok (.getfield 10, 3) := by decide +kernel
theorem dX6_trial_19 : decode cX6_trial 19 = .ok (.iconst 0, 1) := by decide +kernel
theorem dX6_trial_20 : decode cX6_trial 20 = .ok (.invokevirtual 170, 3) := by decide +kernel
theorem dX6_trial_23 : decode cX6_trial 23 = .ok (.iload_n 1, 1) := by decide +kernel
theorem dX6_trial_24 : decode cX6_trial 24 = .ok (.tableswitch 84 0 2 #[28, 43, 76], 28) := by decide +kernel
theorem dX6_trial_52 : decode cX6_trial 52 = .ok (.aload_n 0, 1) := by decide +kernel
theorem dX6_trial_53 : decode cX6_trial 53 = .ok (.getfield 10, 3) := by decide +kernel
theorem dX6_trial_56 : decode cX6_trial 56 = .ok (.aload_n 0, 1) := by decide +kernel
theorem dX6_trial_57 : decode cX6_trial 57 = .ok (.getfield 44, 3) := by decide +kernel
theorem dX6_trial_60 : decode cX6_trial 60 = .ok (.getfield 174, 3) := by decide +kernel
theorem dX6_trial_63 : decode cX6_trial 63 = .ok (.invokevirtual 107, 3) := by decide +kernel
theorem dX6_trial_66 : decode cX6_trial 66 = .ok (.ireturn, 1) := by decide +kernel
theorem dX6_trial_67 : decode cX6_trial 67 = .ok (.aload_n 0, 1) := by decide +kernel
theorem dX6_trial_68 : decode cX6_trial 68 = .ok (.getfield 10, 3) := by decide +kernel
theorem dX6_trial_71 : decode cX6_trial 71 = .ok (.getfield 95, 3) := by decide +kernel
theorem dX6_trial_74 : decode cX6_trial 74 = .ok (.ifCond .ne 8, 3) := by decide +kernel
theorem dX6_trial_77 : decode cX6_trial 77 = .ok (.bipush (-4), 2) := by decide +kernel
theorem dX6_trial_79 : decode cX6_trial 79 = .ok (.goto 20, 3) := by decide +kernel
theorem dX6_trial_82 : decode cX6_trial 82 = .ok (.aload_n 0, 1) := by decide +kernel
theorem dX6_trial_83 : decode cX6_trial 83 = .ok (.getfield 10, 3) := by decide +kernel
theorem dX6_trial_86 : decode cX6_trial 86 = .ok (.aload_n 0, 1) := by decide +kernel
theorem dX6_trial_87 : decode cX6_trial 87 = .ok (.getfield 44, 3) := by decide +kernel
theorem dX6_trial_90 : decode cX6_trial 90 = .ok (.getfield 174, 3) := by decide +kernel
theorem dX6_trial_93 : decode cX6_trial 93 = .ok (.invokevirtual 175, 3) := by decide +kernel
theorem dX6_trial_96 : decode cX6_trial 96 = .ok (.invokestatic 178, 3) := by decide +kernel
theorem dX6_trial_99 : decode cX6_trial 99 = .ok (.ireturn, 1) := by decide +kernel
theorem dX6_trial_100 : decode cX6_trial 100 = .ok (.aload_n 0, 1) := by decide +kernel
theorem dX6_trial_101 : decode cX6_trial 101 = .ok (.getfield 44, 3) := by decide +kernel
theorem dX6_trial_104 : decode cX6_trial 104 = .ok (.getfield 182, 3) := by decide +kernel
theorem dX6_trial_107 : decode cX6_trial 107 = .ok (.ireturn, 1) := by decide +kernel
theorem dX6_trial_108 : decode cX6_trial 108 = .ok (.aload_n 0, 1) := by decide +kernel
theorem dX6_trial_109 : decode cX6_trial 109 = .ok (.getfield 44, 3) := by decide +kernel
theorem dX6_trial_112 : decode cX6_trial 112 = .ok (.getfield 185, 3) := by decide +kernel
theorem dX6_trial_115 : decode cX6_trial 115 = .ok (.ireturn, 1) := by decide +kernel
theorem dX6_luck_0 : decode cX6_luck 0 = .ok (.iload_n 1, 1) := by decide +kernel
theorem dX6_luck_1 : decode cX6_luck 1 = .ok (.iconst 0, 1) := by decide +kernel
theorem dX6_luck_2 : decode cX6_luck 2 = .ok (.bipush 10, 2) := by decide +kernel
theorem dX6_luck_4 : decode cX6_luck 4 = .ok (.invokestatic 66, 3) := by decide +kernel
theorem dX6_luck_7 : decode cX6_luck 7 = .ok (.ifCond .eq 12, 3) := by decide +kernel
theorem dX6_luck_10 : decode cX6_luck 10 = .ok (.iload_n 2, 1) := by decide +kernel
theorem dX6_luck_11 : decode cX6_luck 11 = .ok (.iconst 0, 1) := by decide +kernel
theorem dX6_luck_12 : decode cX6_luck 12 = .ok (.iconst 1, 1) := by decide +kernel
theorem dX6_luck_13 : decode cX6_luck 13 = .ok (.invokestatic 66, 3) := by decide +kernel
theorem dX6_luck_16 : decode cX6_luck 16 = .ok (.ifCond .ne 7, 3) := by decide +kernel
theorem dX6_luck_19 : decode cX6_luck 19 = .ok (.ldc2_w 188, 3) := by decide +kernel
theorem dX6_luck_22 : decode cX6_luck 22 = .ok (.lreturn, 1) := by decide +kernel
theorem dX6_luck_23 : decode cX6_luck 23 = .ok (.aload_n 0, 1) := by decide +kernel
theorem dX6_luck_24 : decode cX6_luck 24 = .ok (.getfield 10, 3) := by decide +kernel
theorem dX6_luck_27 : decode cX6_luck 27 = .ok (.getfield 95, 3) := by decide +kernel
theorem dX6_luck_30 : decode cX6_luck 30 = .ok (.ifCond .ne 7, 3) := by decide +kernel
theorem dX6_luck_33 : decode cX6_luck 33 = .ok (.ldc2_w 190, 3) := by decide +kernel
theorem dX6_luck_36 : decode cX6_luck 36 = .ok (.lreturn, 1) := by decide +kernel
theorem dX6_luck_37 : decode cX6_luck 37 = .ok (.lconst 1, 1) := by decide +kernel
theorem dX6_luck_38 : decode cX6_luck 38 = .ok (.lstore_n 3, 1) := by decide +kernel
theorem dX6_luck_39 : decode cX6_luck 39 = .ok (.iconst 0, 1) := by decide +kernel
theorem dX6_luck_40 : decode cX6_luck 40 = .ok (.istore 5, 2) := by decide +kernel
theorem dX6_luck_42 : decode cX6_luck 42 = .ok (.iload 5, 2) := by decide +kernel
theorem dX6_luck_44 : decode cX6_luck 44 = .ok (.aload_n 0, 1) := by decide +kernel
theorem dX6_luck_45 : decode cX6_luck 45 = .ok (.getfield 10, 3) := by decide +kernel
theorem dX6_luck_48 : decode cX6_luck 48 = .ok (.getfield 111, 3) := by decide +kernel
theorem dX6_luck_51 : decode cX6_luck 51 = .ok (.if_icmp .ge 15, 3) := by decide +kernel
theorem dX6_luck_54 : decode cX6_luck 54 = .ok (.lload_n 3, 1) := by decide +kernel
theorem dX6_luck_55 : decode cX6_luck 55 = .ok (.ldc2_w 192, 3) := by decide +kernel
theorem dX6_luck_58 : decode cX6_luck 58 = .ok (.lmul, 1) := by decide +kernel
theorem dX6_luck_59 : decode cX6_luck 59 = .ok (.lstore_n 3, 1) := by decide +kernel
theorem dX6_luck_60 : decode cX6_luck 60 = .ok (.iinc 5 1, 3) := by decide +kernel
theorem dX6_luck_63 : decode cX6_luck 63 = .ok (.goto (-21), 3) := by decide +kernel
theorem dX6_luck_66 : decode cX6_luck 66 = .ok (.lconst 0, 1) := by decide +kernel
theorem dX6_luck_67 : decode cX6_luck 67 = .ok (.lstore 5, 2) := by decide +kernel
theorem dX6_luck_69 : decode cX6_luck 69 = .ok (.iconst 0, 1) := by decide +kernel
theorem dX6_luck_70 : decode cX6_luck 70 = .ok (.istore 7, 2) := by decide +kernel
theorem dX6_luck_72 : decode cX6_luck 72 = .ok (.iload 7, 2) := by decide +kernel
theorem dX6_luck_74 : decode cX6_luck 74 = .ok (.iconst 1, 1) := by decide +kernel
theorem dX6_luck_75 : decode cX6_luck 75 = .ok (.aload_n 0, 1) := by decide +kernel
theorem dX6_luck_76 : decode cX6_luck 76 = .ok (.getfield 10, 3) := by decide +kernel
theorem dX6_luck_79 : decode cX6_luck 79 = .ok (.getfield 111, 3) := by decide +kernel
theorem dX6_luck_82 : decode cX6_luck 82 = .ok (.ishl, 1) := by decide +kernel
theorem dX6_luck_83 : decode cX6_luck 83 = .ok (.if_icmp .ge 51, 3) := by decide +kernel
theorem dX6_luck_86 : decode cX6_luck 86 = .ok (.aload_n 0, 1) := by decide +kernel
theorem dX6_luck_87 : decode cX6_luck 87 = .ok (.getfield 44, 3) := by decide +kernel
theorem dX6_luck_90 : decode cX6_luck 90 = .ok (.aload_n 0, 1) := by decide +kernel
theorem dX6_luck_91 : decode cX6_luck 91 = .ok (.getfield 10, 3) := by decide +kernel
theorem dX6_luck_94 : decode cX6_luck 94 = .ok (.iload 7, 2) := by decide +kernel
theorem dX6_luck_96 : decode cX6_luck 96 = .ok (.invokevirtual 170, 3) := by decide +kernel
theorem dX6_luck_99 : decode cX6_luck 99 = .ok (.aload_n 0, 1) := by decide +kernel
theorem dX6_luck_100 : decode cX6_luck 100 = .ok (.getfield 10, 3) := by decide +kernel
theorem dX6_luck_103 : decode cX6_luck 103 = .ok (.aload_n 0, 1) := by decide +kernel
theorem dX6_luck_104 : decode cX6_luck 104 = .ok (.getfield 44, 3) := by decide +kernel
theorem dX6_luck_107 : decode cX6_luck 107 = .ok (.getfield 174, 3) := by decide +kernel
theorem dX6_luck_110 : decode cX6_luck 110 = .ok (.invokevirtual 175, 3) := by decide +kernel
theorem dX6_luck_113 : decode cX6_luck 113 = .ok (.ifCond .eq 15, 3) := by decide +kernel
theorem dX6_luck_116 : decode cX6_luck 116 = .ok (.lload 5, 2) := by decide +kernel
theorem dX6_luck_118 : decode cX6_luck 118 = .ok (.aload_n 0, 1) := by decide +kernel
theorem dX6_luck_119 : decode cX6_luck 119 = .ok (.iload 7, 2) := by decide +kernel
theorem dX6_luck_121 : decode cX6_luck 121 = .ok (.iload_n 1, 1) := by decide +kernel
theorem dX6_luck_122 : decode cX6_luck 122 = .ok (.invokevirtual 194, 3) := by decide +kernel
theorem dX6_luck_125 : decode cX6_luck 125 = .ok (.ladd, 1) := by decide +kernel
theorem dX6_luck_126 : decode cX6_luck 126 = .ok (.lstore 5, 2) := by decide +kernel
theorem dX6_luck_128 : decode cX6_luck 128 = .ok (.iinc 7 1, 3) := by decide +kernel
theorem dX6_luck_131 : decode cX6_luck 131 = .ok (.goto (-59), 3) := by decide +kernel
theorem dX6_luck_134 : decode cX6_luck 134 = .ok (.lload 5, 2) := by decide +kernel
theorem dX6_luck_136 : decode cX6_luck 136 = .ok (.lload_n 3, 1) := by decide +kernel
theorem dX6_luck_137 : decode cX6_luck 137 = .ok (.iload_n 2, 1) := by decide +kernel
theorem dX6_luck_138 : decode cX6_luck 138 = .ok (.invokestatic 198, 3) := by decide +kernel
theorem dX6_luck_141 : decode cX6_luck 141 = .ok (.lreturn, 1) := by decide +kernel
theorem dX6_game_0 : decode cX6_game 0 = .ok (.iload_n 1, 1) := by decide +kernel
theorem dX6_game_1 : decode cX6_game 1 = .ok (.iconst 0, 1) := by decide +kernel
theorem dX6_game_2 : decode cX6_game 2 = .ok (.iconst 1, 1) := by decide +kernel
theorem dX6_game_3 : decode cX6_game 3 = .ok (.invokestatic 66, 3) := by decide +kernel
theorem dX6_game_6 : decode cX6_game 6 = .ok (.ifCond .ne 5, 3) := by decide +kernel
theorem dX6_game_9 : decode cX6_game 9 = .ok (.iconst (-1), 1) := by decide +kernel
theorem dX6_game_10 : decode cX6_game 10 = .ok (.ireturn, 1) := by decide +kernel
theorem dX6_game_11 : decode cX6_game 11 = .ok (.aload_n 0, 1) := by decide +kernel
theorem dX6_game_12 : decode cX6_game 12 = .ok (.getfield 10, 3) := by decide +kernel
theorem dX6_game_15 : decode cX6_game 15 = .ok (.getfield 95, 3) := by decide +kernel
theorem dX6_game_18 : decode cX6_game 18 = .ok (.ifCond .ne 6, 3) := by decide +kernel
theorem dX6_game_21 : decode cX6_game 21 = .ok (.bipush (-2), 2) := by decide +kernel
theorem dX6_game_23 : decode cX6_game 23 = .ok (.ireturn, 1) := by decide +kernel
theorem dX6_game_24 : decode cX6_game 24 = .ok (.iload_n 1, 1) := by decide +kernel
theorem dX6_game_25 : decode cX6_game 25 = .ok (.ifCond .ne 40, 3) := by decide +kernel
theorem dX6_game_28 : decode cX6_game 28 = .ok (.aload_n 0, 1) := by decide +kernel
theorem dX6_game_29 : decode cX6_game 29 = .ok (.getfield 51, 3) := by decide +kernel
theorem dX6_game_32 : decode cX6_game 32 = .ok (.aload_n 0, 1) := by decide +kernel
theorem dX6_game_33 : decode cX6_game 33 = .ok (.getfield 10, 3) := by decide +kernel
theorem dX6_game_36 : decode cX6_game 36 = .ok (.aload_n 0, 1) := by decide +kernel
theorem dX6_game_37 : decode cX6_game 37 = .ok (.getfield 10, 3) := by decide +kernel
theorem dX6_game_40 : decode cX6_game 40 = .ok (.getfield 101, 3) := by decide +kernel
theorem dX6_game_43 : decode cX6_game 43 = .ok (.invokevirtual 202, 3) := by decide +kernel
theorem dX6_game_46 : decode cX6_game 46 = .ok (.pop, 1) := by decide +kernel
theorem dX6_game_47 : decode cX6_game 47 = .ok (.aload_n 0, 1) := by decide +kernel
theorem dX6_game_48 : decode cX6_game 48 = .ok (.getfield 51, 3) := by decide +kernel
theorem dX6_game_51 : decode cX6_game 51 = .ok (.aload_n 0, 1) := by decide +kernel
theorem dX6_game_52 : decode cX6_game 52 = .ok (.getfield 10, 3) := by decide +kernel
theorem dX6_game_55 : decode cX6_game 55 = .ok (.getfield 104, 3) := by decide +kernel
theorem dX6_game_58 : decode cX6_game 58 = .ok (.invokevirtual 206, 3) := by decide +kernel
theorem dX6_game_61 : decode cX6_game 61 = .ok (.invokestatic 178, 3) := by decide +kernel
theorem dX6_game_64 : decode cX6_game 64 = .ok (.ireturn, 1) := by decide +kernel
theorem dX6_game_65 : decode cX6_game 65 = .ok (.aload_n 0, 1) := by decide +kernel
theorem dX6_game_66 : decode cX6_game 66 = .ok (.getfield 51, 3) := by decide +kernel
theorem dX6_game_69 : decode cX6_game 69 = .ok (.aload_n 0, 1) := by decide +kernel
theorem dX6_game_70 : decode cX6_game 70 = .ok (.getfield 10, 3) := by decide +kernel
theorem dX6_game_73 : decode cX6_game 73 = .ok (.aload_n 0, 1) := by decide +kernel
theorem dX6_game_74 : decode cX6_game 74 = .ok (.getfield 10, 3) := by decide +kernel
theorem dX6_game_77 : decode cX6_game 77 = .ok (.getfield 101, 3) := by decide +kernel
theorem dX6_game_80 : decode cX6_game 80 = .ok (.iconst 1, 1) := by decide +kernel
theorem dX6_game_81 : decode cX6_game 81 = .ok (.iadd, 1) := by decide +kernel
theorem dX6_game_82 : decode cX6_game 82 = .ok (.invokevirtual 202, 3) := by decide +kernel
theorem dX6_game_85 : decode cX6_game 85 = .ok (.pop, 1) := by decide +kernel
theorem dX6_game_86 : decode cX6_game 86 = .ok (.aload_n 0, 1) := by decide +kernel
theorem dX6_game_87 : decode cX6_game 87 = .ok (.getfield 51, 3) := by decide +kernel
theorem dX6_game_90 : decode cX6_game 90 = .ok (.aload_n 0, 1) := by decide +kernel
theorem dX6_game_91 : decode cX6_game 91 = .ok (.getfield 10, 3) := by decide +kernel
theorem dX6_game_94 : decode cX6_game 94 = .ok (.invokevirtual 209, 3) := by decide +kernel
theorem dX6_game_97 : decode cX6_game 97 = .ok (.ireturn, 1) := by decide +kernel
theorem dX6_days_0 : decode cX6_days 0 = .ok (.aload_n 0, 1) := by decide +kernel
theorem dX6_days_1 : decode cX6_days 1 = .ok (.getfield 10, 3) := by decide +kernel
theorem dX6_days_4 : decode cX6_days 4 = .ok (.getfield 95, 3) := by decide +kernel
theorem dX6_days_7 : decode cX6_days 7 = .ok (.ifCond .ne 6, 3) := by decide +kernel
theorem dX6_days_10 : decode cX6_days 10 = .ok (.bipush (-2), 2) := by decide +kernel
theorem dX6_days_12 : decode cX6_days 12 = .ok (.ireturn, 1) := by decide +kernel
theorem dX6_days_13 : decode cX6_days 13 = .ok (.aload_n 0, 1) := by decide +kernel
theorem dX6_days_14 : decode cX6_days 14 = .ok (.getfield 51, 3) := by decide +kernel
theorem dX6_days_17 : decode cX6_days 17 = .ok (.aload_n 0, 1) := by decide +kernel
theorem dX6_days_18 : decode cX6_days 18 = .ok (.getfield 10, 3) := by decide +kernel
theorem dX6_days_21 : decode cX6_days 21 = .ok (.iconst 0, 1) := by decide +kernel
theorem dX6_days_22 : decode cX6_days 22 = .ok (.invokevirtual 202, 3) := by decide +kernel
theorem dX6_days_25 : decode cX6_days 25 = .ok (.ireturn, 1) := by decide +kernel
theorem dX6_share_0 : decode cX6_share 0 = .ok (.aload_n 0, 1) := by decide +kernel
theorem dX6_share_1 : decode cX6_share 1 = .ok (.getfield 10, 3) := by decide +kernel
theorem dX6_share_4 : decode cX6_share 4 = .ok (.iload_n 1, 1) := by decide +kernel
theorem dX6_share_5 : decode cX6_share 5 = .ok (.invokevirtual 114, 3) := by decide +kernel
theorem dX6_share_8 : decode cX6_share 8 = .ok (.ifCond .eq 12, 3) := by decide +kernel
theorem dX6_share_11 : decode cX6_share 11 = .ok (.iload_n 2, 1) := by decide +kernel
theorem dX6_share_12 : decode cX6_share 12 = .ok (.iconst 0, 1) := by decide +kernel
theorem dX6_share_13 : decode cX6_share 13 = .ok (.iconst 1, 1) := by decide +kernel
theorem dX6_share_14 : decode cX6_share 14 = .ok (.invokestatic 66, 3) := by decide +kernel
theorem dX6_share_17 : decode cX6_share 17 = .ok (.ifCond .ne 7, 3) := by decide +kernel
theorem dX6_share_20 : decode cX6_share 20 = .ok (.ldc2_w 188, 3) := by decide +kernel
theorem dX6_share_23 : decode cX6_share 23 = .ok (.lreturn, 1) := by decide +kernel
theorem dX6_share_24 : decode cX6_share 24 = .ok (.lconst 0, 1) := by decide +kernel
theorem dX6_share_25 : decode cX6_share 25 = .ok (.lstore_n 3, 1) := by decide +kernel
theorem dX6_share_26 : decode cX6_share 26 = .ok (.iconst 0, 1) := by decide +kernel
theorem dX6_share_27 : decode cX6_share 27 = .ok (.istore 5, 2) := by decide +kernel
theorem dX6_share_29 : decode cX6_share 29 = .ok (.iload 5, 2) := by decide +kernel
theorem dX6_share_31 : decode cX6_share 31 = .ok (.iconst 1, 1) := by decide +kernel
theorem dX6_share_32 : decode cX6_share 32 = .ok (.aload_n 0, 1) := by decide +kernel
theorem dX6_share_33 : decode cX6_share 33 = .ok (.getfield 10, 3) := by decide +kernel
theorem dX6_share_36 : decode cX6_share 36 = .ok (.getfield 95, 3) := by decide +kernel
theorem dX6_share_39 : decode cX6_share 39 = .ok (.ishl, 1) := by decide +kernel
theorem dX6_share_40 : decode cX6_share 40 = .ok (.if_icmp .ge 65, 3) := by decide +kernel
theorem dX6_share_43 : decode cX6_share 43 = .ok (.iload 5, 2) := by decide +kernel
theorem dX6_share_45 : decode cX6_share 45 = .ok (.iload_n 1, 1) := by decide +kernel
theorem dX6_share_46 : decode cX6_share 46 = .ok (.ishr, 1) := by decide +kernel
theorem dX6_share_47 : decode cX6_share 47 = .ok (.iconst 1, 1) := by decide +kernel
theorem dX6_share_48 : decode cX6_share 48 = .ok (.iand, 1) := by decide +kernel
theorem dX6_share_49 : decode cX6_share 49 = .ok (.ifCond .ne 50, 3) := by decide +kernel
theorem dX6_share_52 : decode cX6_share 52 = .ok (.aload_n 0, 1) := by decide +kernel
theorem dX6_share_53 : decode cX6_share 53 = .ok (.getfield 10, 3) := by decide +kernel
theorem dX6_share_56 : decode cX6_share 56 = .ok (.iload 5, 2) := by decide +kernel
theorem dX6_share_58 : decode cX6_share 58 = .ok (.iconst 1, 1) := by decide +kernel
theorem dX6_share_59 : decode cX6_share 59 = .ok (.iload_n 1, 1) := by decide +kernel
theorem dX6_share_60 : decode cX6_share 60 = .ok (.ishl, 1) := by decide +kernel
theorem dX6_share_61 : decode cX6_share 61 = .ok (.ior, 1) := by decide +kernel
theorem dX6_share_62 : decode cX6_share 62 = .ok (.invokevirtual 175, 3) := by decide +kernel
theorem dX6_share_65 : decode cX6_share 65 = .ok (.invokestatic 178, 3) := by decide +kernel
theorem dX6_share_68 : decode cX6_share 68 = .ok (.aload_n 0, 1) := by decide +kernel
theorem dX6_share_69 : decode cX6_share 69 = .ok (.getfield 10, 3) := by decide +kernel
theorem dX6_share_72 : decode cX6_share 72 = .ok (.iload 5, 2) := by decide +kernel
theorem dX6_share_74 : decode cX6_share 74 = .ok (.invokevirtual 175, 3) := by decide +kernel
theorem dX6_share_77 : decode cX6_share 77 = .ok (.invokestatic 178, 3) := by decide +kernel
theorem dX6_share_80 : decode cX6_share 80 = .ok (.isub, 1) := by decide +kernel
theorem dX6_share_81 : decode cX6_share 81 = .ok (.istore 6, 2) := by decide +kernel
theorem dX6_share_83 : decode cX6_share 83 = .ok (.lload_n 3, 1) := by decide +kernel
theorem dX6_share_84 : decode cX6_share 84 = .ok (.iload 6, 2) := by decide +kernel
theorem dX6_share_86 : decode cX6_share 86 = .ok (.i2l, 1) := by decide +kernel
theorem dX6_share_87 : decode cX6_share 87 = .ok (.aload_n 0, 1) := by decide +kernel
theorem dX6_share_88 : decode cX6_share 88 = .ok (.iload 5, 2) := by decide +kernel
theorem dX6_share_90 : decode cX6_share 90 = .ok (.invokestatic 145, 3) := by decide +kernel
theorem dX6_share_93 : decode cX6_share 93 = .ok (.invokevirtual 212, 3) := by decide +kernel
theorem dX6_share_96 : decode cX6_share 96 = .ok (.lmul, 1) := by decide +kernel
theorem dX6_share_97 : decode cX6_share 97 = .ok (.ladd, 1) := by decide +kernel
theorem dX6_share_98 : decode cX6_share 98 = .ok (.lstore_n 3, 1) := by decide +kernel
theorem dX6_share_99 : decode cX6_share 99 = .ok (.iinc 5 1, 3) := by decide +kernel
theorem dX6_share_102 : decode cX6_share 102 = .ok (.goto (-73), 3) := by decide +kernel
theorem dX6_share_105 : decode cX6_share 105 = .ok (.lload_n 3, 1) := by decide +kernel
theorem dX6_share_106 : decode cX6_share 106 = .ok (.aload_n 0, 1) := by decide +kernel
theorem dX6_share_107 : decode cX6_share 107 = .ok (.getfield 10, 3) := by decide +kernel
theorem dX6_share_110 : decode cX6_share 110 = .ok (.getfield 95, 3) := by decide +kernel
theorem dX6_share_113 : decode cX6_share 113 = .ok (.invokestatic 216, 3) := by decide +kernel
theorem dX6_share_116 : decode cX6_share 116 = .ok (.iload_n 2, 1) := by decide +kernel
theorem dX6_share_117 : decode cX6_share 117 = .ok (.invokestatic 198, 3) := by decide +kernel
theorem dX6_share_120 : decode cX6_share 120 = .ok (.lreturn, 1) := by decide +kernel
theorem dX6_see_0 : decode cX6_see 0 = .ok (.aload_n 0, 1) := by decide +kernel
theorem dX6_see_1 : decode cX6_see 1 = .ok (.getfield 10, 3) := by decide +kernel
theorem dX6_see_4 : decode cX6_see 4 = .ok (.iload_n 1, 1) := by decide +kernel
theorem dX6_see_5 : decode cX6_see 5 = .ok (.invokevirtual 157, 3) := by decide +kernel
theorem dX6_see_8 : decode cX6_see 8 = .ok (.ifCond .ne 5, 3) := by decide +kernel
theorem dX6_see_11 : decode cX6_see 11 = .ok (.iconst (-1), 1) := by decide +kernel
theorem dX6_see_12 : decode cX6_see 12 = .ok (.ireturn, 1) := by decide +kernel
theorem dX6_see_13 : decode cX6_see 13 = .ok (.aload_n 0, 1) := by decide +kernel
theorem dX6_see_14 : decode cX6_see 14 = .ok (.getfield 10, 3) := by decide +kernel
theorem dX6_see_17 : decode cX6_see 17 = .ok (.iload_n 1, 1) := by decide +kernel
theorem dX6_see_18 : decode cX6_see 18 = .ok (.iload_n 2, 1) := by decide +kernel
theorem dX6_see_19 : decode cX6_see 19 = .ok (.invokevirtual 219, 3) := by decide +kernel
theorem dX6_see_22 : decode cX6_see 22 = .ok (.ifCond .eq 13, 3) := by decide +kernel
theorem dX6_see_25 : decode cX6_see 25 = .ok (.aload_n 0, 1) := by decide +kernel
theorem dX6_see_26 : decode cX6_see 26 = .ok (.getfield 10, 3) := by decide +kernel
theorem dX6_see_29 : decode cX6_see 29 = .ok (.getfield 223, 3) := by decide +kernel
theorem dX6_see_32 : decode cX6_see 32 = .ok (.goto 5, 3) := by decide +kernel
theorem dX6_see_35 : decode cX6_see 35 = .ok (.bipush (-3), 2) := by decide +kernel
theorem dX6_see_37 : decode cX6_see 37 = .ok (.ireturn, 1) := by decide +kernel
theorem dX6_forget_0 : decode cX6_forget 0 = .ok (.iload_n 1, 1) := by decide +kernel
theorem dX6_forget_1 : decode cX6_forget 1 = .ok (.iconst 0, 1) := by decide +kernel
theorem dX6_forget_2 : decode cX6_forget 2 = .ok (.aload_n 0, 1) := by decide +kernel
theorem dX6_forget_3 : decode cX6_forget 3 = .ok (.getfield 10, 3) := by decide +kernel
theorem dX6_forget_6 : decode cX6_forget 6 = .ok (.getfield 223, 3) := by decide +kernel
theorem dX6_forget_9 : decode cX6_forget 9 = .ok (.invokestatic 66, 3) := by decide +kernel
theorem dX6_forget_12 : decode cX6_forget 12 = .ok (.ifCond .ne 5, 3) := by decide +kernel
theorem dX6_forget_15 : decode cX6_forget 15 = .ok (.iconst (-1), 1) := by decide +kernel
theorem dX6_forget_16 : decode cX6_forget 16 = .ok (.ireturn, 1) := by decide +kernel
theorem dX6_forget_17 : decode cX6_forget 17 = .ok (.aload_n 0, 1) := by decide +kernel
theorem dX6_forget_18 : decode cX6_forget 18 = .ok (.getfield 10, 3) := by decide +kernel
theorem dX6_forget_21 : decode cX6_forget 21 = .ok (.getfield 223, 3) := by decide +kernel
theorem dX6_forget_24 : decode cX6_forget 24 = .ok (.istore_n 2, 1) := by decide +kernel
theorem dX6_forget_25 : decode cX6_forget 25 = .ok (.aload_n 0, 1) := by decide +kernel
theorem dX6_forget_26 : decode cX6_forget 26 = .ok (.getfield 10, 3) := by decide +kernel
theorem dX6_forget_29 : decode cX6_forget 29 = .ok (.iload_n 1, 1) := by decide +kernel
theorem dX6_forget_30 : decode cX6_forget 30 = .ok (.putfield 223, 3) := by decide +kernel
theorem dX6_forget_33 : decode cX6_forget 33 = .ok (.iload_n 2, 1) := by decide +kernel
theorem dX6_forget_34 : decode cX6_forget 34 = .ok (.ireturn, 1) := by decide +kernel
theorem dX6_fits_0 : decode cX6_fits 0 = .ok (.iload_n 1, 1) := by decide +kernel
theorem dX6_fits_1 : decode cX6_fits 1 = .ok (.iconst 0, 1) := by decide +kernel
theorem dX6_fits_2 : decode cX6_fits 2 = .ok (.iconst 3, 1) := by decide +kernel
theorem dX6_fits_3 : decode cX6_fits 3 = .ok (.invokestatic 66, 3) := by decide +kernel
theorem dX6_fits_6 : decode cX6_fits 6 = .ok (.ifCond .ne 5, 3) := by decide +kernel
theorem dX6_fits_9 : decode cX6_fits 9 = .ok (.iconst (-1), 1) := by decide +kernel
theorem dX6_fits_10 : decode cX6_fits 10 = .ok (.ireturn, 1) := by decide +kernel
theorem dX6_fits_11 : decode cX6_fits 11 = .ok (.aload_n 0, 1) := by decide +kernel
theorem dX6_fits_12 : decode cX6_fits 12 = .ok (.getfield 10, 3) := by decide +kernel
theorem dX6_fits_15 : decode cX6_fits 15 = .ok (.getfield 95, 3) := by decide +kernel
theorem dX6_fits_18 : decode cX6_fits 18 = .ok (.ifCond .ne 6, 3) := by decide +kernel
theorem dX6_fits_21 : decode cX6_fits 21 = .ok (.bipush (-2), 2) := by decide +kernel
theorem dX6_fits_23 : decode cX6_fits 23 = .ok (.ireturn, 1) := by decide +kernel
theorem dX6_fits_24 : decode cX6_fits 24 = .ok (.aload_n 0, 1) := by decide +kernel
theorem dX6_fits_25 : decode cX6_fits 25 = .ok (.getfield 58, 3) := by decide +kernel
theorem dX6_fits_28 : decode cX6_fits 28 = .ok (.aload_n 0, 1) := by decide +kernel
theorem dX6_fits_29 : decode cX6_fits 29 = .ok (.getfield 10, 3) := by decide +kernel
theorem dX6_fits_32 : decode cX6_fits 32 = .ok (.invokevirtual 226, 3) := by decide +kernel
theorem dX6_fits_35 : decode cX6_fits 35 = .ok (.iload_n 1, 1) := by decide +kernel
theorem dX6_fits_36 : decode cX6_fits 36 = .ok (.ifCond .ne 11, 3) := by decide +kernel
theorem dX6_fits_39 : decode cX6_fits 39 = .ok (.aload_n 0, 1) := by decide +kernel
theorem dX6_fits_40 : decode cX6_fits 40 = .ok (.getfield 58, 3) := by decide +kernel
theorem dX6_fits_43 : decode cX6_fits 43 = .ok (.getfield 229, 3) := by decide +kernel
theorem dX6_fits_46 : decode cX6_fits 46 = .ok (.ireturn, 1) := by decide +kernel
theorem dX6_fits_47 : decode cX6_fits 47 = .ok (.aload_n 0, 1) := by decide +kernel
theorem dX6_fits_48 : decode cX6_fits 48 = .ok (.getfield 58, 3) := by decide +kernel
theorem dX6_fits_51 : decode cX6_fits 51 = .ok (.getfield 229, 3) := by decide +kernel
theorem dX6_fits_54 : decode cX6_fits 54 = .ok (.ifCond .ne 6, 3) := by decide +kernel
theorem dX6_fits_57 : decode cX6_fits 57 = .ok (.bipush (-4), 2) := by decide +kernel
theorem dX6_fits_59 : decode cX6_fits 59 = .ok (.ireturn, 1) := by decide +kernel
theorem dX6_fits_60 : decode cX6_fits 60 = .ok (.iload_n 1, 1) := by decide +kernel
theorem dX6_fits_61 : decode cX6_fits 61 = .ok (.lookupswitch 43 #[(1, 27), (2, 35)], 27) := by decide +kernel
theorem dX6_fits_88 : decode cX6_fits 88 = .ok (.aload_n 0, 1) := by decide +kernel
theorem dX6_fits_89 : decode cX6_fits 89 = .ok (.getfield 58, 3) := by decide +kernel
theorem dX6_fits_92 : decode cX6_fits 92 = .ok (.getfield 232, 3) := by decide +kernel
theorem dX6_fits_95 : decode cX6_fits 95 = .ok (.ireturn, 1) := by decide +kernel
theorem dX6_fits_96 : decode cX6_fits 96 = .ok (.aload_n 0, 1) := by decide +kernel
theorem dX6_fits_97 : decode cX6_fits 97 = .ok (.getfield 58, 3) := by decide +kernel
theorem dX6_fits_100 : decode cX6_fits 100 = .ok (.getfield 235, 3) := by decide +kernel
theorem dX6_fits_103 : decode cX6_fits 103 = .ok (.ireturn, 1) := by decide +kernel
theorem dX6_fits_104 : decode cX6_fits 104 = .ok (.aload_n 0, 1) := by decide +kernel
theorem dX6_fits_105 : decode cX6_fits 105 = .ok (.getfield 58, 3) := by decide +kernel
theorem dX6_fits_108 : decode cX6_fits 108 = .ok (.getfield 238, 3) := by decide +kernel
theorem dX6_fits_111 : decode cX6_fits 111 = .ok (.aload_n 0, 1) := by decide +kernel
theorem dX6_fits_112 : decode cX6_fits 112 = .ok (.getfield 58, 3) := by decide +kernel
theorem dX6_fits_115 : decode cX6_fits 115 = .ok (.getfield 241, 3) := by decide +kernel
theorem dX6_fits_118 : decode cX6_fits 118 = .ok (.iconst (-1), 1) := by decide +kernel
theorem dX6_fits_119 : decode cX6_fits 119 = .ok (.ixor, 1) := by decide +kernel
theorem dX6_fits_120 : decode cX6_fits 120 = .ok (.iand, 1) := by decide +kernel
theorem dX6_fits_121 : decode cX6_fits 121 = .ok (.ireturn, 1) := by decide +kernel
theorem dX6_drift_0 : decode cX6_drift 0 = .ok (.iload_n 2, 1) := by decide +kernel
theorem dX6_drift_1 : decode cX6_drift 1 = .ok (.iconst 1, 1) := by decide +kernel
theorem dX6_drift_2 : decode cX6_drift 2 = .ok (.bipush 60, 2) := by decide +kernel
theorem dX6_drift_4 : decode cX6_drift 4 = .ok (.invokestatic 66, 3) := by decide +kernel
theorem dX6_drift_7 : decode cX6_drift 7 = .ok (.ifCond .eq 12, 3) := by decide +kernel
theorem dX6_drift_10 : decode cX6_drift 10 = .ok (.iload_n 3, 1) := by decide +kernel
theorem dX6_drift_11 : decode cX6_drift 11 = .ok (.iconst 0, 1) := by decide +kernel
theorem dX6_drift_12 : decode cX6_drift 12 = .ok (.iconst 1, 1) := by decide +kernel
theorem dX6_drift_13 : decode cX6_drift 13 = .ok (.invokestatic 66, 3) := by decide +kernel
theorem dX6_drift_16 : decode cX6_drift 16 = .ok (.ifCond .ne 5, 3) := by decide +kernel
theorem dX6_drift_19 : decode cX6_drift 19 = .ok (.iconst (-1), 1) := by decide +kernel
theorem dX6_drift_20 : decode cX6_drift 20 = .ok (.ireturn, 1) := by decide +kernel
theorem dX6_drift_21 : decode cX6_drift 21 = .ok (.aload_n 0, 1) := by decide +kernel
theorem dX6_drift_22 : decode cX6_drift 22 = .ok (.getfield 10, 3) := by decide +kernel
theorem dX6_drift_25 : decode cX6_drift 25 = .ok (.getfield 95, 3) := by decide +kernel
theorem dX6_drift_28 : decode cX6_drift 28 = .ok (.ifCond .ne 6, 3) := by decide +kernel
theorem dX6_drift_31 : decode cX6_drift 31 = .ok (.bipush (-2), 2) := by decide +kernel
theorem dX6_drift_33 : decode cX6_drift 33 = .ok (.ireturn, 1) := by decide +kernel
theorem dX6_drift_34 : decode cX6_drift 34 = .ok (.aload_n 0, 1) := by decide +kernel
theorem dX6_drift_35 : decode cX6_drift 35 = .ok (.getfield 10, 3) := by decide +kernel
theorem dX6_drift_38 : decode cX6_drift 38 = .ok (.getfield 104, 3) := by decide +kernel
theorem dX6_drift_41 : decode cX6_drift 41 = .ok (.istore 4, 2) := by decide +kernel
theorem dX6_drift_43 : decode cX6_drift 43 = .ok (.iconst 0, 1) := by decide +kernel
theorem dX6_drift_44 : decode cX6_drift 44 = .ok (.istore 5, 2) := by decide +kernel
theorem dX6_drift_46 : decode cX6_drift 46 = .ok (.iload_n 1, 1) := by decide +kernel
theorem dX6_drift_47 : decode cX6_drift 47 = .ok (.istore 6, 2) := by decide +kernel
theorem dX6_drift_49 : decode cX6_drift 49 = .ok (.iconst 0, 1) := by decide +kernel
theorem dX6_drift_50 : decode cX6_drift 50 = .ok (.istore 7, 2) := by decide +kernel
theorem dX6_drift_52 : decode cX6_drift 52 = .ok (.iload 7, 2) := by decide +kernel
theorem dX6_drift_54 : decode cX6_drift 54 = .ok (.iload_n 2, 1) := by decide +kernel
theorem dX6_drift_55 : decode cX6_drift 55 = .ok (.if_icmp .ge 61, 3) := by decide +kernel
theorem dX6_drift_58 : decode cX6_drift 58 = .ok (.iload 6, 2) := by decide +kernel
theorem dX6_drift_60 : decode cX6_drift 60 = .ok (.ldc 244, 2) := by decide +kernel
theorem dX6_drift_62 : decode cX6_drift 62 = .ok (.imul, 1) := by decide +kernel
theorem dX6_drift_63 : decode cX6_drift 63 = .ok (.sipush 12345, 3) := by decide +kernel
theorem dX6_drift_66 : decode cX6_drift 66 = .ok (.iadd, 1) := by decide +kernel
theorem dX6_drift_67 : decode cX6_drift 67 = .ok (.istore 6, 2) := by decide +kernel
theorem dX6_drift_69 : decode cX6_drift 69 = .ok (.iload 4, 2) := by decide +kernel
theorem dX6_drift_71 : decode cX6_drift 71 = .ok (.iconst 1, 1) := by decide +kernel
theorem dX6_drift_72 : decode cX6_drift 72 = .ok (.iload 6, 2) := by decide +kernel
theorem dX6_drift_74 : decode cX6_drift 74 = .ok (.bipush 16, 2) := by decide +kernel
theorem dX6_drift_76 : decode cX6_drift 76 = .ok (.iushr, 1) := by decide +kernel
theorem dX6_drift_77 : decode cX6_drift 77 = .ok (.sipush 32767, 3) := by decide +kernel
theorem dX6_drift_80 : decode cX6_drift 80 = .ok (.iand, 1) := by decide +kernel
theorem dX6_drift_81 : decode cX6_drift 81 = .ok (.aload_n 0, 1) := by decide +kernel
theorem dX6_drift_82 : decode cX6_drift 82 = .ok (.getfield 10, 3) := by decide +kernel
theorem dX6_drift_85 : decode cX6_drift 85 = .ok (.getfield 95, 3) := by decide +kernel
theorem dX6_drift_88 : decode cX6_drift 88 = .ok (.irem, 1) := by decide +kernel
theorem dX6_drift_89 : decode cX6_drift 89 = .ok (.ishl, 1) := by decide +kernel
theorem dX6_drift_90 : decode cX6_drift 90 = .ok (.ixor, 1) := by decide +kernel
theorem dX6_drift_91 : decode cX6_drift 91 = .ok (.istore 4, 2) := by decide +kernel
theorem dX6_drift_93 : decode cX6_drift 93 = .ok (.iload 5, 2) := by decide +kernel
theorem dX6_drift_95 : decode cX6_drift 95 = .ok (.aload_n 0, 1) := by decide +kernel
theorem dX6_drift_96 : decode cX6_drift 96 = .ok (.getfield 10, 3) := by decide +kernel
theorem dX6_drift_99 : decode cX6_drift 99 = .ok (.iload 4, 2) := by decide +kernel
theorem dX6_drift_101 : decode cX6_drift 101 = .ok (.invokevirtual 175, 3) := by decide +kernel
theorem dX6_drift_104 : decode cX6_drift 104 = .ok (.invokestatic 178, 3) := by decide +kernel
theorem dX6_drift_107 : decode cX6_drift 107 = .ok (.iadd, 1) := by decide +kernel
theorem dX6_drift_108 : decode cX6_drift 108 = .ok (.istore 5, 2) := by decide +kernel
theorem dX6_drift_110 : decode cX6_drift 110 = .ok (.iinc 7 1, 3) := by decide +kernel
theorem dX6_drift_113 : decode cX6_drift 113 = .ok (.goto (-61), 3) := by decide +kernel
theorem dX6_drift_116 : decode cX6_drift 116 = .ok (.iload_n 3, 1) := by decide +kernel
theorem dX6_drift_117 : decode cX6_drift 117 = .ok (.ifCond .ne 8, 3) := by decide +kernel
theorem dX6_drift_120 : decode cX6_drift 120 = .ok (.iload 5, 2) := by decide +kernel
theorem dX6_drift_122 : decode cX6_drift 122 = .ok (.goto 12, 3) := by decide +kernel
theorem dX6_drift_125 : decode cX6_drift 125 = .ok (.aload_n 0, 1) := by decide +kernel
theorem dX6_drift_126 : decode cX6_drift 126 = .ok (.getfield 10, 3) := by decide +kernel
theorem dX6_drift_129 : decode cX6_drift 129 = .ok (.iload 4, 2) := by decide +kernel
theorem dX6_drift_131 : decode cX6_drift 131 = .ok (.invokevirtual 107, 3) := by decide +kernel
theorem dX6_drift_134 : decode cX6_drift 134 = .ok (.ireturn, 1) := by decide +kernel
theorem dX6_keep_0 : decode cX6_keep 0 = .ok (.iload_n 1, 1) := by decide +kernel
theorem dX6_keep_1 : decode cX6_keep 1 = .ok (.iconst 0, 1) := by decide +kernel
theorem dX6_keep_2 : decode cX6_keep 2 = .ok (.iconst 1, 1) := by decide +kernel
theorem dX6_keep_3 : decode cX6_keep 3 = .ok (.invokestatic 66, 3) := by decide +kernel
theorem dX6_keep_6 : decode cX6_keep 6 = .ok (.ifCond .ne 5, 3) := by decide +kernel
theorem dX6_keep_9 : decode cX6_keep 9 = .ok (.iconst (-1), 1) := by decide +kernel
theorem dX6_keep_10 : decode cX6_keep 10 = .ok (.ireturn, 1) := by decide +kernel
theorem dX6_keep_11 : decode cX6_keep 11 = .ok (.aload_n 0, 1) := by decide +kernel
theorem dX6_keep_12 : decode cX6_keep 12 = .ok (.getfield 23, 3) := by decide +kernel
theorem dX6_keep_15 : decode cX6_keep 15 = .ok (.iload_n 1, 1) := by decide +kernel
theorem dX6_keep_16 : decode cX6_keep 16 = .ok (.baload, 1) := by decide +kernel
theorem dX6_keep_17 : decode cX6_keep 17 = .ok (.invokestatic 178, 3) := by decide +kernel
theorem dX6_keep_20 : decode cX6_keep 20 = .ok (.istore_n 2, 1) := by decide +kernel
theorem dX6_keep_21 : decode cX6_keep 21 = .ok (.aload_n 0, 1) := by decide +kernel
theorem dX6_keep_22 : decode cX6_keep 22 = .ok (.getfield 19, 3) := by decide +kernel
theorem dX6_keep_25 : decode cX6_keep 25 = .ok (.iload_n 1, 1) := by decide +kernel
theorem dX6_keep_26 : decode cX6_keep 26 = .ok (.aaload, 1) := by decide +kernel
theorem dX6_keep_27 : decode cX6_keep 27 = .ok (.aload_n 0, 1) := by decide +kernel
theorem dX6_keep_28 : decode cX6_keep 28 = .ok (.getfield 10, 3) := by decide +kernel
theorem dX6_keep_31 : decode cX6_keep 31 = .ok (.invokevirtual 91, 3) := by decide +kernel
theorem dX6_keep_34 : decode cX6_keep 34 = .ok (.aload_n 0, 1) := by decide +kernel
theorem dX6_keep_35 : decode cX6_keep 35 = .ok (.getfield 23, 3) := by decide +kernel
theorem dX6_keep_38 : decode cX6_keep 38 = .ok (.iload_n 1, 1) := by decide +kernel
theorem dX6_keep_39 : decode cX6_keep 39 = .ok (.iconst 1, 1) := by decide +kernel
theorem dX6_keep_40 : decode cX6_keep 40 = .ok (.bastore, 1) := by decide +kernel
theorem dX6_keep_41 : decode cX6_keep 41 = .ok (.iload_n 2, 1) := by decide +kernel
theorem dX6_keep_42 : decode cX6_keep 42 = .ok (.ireturn, 1) := by decide +kernel
theorem dX6_back_0 : decode cX6_back 0 = .ok (.iload_n 1, 1) := by decide +kernel
theorem dX6_back_1 : decode cX6_back 1 = .ok (.iconst 0, 1) := by decide +kernel
theorem dX6_back_2 : decode cX6_back 2 = .ok (.iconst 1, 1) := by decide +kernel
theorem dX6_back_3 : decode cX6_back 3 = .ok (.invokestatic 66, 3) := by decide +kernel
theorem dX6_back_6 : decode cX6_back 6 = .ok (.ifCond .ne 5, 3) := by decide +kernel
theorem dX6_back_9 : decode cX6_back 9 = .ok (.iconst (-1), 1) := by decide +kernel
theorem dX6_back_10 : decode cX6_back 10 = .ok (.ireturn, 1) := by decide +kernel
theorem dX6_back_11 : decode cX6_back 11 = .ok (.aload_n 0, 1) := by decide +kernel
theorem dX6_back_12 : decode cX6_back 12 = .ok (.getfield 23, 3) := by decide +kernel
theorem dX6_back_15 : decode cX6_back 15 = .ok (.iload_n 1, 1) := by decide +kernel
theorem dX6_back_16 : decode cX6_back 16 = .ok (.baload, 1) := by decide +kernel
theorem dX6_back_17 : decode cX6_back 17 = .ok (.ifCond .ne 6, 3) := by decide +kernel
theorem dX6_back_20 : decode cX6_back 20 = .ok (.bipush (-2), 2) := by decide +kernel
theorem dX6_back_22 : decode cX6_back 22 = .ok (.ireturn, 1) := by decide +kernel
theorem dX6_back_23 : decode cX6_back 23 = .ok (.aload_n 0, 1) := by decide +kernel
theorem dX6_back_24 : decode cX6_back 24 = .ok (.getfield 10, 3) := by decide +kernel
theorem dX6_back_27 : decode cX6_back 27 = .ok (.aload_n 0, 1) := by decide +kernel
theorem dX6_back_28 : decode cX6_back 28 = .ok (.getfield 19, 3) := by decide +kernel
theorem dX6_back_31 : decode cX6_back 31 = .ok (.iload_n 1, 1) := by decide +kernel
theorem dX6_back_32 : decode cX6_back 32 = .ok (.aaload, 1) := by decide +kernel
theorem dX6_back_33 : decode cX6_back 33 = .ok (.invokevirtual 91, 3) := by decide +kernel
theorem dX6_back_36 : decode cX6_back 36 = .ok (.aload_n 0, 1) := by decide +kernel
theorem dX6_back_37 : decode cX6_back 37 = .ok (.getfield 10, 3) := by decide +kernel
theorem dX6_back_40 : decode cX6_back 40 = .ok (.getfield 101, 3) := by decide +kernel
theorem dX6_back_43 : decode cX6_back 43 = .ok (.ireturn, 1) := by decide +kernel
theorem dX6_sheet_0 : decode cX6_sheet 0 = .ok (.iload_n 1, 1) := by decide +kernel
theorem dX6_sheet_1 : decode cX6_sheet 1 = .ok (.iconst 0, 1) := by decide +kernel
theorem dX6_sheet_2 : decode cX6_sheet 2 = .ok (.iconst 3, 1) := by decide +kernel
theorem dX6_sheet_3 : decode cX6_sheet 3 = .ok (.invokestatic 66, 3) := by decide +kernel
theorem dX6_sheet_6 : decode cX6_sheet 6 = .ok (.ifCond .eq 18, 3) := by decide +kernel
theorem dX6_sheet_9 : decode cX6_sheet 9 = .ok (.iload_n 2, 1) := by decide +kernel
theorem dX6_sheet_10 : decode cX6_sheet 10 = .ok (.iconst 0, 1) := by decide +kernel
theorem dX6_sheet_11 : decode cX6_sheet 11 = .ok (.iconst 2, 1) := by decide +kernel
theorem dX6_sheet_12 : decode cX6_sheet 12 = .ok (.invokestatic 66, 3) := by decide +kernel
theorem dX6_sheet_15 : decode cX6_sheet 15 = .ok (.ifCond .eq 9, 3) := by decide +kernel
theorem dX6_sheet_18 : decode cX6_sheet 18 = .ok (.iload_n 3, 1) := by decide +kernel
theorem dX6_sheet_19 : decode cX6_sheet 19 = .ok (.bipush 40, 2) := by decide +kernel
theorem dX6_sheet_21 : decode cX6_sheet 21 = .ok (.if_icmp .le 5, 3) := by decide +kernel
theorem dX6_sheet_24 : decode cX6_sheet 24 = .ok (.iconst (-1), 1) := by decide +kernel
theorem dX6_sheet_25 : decode cX6_sheet 25 = .ok (.ireturn, 1) := by decide +kernel
theorem dX6_sheet_26 : decode cX6_sheet 26 = .ok (.iload_n 3, 1) := by decide +kernel
theorem dX6_sheet_27 : decode cX6_sheet 27 = .ok (.ifCond .ge 6, 3) := by decide +kernel
theorem dX6_sheet_30 : decode cX6_sheet 30 = .ok (.bipush (-14), 2) := by decide +kernel
theorem dX6_sheet_32 : decode cX6_sheet 32 = .ok (.ireturn, 1) := by decide +kernel
theorem dX6_sheet_33 : decode cX6_sheet 33 = .ok (.aload_n 0, 1) := by decide +kernel
theorem dX6_sheet_34 : decode cX6_sheet 34 = .ok (.getfield 36, 3) := by decide +kernel
theorem dX6_sheet_37 : decode cX6_sheet 37 = .ok (.iload_n 1, 1) := by decide +kernel
theorem dX6_sheet_38 : decode cX6_sheet 38 = .ok (.aaload, 1) := by decide +kernel
theorem dX6_sheet_39 : decode cX6_sheet 39 = .ok (.iload_n 2, 1) := by decide +kernel
theorem dX6_sheet_40 : decode cX6_sheet 40 = .ok (.iload_n 3, 1) := by decide +kernel
theorem dX6_sheet_41 : decode cX6_sheet 41 = .ok (.invokevirtual 245, 3) := by decide +kernel
theorem dX6_sheet_44 : decode cX6_sheet 44 = .ok (.iconst 1, 1) := by decide +kernel
theorem dX6_sheet_45 : decode cX6_sheet 45 = .ok (.ireturn, 1) := by decide +kernel
theorem dX6_lay_0 : decode cX6_lay 0 = .ok (.iload_n 1, 1) := by decide +kernel
theorem dX6_lay_1 : decode cX6_lay 1 = .ok (.iconst 0, 1) := by decide +kernel
theorem dX6_lay_2 : decode cX6_lay 2 = .ok (.iconst 3, 1) := by decide +kernel
theorem dX6_lay_3 : decode cX6_lay 3 = .ok (.invokestatic 66, 3) := by decide +kernel
theorem dX6_lay_6 : decode cX6_lay 6 = .ok (.ifCond .ne 5, 3) := by decide +kernel
theorem dX6_lay_9 : decode cX6_lay 9 = .ok (.iconst (-1), 1) := by decide +kernel
theorem dX6_lay_10 : decode cX6_lay 10 = .ok (.ireturn, 1) := by decide +kernel
theorem dX6_lay_11 : decode cX6_lay 11 = .ok (.aload_n 0, 1) := by decide +kernel
theorem dX6_lay_12 : decode cX6_lay 12 = .ok (.getfield 36, 3) := by decide +kernel
theorem dX6_lay_15 : decode cX6_lay 15 = .ok (.iload_n 1, 1) := by decide +kernel
theorem dX6_lay_16 : decode cX6_lay 16 = .ok (.aaload, 1) := by decide +kernel
theorem dX6_lay_17 : decode cX6_lay 17 = .ok (.astore 4, 2) := by decide +kernel
theorem dX6_lay_19 : decode cX6_lay 19 = .ok (.aload 4, 2) := by decide +kernel
theorem dX6_lay_21 : decode cX6_lay 21 = .ok (.aload 4, 2) := by decide +kernel
theorem dX6_lay_23 : decode cX6_lay 23 = .ok (.getfield 249, 3) := by decide +kernel
theorem dX6_lay_26 : decode cX6_lay 26 = .ok (.iload_n 2, 1) := by decide +kernel
theorem dX6_lay_27 : decode cX6_lay 27 = .ok (.invokevirtual 252, 3) := by decide +kernel
theorem dX6_lay_30 : decode cX6_lay 30 = .ok (.istore 5, 2) := by decide +kernel
theorem dX6_lay_32 : decode cX6_lay 32 = .ok (.iload 5, 2) := by decide +kernel
theorem dX6_lay_34 : decode cX6_lay 34 = .ok (.ifCond .eq 9, 3) := by decide +kernel
theorem dX6_lay_37 : decode cX6_lay 37 = .ok (.bipush (-10), 2) := by decide +kernel
theorem dX6_lay_39 : decode cX6_lay 39 = .ok (.iload 5, 2) := by decide +kernel
theorem dX6_lay_41 : decode cX6_lay 41 = .ok (.isub, 1) := by decide +kernel
theorem dX6_lay_42 : decode cX6_lay 42 = .ok (.ireturn, 1) := by decide +kernel
theorem dX6_lay_43 : decode cX6_lay 43 = .ok (.aload 4, 2) := by decide +kernel
theorem dX6_lay_45 : decode cX6_lay 45 = .ok (.iload_n 2, 1) := by decide +kernel
theorem dX6_lay_46 : decode cX6_lay 46 = .ok (.iload_n 3, 1) := by decide +kernel
theorem dX6_lay_47 : decode cX6_lay 47 = .ok (.invokevirtual 255, 3) := by decide +kernel
theorem dX6_lay_50 : decode cX6_lay 50 = .ok (.iconst 1, 1) := by decide +kernel
theorem dX6_lay_51 : decode cX6_lay 51 = .ok (.ireturn, 1) := by decide +kernel
theorem dX6_read_0 : decode cX6_read 0 = .ok (.iload_n 1, 1) := by decide +kernel
theorem dX6_read_1 : decode cX6_read 1 = .ok (.iconst 0, 1) := by decide +kernel
theorem dX6_read_2 : decode cX6_read 2 = .ok (.iconst 3, 1) := by decide +kernel
theorem dX6_read_3 : decode cX6_read 3 = .ok (.invokestatic 66, 3) := by decide +kernel
theorem dX6_read_6 : decode cX6_read 6 = .ok (.ifCond .eq 23, 3) := by decide +kernel
theorem dX6_read_9 : decode cX6_read 9 = .ok (.iload_n 2, 1) := by decide +kernel
theorem dX6_read_10 : decode cX6_read 10 = .ok (.iconst 0, 1) := by decide +kernel
theorem dX6_read_11 : decode cX6_read 11 = .ok (.iconst 2, 1) := by decide +kernel
theorem dX6_read_12 : decode cX6_read 12 = .ok (.invokestatic 66, 3) := by decide +kernel
theorem dX6_read_15 : decode cX6_read 15 = .ok (.ifCond .eq 14, 3) := by decide +kernel
theorem dX6_read_18 : decode cX6_read 18 = .ok (.iload 4, 2) := by decide +kernel
theorem dX6_read_20 : decode cX6_read 20 = .ok (.iconst 0, 1) := by decide +kernel
theorem dX6_read_21 : decode cX6_read 21 = .ok (.bipush 20, 2) := by decide +kernel
theorem dX6_read_23 : decode cX6_read 23 = .ok (.invokestatic 66, 3) := by decide +kernel
theorem dX6_read_26 : decode cX6_read 26 = .ok (.ifCond .ne 5, 3) := by decide +kernel
theorem dX6_read_29 : decode cX6_read 29 = .ok (.iconst (-1), 1) := by decide +kernel
theorem dX6_read_30 : decode cX6_read 30 = .ok (.ireturn, 1) := by decide +kernel
theorem dX6_read_31 : decode cX6_read 31 = .ok (.aload_n 0, 1) := by decide +kernel
theorem dX6_read_32 : decode cX6_read 32 = .ok (.getfield 36, 3) := by decide +kernel
theorem dX6_read_35 : decode cX6_read 35 = .ok (.iload_n 1, 1) := by decide +kernel
theorem dX6_read_36 : decode cX6_read 36 = .ok (.aaload, 1) := by decide +kernel
theorem dX6_read_37 : decode cX6_read 37 = .ok (.astore 5, 2) := by decide +kernel
theorem dX6_read_39 : decode cX6_read 39 = .ok (.aload_n 0, 1) := by decide +kernel
theorem dX6_read_40 : decode cX6_read 40 = .ok (.getfield 10, 3) := by decide +kernel
theorem dX6_read_43 : decode cX6_read 43 = .ok (.getfield 104, 3) := by decide +kernel
theorem dX6_read_46 : decode cX6_read 46 = .ok (.istore 6, 2) := by decide +kernel
theorem dX6_read_48 : decode cX6_read 48 = .ok (.iconst 0, 1) := by decide +kernel
theorem dX6_read_49 : decode cX6_read 49 = .ok (.istore 7, 2) := by decide +kernel
theorem dX6_read_51 : decode cX6_read 51 = .ok (.iconst 0, 1) := by decide +kernel
theorem dX6_read_52 : decode cX6_read 52 = .ok (.istore 8, 2) := by decide +kernel
theorem dX6_read_54 : decode cX6_read 54 = .ok (.iconst 0, 1) := by decide +kernel
theorem dX6_read_55 : decode cX6_read 55 = .ok (.istore 9, 2) := by decide +kernel
theorem dX6_read_57 : decode cX6_read 57 = .ok (.iload 9, 2) := by decide +kernel
theorem dX6_read_59 : decode cX6_read 59 = .ok (.iload 4, 2) := by decide +kernel
theorem dX6_read_61 : decode cX6_read 61 = .ok (.if_icmp .ge 66, 3) := by decide +kernel
theorem dX6_read_64 : decode cX6_read 64 = .ok (.iload 7, 2) := by decide +kernel
theorem dX6_read_66 : decode cX6_read 66 = .ok (.ifCond .ne 61, 3) := by decide +kernel
theorem dX6_read_69 : decode cX6_read 69 = .ok (.aload 5, 2) := by decide +kernel
theorem dX6_read_71 : decode cX6_read 71 = .ok (.iload_n 2, 1) := by decide +kernel
theorem dX6_read_72 : decode cX6_read 72 = .ok (.iload_n 3, 1) := by decide +kernel
theorem dX6_read_73 : decode cX6_read 73 = .ok (.iload 9, 2) := by decide +kernel
theorem dX6_read_75 : decode cX6_read 75 = .ok (.iadd, 1) := by decide +kernel
theorem dX6_read_76 : decode cX6_read 76 = .ok (.invokevirtual 252, 3) := by decide +kernel
theorem dX6_read_79 : decode cX6_read 79 = .ok (.istore 7, 2) := by decide +kernel
theorem dX6_read_81 : decode cX6_read 81 = .ok (.iload 7, 2) := by decide +kernel
theorem dX6_read_83 : decode cX6_read 83 = .ok (.ifCond .ne 38, 3) := by decide +kernel
theorem dX6_read_86 : decode cX6_read 86 = .ok (.aload_n 0, 1) := by decide +kernel
theorem dX6_read_87 : decode cX6_read 87 = .ok (.aload 5, 2) := by decide +kernel
theorem dX6_read_89 : decode cX6_read 89 = .ok (.getfield 258, 3) := by decide +kernel
theorem dX6_read_92 : decode cX6_read 92 = .ok (.iload_n 3, 1) := by decide +kernel
theorem dX6_read_93 : decode cX6_read 93 = .ok (.iload 9, 2) := by decide +kernel
theorem dX6_read_95 : decode cX6_read 95 = .ok (.iadd, 1) := by decide +kernel
theorem dX6_read_96 : decode cX6_read 96 = .ok (.iaload, 1) := by decide +kernel
theorem dX6_read_97 : decode cX6_read 97 = .ok (.invokevirtual 261, 3) := by decide +kernel
theorem dX6_read_100 : decode cX6_read 100 = .ok (.ifCond .ge 18, 3) := by decide +kernel
theorem dX6_read_103 : decode cX6_read 103 = .ok (.aload_n 0, 1) := by decide +kernel
theorem dX6_read_104 : decode cX6_read 104 = .ok (.getfield 10, 3) := by decide +kernel
theorem dX6_read_107 : decode cX6_read 107 = .ok (.iload 6, 2) := by decide +kernel
theorem dX6_read_109 : decode cX6_read 109 = .ok (.putfield 104, 3) := by decide +kernel
theorem dX6_read_112 : decode cX6_read 112 = .ok (.bipush (-20), 2) := by decide +kernel
theorem dX6_read_114 : decode cX6_read 114 = .ok (.iload 9, 2) := by decide +kernel
theorem dX6_read_116 : decode cX6_read 116 = .ok (.isub, 1) := by decide +kernel
theorem dX6_read_117 : decode cX6_read 117 = .ok (.ireturn, 1) := by decide +kernel
theorem dX6_read_118 : decode cX6_read 118 = .ok (.iinc 8 1, 3) := by decide +kernel
theorem dX6_read_121 : decode cX6_read 121 = .ok (.iinc 9 1, 3) := by decide +kernel
theorem dX6_read_124 : decode cX6_read 124 = .ok (.goto (-67), 3) := by decide +kernel
theorem dX6_read_127 : decode cX6_read 127 = .ok (.aload_n 0, 1) := by decide +kernel
theorem dX6_read_128 : decode cX6_read 128 = .ok (.iload 7, 2) := by decide +kernel
theorem dX6_read_130 : decode cX6_read 130 = .ok (.putfield 264, 3) := by decide +kernel
theorem dX6_read_133 : decode cX6_read 133 = .ok (.iload 8, 2) := by decide +kernel
theorem dX6_read_135 : decode cX6_read 135 = .ok (.ireturn, 1) := by decide +kernel
theorem dX6_torn_0 : decode cX6_torn 0 = .ok (.aload_n 0, 1) := by decide +kernel
theorem dX6_torn_1 : decode cX6_torn 1 = .ok (.getfield 264, 3) := by decide +kernel
theorem dX6_torn_4 : decode cX6_torn 4 = .ok (.ireturn, 1) := by decide +kernel
theorem dX6_count_0 : decode cX6_count 0 = .ok (.iload_n 1, 1) := by decide +kernel
theorem dX6_count_1 : decode cX6_count 1 = .ok (.tableswitch 131 0 5 #[39, 50, 68, 76, 96, 104], 39) := by decide +kernel
theorem dX6_count_40 : decode cX6_count 40 = .ok (.aload_n 0, 1) := by decide +kernel
theorem dX6_count_41 : decode cX6_count 41 = .ok (.getfield 10, 3) := by decide +kernel
theorem dX6_count_44 : decode cX6_count 44 = .ok (.getfield 104, 3) := by decide +kernel
theorem dX6_count_47 : decode cX6_count 47 = .ok (.invokestatic 145, 3) := by decide +kernel
theorem dX6_count_50 : decode cX6_count 50 = .ok (.ireturn, 1) := by decide +kernel
theorem dX6_count_51 : decode cX6_count 51 = .ok (.aload_n 0, 1) := by decide +kernel
theorem dX6_count_52 : decode cX6_count 52 = .ok (.getfield 10, 3) := by decide +kernel
theorem dX6_count_55 : decode cX6_count 55 = .ok (.aload_n 0, 1) := by decide +kernel
theorem dX6_count_56 : decode cX6_count 56 = .ok (.getfield 10, 3) := by decide +kernel
theorem dX6_count_59 : decode cX6_count 59 = .ok (.getfield 104, 3) := by decide +kernel
theorem dX6_count_62 : decode cX6_count 62 = .ok (.invokevirtual 107, 3) := by decide +kernel
theorem dX6_count_65 : decode cX6_count 65 = .ok (.invokestatic 145, 3) := by decide +kernel
theorem dX6_count_68 : decode cX6_count 68 = .ok (.ireturn, 1) := by decide +kernel
theorem dX6_count_69 : decode cX6_count 69 = .ok (.aload_n 0, 1) := by decide +kernel
theorem dX6_count_70 : decode cX6_count 70 = .ok (.getfield 10, 3) := by decide +kernel
theorem dX6_count_73 : decode cX6_count 73 = .ok (.getfield 223, 3) := by decide +kernel
theorem dX6_count_76 : decode cX6_count 76 = .ok (.ireturn, 1) := by decide +kernel
theorem dX6_count_77 : decode cX6_count 77 = .ok (.aload_n 0, 1) := by decide +kernel
theorem dX6_count_78 : decode cX6_count 78 = .ok (.getfield 23, 3) := by decide +kernel
theorem dX6_count_81 : decode cX6_count 81 = .ok (.iconst 0, 1) := by decide +kernel
theorem dX6_count_82 : decode cX6_count 82 = .ok (.baload, 1) := by decide +kernel
theorem dX6_count_83 : decode cX6_count 83 = .ok (.invokestatic 178, 3) := by decide +kernel
theorem dX6_count_86 : decode cX6_count 86 = .ok (.aload_n 0, 1) := by decide +kernel
theorem dX6_count_87 : decode cX6_count 87 = .ok (.getfield 23, 3) := by decide +kernel
theorem dX6_count_90 : decode cX6_count 90 = .ok (.iconst 1, 1) := by decide +kernel
theorem dX6_count_91 : decode cX6_count 91 = .ok (.baload, 1) := by decide +kernel
theorem dX6_count_92 : decode cX6_count 92 = .ok (.invokestatic 178, 3) := by decide +kernel
theorem dX6_count_95 : decode cX6_count 95 = .ok (.iadd, 1) := by decide +kernel
theorem dX6_count_96 : decode cX6_count 96 = .ok (.ireturn, 1) := by decide +kernel
theorem dX6_count_97 : decode cX6_count 97 = .ok (.aload_n 0, 1) := by decide +kernel
theorem dX6_count_98 : decode cX6_count 98 = .ok (.getfield 30, 3) := by decide +kernel
theorem dX6_count_101 : decode cX6_count 101 = .ok (.getfield 74, 3) := by decide +kernel
theorem dX6_count_104 : decode cX6_count 104 = .ok (.ireturn, 1) := by decide +kernel
theorem dX6_count_105 : decode cX6_count 105 = .ok (.aload_n 0, 1) := by decide +kernel
theorem dX6_count_106 : decode cX6_count 106 = .ok (.getfield 36, 3) := by decide +kernel
theorem dX6_count_109 : decode cX6_count 109 = .ok (.iconst 0, 1) := by decide +kernel
theorem dX6_count_110 : decode cX6_count 110 = .ok (.aaload, 1) := by decide +kernel
theorem dX6_count_111 : decode cX6_count 111 = .ok (.invokevirtual 267, 3) := by decide +kernel
theorem dX6_count_114 : decode cX6_count 114 = .ok (.ifCond .eq 8, 3) := by decide +kernel
theorem dX6_count_117 : decode cX6_count 117 = .ok (.bipush (-4), 2) := by decide +kernel
theorem dX6_count_119 : decode cX6_count 119 = .ok (.goto 12, 3) := by decide +kernel
theorem dX6_count_122 : decode cX6_count 122 = .ok (.aload_n 0, 1) := by decide +kernel
theorem dX6_count_123 : decode cX6_count 123 = .ok (.getfield 36, 3) := by decide +kernel
theorem dX6_count_126 : decode cX6_count 126 = .ok (.iconst 0, 1) := by decide +kernel
theorem dX6_count_127 : decode cX6_count 127 = .ok (.aaload, 1) := by decide +kernel
theorem dX6_count_128 : decode cX6_count 128 = .ok (.getfield 271, 3) := by decide +kernel
theorem dX6_count_131 : decode cX6_count 131 = .ok (.ireturn, 1) := by decide +kernel
theorem dX6_count_132 : decode cX6_count 132 = .ok (.iconst (-1), 1) := by decide +kernel
theorem dX6_count_133 : decode cX6_count 133 = .ok (.ireturn, 1) := by decide +kernel
theorem dX6_within_0 : decode cX6_within 0 = .ok (.iload_n 0, 1) := by decide +kernel
theorem dX6_within_1 : decode cX6_within 1 = .ok (.iload_n 1, 1) := by decide +kernel
theorem dX6_within_2 : decode cX6_within 2 = .ok (.if_icmp .lt 12, 3) := by decide +kernel
theorem dX6_within_5 : decode cX6_within 5 = .ok (.iload_n 0, 1) := by decide +kernel
theorem dX6_within_6 : decode cX6_within 6 = .ok (.iload_n 2, 1) := by decide +kernel
theorem dX6_within_7 : decode cX6_within 7 = .ok (.if_icmp .gt 7, 3) := by decide +kernel
theorem dX6_within_10 : decode cX6_within 10 = .ok (.iconst 1, 1) := by decide +kernel
theorem dX6_within_11 : decode cX6_within 11 = .ok (.goto 4, 3) := by decide +kernel
theorem dX6_within_14 : decode cX6_within 14 = .ok (.iconst 0, 1) := by decide +kernel
theorem dX6_within_15 : decode cX6_within 15 = .ok (.ireturn, 1) := by decide +kernel
theorem dX6_oneIf_0 : decode cX6_oneIf 0 = .ok (.iload_n 0, 1) := by decide +kernel
theorem dX6_oneIf_1 : decode cX6_oneIf 1 = .ok (.ifCond .eq 7, 3) := by decide +kernel
theorem dX6_oneIf_4 : decode cX6_oneIf 4 = .ok (.iconst 1, 1) := by decide +kernel
theorem dX6_oneIf_5 : decode cX6_oneIf 5 = .ok (.goto 4, 3) := by decide +kernel
theorem dX6_oneIf_8 : decode cX6_oneIf 8 = .ok (.iconst 0, 1) := by decide +kernel
theorem dX6_oneIf_9 : decode cX6_oneIf 9 = .ok (.ireturn, 1) := by decide +kernel
theorem dX6_bind_0 : decode cX6_bind 0 = .ok (.iload_n 3, 1) := by decide +kernel
theorem dX6_bind_1 : decode cX6_bind 1 = .ok (.iconst 0, 1) := by decide +kernel
theorem dX6_bind_2 : decode cX6_bind 2 = .ok (.iload_n 2, 1) := by decide +kernel
theorem dX6_bind_3 : decode cX6_bind 3 = .ok (.iconst 1, 1) := by decide +kernel
theorem dX6_bind_4 : decode cX6_bind 4 = .ok (.isub, 1) := by decide +kernel
theorem dX6_bind_5 : decode cX6_bind 5 = .ok (.invokestatic 66, 3) := by decide +kernel
theorem dX6_bind_8 : decode cX6_bind 8 = .ok (.ifCond .ne 5, 3) := by decide +kernel
theorem dX6_bind_11 : decode cX6_bind 11 = .ok (.iconst (-1), 1) := by decide +kernel
theorem dX6_bind_12 : decode cX6_bind 12 = .ok (.ireturn, 1) := by decide +kernel
theorem dX6_bind_13 : decode cX6_bind 13 = .ok (.iconst 1, 1) := by decide +kernel
theorem dX6_bind_14 : decode cX6_bind 14 = .ok (.iload_n 3, 1) := by decide +kernel
theorem dX6_bind_15 : decode cX6_bind 15 = .ok (.ishl, 1) := by decide +kernel
theorem dX6_bind_16 : decode cX6_bind 16 = .ok (.istore 5, 2) := by decide +kernel
theorem dX6_bind_18 : decode cX6_bind 18 = .ok (.iload 4, 2) := by decide +kernel
theorem dX6_bind_20 : decode cX6_bind 20 = .ok (.ifCond .eq 15, 3) := by decide +kernel
theorem dX6_bind_23 : decode cX6_bind 23 = .ok (.aload_n 1, 1) := by decide +kernel
theorem dX6_bind_24 : decode cX6_bind 24 = .ok (.iload_n 2, 1) := by decide +kernel
theorem dX6_bind_25 : decode cX6_bind 25 = .ok (.iaload, 1) := by decide +kernel
theorem dX6_bind_26 : decode cX6_bind 26 = .ok (.iload 5, 2) := by decide +kernel
theorem dX6_bind_28 : decode cX6_bind 28 = .ok (.iand, 1) := by decide +kernel
theorem dX6_bind_29 : decode cX6_bind 29 = .ok (.ifCond .eq 6, 3) := by decide +kernel
theorem dX6_bind_32 : decode cX6_bind 32 = .ok (.bipush (-2), 2) := by decide +kernel
theorem dX6_bind_34 : decode cX6_bind 34 = .ok (.ireturn, 1) := by decide +kernel
theorem dX6_bind_35 : decode cX6_bind 35 = .ok (.aload_n 0, 1) := by decide +kernel
theorem dX6_bind_36 : decode cX6_bind 36 = .ok (.iload_n 2, 1) := by decide +kernel
theorem dX6_bind_37 : decode cX6_bind 37 = .ok (.iaload, 1) := by decide +kernel
theorem dX6_bind_38 : decode cX6_bind 38 = .ok (.iload_n 3, 1) := by decide +kernel
theorem dX6_bind_39 : decode cX6_bind 39 = .ok (.ishr, 1) := by decide +kernel
theorem dX6_bind_40 : decode cX6_bind 40 = .ok (.iconst 1, 1) := by decide +kernel
theorem dX6_bind_41 : decode cX6_bind 41 = .ok (.iand, 1) := by decide +kernel
theorem dX6_bind_42 : decode cX6_bind 42 = .ok (.istore 6, 2) := by decide +kernel
theorem dX6_bind_44 : decode cX6_bind 44 = .ok (.aload_n 0, 1) := by decide +kernel
theorem dX6_bind_45 : decode cX6_bind 45 = .ok (.iload_n 2, 1) := by decide +kernel
theorem dX6_bind_46 : decode cX6_bind 46 = .ok (.iload 4, 2) := by decide +kernel
theorem dX6_bind_48 : decode cX6_bind 48 = .ok (.ifCond .eq 12, 3) := by decide +kernel
theorem dX6_bind_51 : decode cX6_bind 51 = .ok (.aload_n 0, 1) := by decide +kernel
theorem dX6_bind_52 : decode cX6_bind 52 = .ok (.iload_n 2, 1) := by decide +kernel
theorem dX6_bind_53 : decode cX6_bind 53 = .ok (.iaload, 1) := by decide +kernel
theorem dX6_bind_54 : decode cX6_bind 54 = .ok (.iload 5, 2) := by decide +kernel
theorem dX6_bind_56 : decode cX6_bind 56 = .ok (.ior, 1) := by decide +kernel
theorem dX6_bind_57 : decode cX6_bind 57 = .ok (.goto 11, 3) := by decide +kernel
theorem dX6_bind_60 : decode cX6_bind 60 = .ok (.aload_n 0, 1) := by decide +kernel
theorem dX6_bind_61 : decode cX6_bind 61 = .ok (.iload_n 2, 1) := by decide +kernel
theorem dX6_bind_62 : decode cX6_bind 62 = .ok (.iaload, 1) := by decide +kernel
theorem dX6_bind_63 : decode cX6_bind 63 = .ok (.iload 5, 2) := by decide +kernel
theorem dX6_bind_65 : decode cX6_bind 65 = .ok (.iconst (-1), 1) := by decide +kernel
theorem dX6_bind_66 : decode cX6_bind 66 = .ok (.ixor, 1) := by decide +kernel
theorem dX6_bind_67 : decode cX6_bind 67 = .ok (.iand, 1) := by decide +kernel
theorem dX6_bind_68 : decode cX6_bind 68 = .ok (.iastore, 1) := by decide +kernel
theorem dX6_bind_69 : decode cX6_bind 69 = .ok (.iload 6, 2) := by decide +kernel
theorem dX6_bind_71 : decode cX6_bind 71 = .ok (.ireturn, 1) := by decide +kernel
theorem dX6_fewestMore_0 : decode cX6_fewestMore 0 = .ok (.aload_n 0, 1) := by decide +kernel
theorem dX6_fewestMore_1 : decode cX6_fewestMore 1 = .ok (.getfield 10, 3) := by decide +kernel
theorem dX6_fewestMore_4 : decode cX6_fewestMore 4 = .ok (.getfield 95, 3) := by decide +kernel
theorem dX6_fewestMore_7 : decode cX6_fewestMore 7 = .ok (.ifCond .ne 6, 3) := by decide +kernel
theorem dX6_fewestMore_10 : decode cX6_fewestMore 10 = .ok (.bipush (-4), 2) := by decide +kernel
theorem dX6_fewestMore_12 : decode cX6_fewestMore 12 = .ok (.ireturn, 1) := by decide +kernel
theorem dX6_fewestMore_13 : decode cX6_fewestMore 13 = .ok (.bipush 9, 2) := by decide +kernel
theorem dX6_fewestMore_15 : decode cX6_fewestMore 15 = .ok (.istore_n 3, 1) := by decide +kernel
theorem dX6_fewestMore_16 : decode cX6_fewestMore 16 = .ok (.iconst 0, 1) := by decide +kernel
theorem dX6_fewestMore_17 : decode cX6_fewestMore 17 = .ok (.istore 4, 2) := by decide +kernel
theorem dX6_fewestMore_19 : decode cX6_fewestMore 19 = .ok (.iconst 0, 1) := by decide +kernel
theorem dX6_fewestMore_20 : decode cX6_fewestMore 20 = .ok (.istore 5, 2) := by decide +kernel
theorem dX6_fewestMore_22 : decode cX6_fewestMore 22 = .ok (.iload 5, 2) := by decide +kernel
theorem dX6_fewestMore_24 : decode cX6_fewestMore 24 = .ok (.iconst 1, 1) := by decide +kernel
theorem dX6_fewestMore_25 : decode cX6_fewestMore 25 = .ok (.aload_n 0, 1) := by decide +kernel
theorem dX6_fewestMore_26 : decode cX6_fewestMore 26 = .ok (.getfield 10, 3) := by decide +kernel
theorem dX6_fewestMore_29 : decode cX6_fewestMore 29 = .ok (.getfield 95, 3) := by decide +kernel
theorem dX6_fewestMore_32 : decode cX6_fewestMore 32 = .ok (.ishl, 1) := by decide +kernel
theorem dX6_fewestMore_33 : decode cX6_fewestMore 33 = .ok (.if_icmp .ge 63, 3) := by decide +kernel
theorem dX6_fewestMore_36 : decode cX6_fewestMore 36 = .ok (.iload 5, 2) := by decide +kernel
theorem dX6_fewestMore_38 : decode cX6_fewestMore 38 = .ok (.invokestatic 145, 3) := by decide +kernel
theorem dX6_fewestMore_41 : decode cX6_fewestMore 41 = .ok (.istore 6, 2) := by decide +kernel
theorem dX6_fewestMore_43 : decode cX6_fewestMore 43 = .ok (.iload 5, 2) := by decide +kernel
theorem dX6_fewestMore_45 : decode cX6_fewestMore 45 = .ok (.aload_n 0, 1) := by decide +kernel
theorem dX6_fewestMore_46 : decode cX6_fewestMore 46 = .ok (.getfield 10, 3) := by decide +kernel
theorem dX6_fewestMore_49 : decode cX6_fewestMore 49 = .ok (.getfield 104, 3) := by decide +kernel
theorem dX6_fewestMore_52 : decode cX6_fewestMore 52 = .ok (.iand, 1) := by decide +kernel
theorem dX6_fewestMore_53 : decode cX6_fewestMore 53 = .ok (.ifCond .ne 37, 3) := by decide +kernel
theorem dX6_fewestMore_56 : decode cX6_fewestMore 56 = .ok (.iload 6, 2) := by decide +kernel
theorem dX6_fewestMore_58 : decode cX6_fewestMore 58 = .ok (.iload_n 3, 1) := by decide +kernel
theorem dX6_fewestMore_59 : decode cX6_fewestMore 59 = .ok (.if_icmp .ge 31, 3) := by decide +kernel
theorem dX6_fewestMore_62 : decode cX6_fewestMore 62 = .ok (.aload_n 0, 1) := by decide +kernel
theorem dX6_fewestMore_63 : decode cX6_fewestMore 63 = .ok (.getfield 10, 3) := by decide +kernel
theorem dX6_fewestMore_66 : decode cX6_fewestMore 66 = .ok (.aload_n 0, 1) := by decide +kernel
theorem dX6_fewestMore_67 : decode cX6_fewestMore 67 = .ok (.getfield 10, 3) := by decide +kernel
theorem dX6_fewestMore_70 : decode cX6_fewestMore 70 = .ok (.getfield 104, 3) := by decide +kernel
theorem dX6_fewestMore_73 : decode cX6_fewestMore 73 = .ok (.iload 5, 2) := by decide +kernel
theorem dX6_fewestMore_75 : decode cX6_fewestMore 75 = .ok (.ior, 1) := by decide +kernel
theorem dX6_fewestMore_76 : decode cX6_fewestMore 76 = .ok (.invokevirtual 175, 3) := by decide +kernel
theorem dX6_fewestMore_79 : decode cX6_fewestMore 79 = .ok (.iload_n 1, 1) := by decide +kernel
theorem dX6_fewestMore_80 : decode cX6_fewestMore 80 = .ok (.if_icmp .ne 10, 3) := by decide +kernel
theorem dX6_fewestMore_83 : decode cX6_fewestMore 83 = .ok (.iload 6, 2) := by decide +kernel
theorem dX6_fewestMore_85 : decode cX6_fewestMore 85 = .ok (.istore_n 3, 1) := by decide +kernel
theorem dX6_fewestMore_86 : decode cX6_fewestMore 86 = .ok (.iload 5, 2) := by decide +kernel
theorem dX6_fewestMore_88 : decode cX6_fewestMore 88 = .ok (.istore 4, 2) := by decide +kernel
theorem dX6_fewestMore_90 : decode cX6_fewestMore 90 = .ok (.iinc 5 1, 3) := by decide +kernel
theorem dX6_fewestMore_93 : decode cX6_fewestMore 93 = .ok (.goto (-71), 3) := by decide +kernel
theorem dX6_fewestMore_96 : decode cX6_fewestMore 96 = .ok (.iload_n 3, 1) := by decide +kernel
theorem dX6_fewestMore_97 : decode cX6_fewestMore 97 = .ok (.bipush 8, 2) := by decide +kernel
theorem dX6_fewestMore_99 : decode cX6_fewestMore 99 = .ok (.if_icmp .le 6, 3) := by decide +kernel
theorem dX6_fewestMore_102 : decode cX6_fewestMore 102 = .ok (.bipush (-4), 2) := by decide +kernel
theorem dX6_fewestMore_104 : decode cX6_fewestMore 104 = .ok (.ireturn, 1) := by decide +kernel
theorem dX6_fewestMore_105 : decode cX6_fewestMore 105 = .ok (.iload_n 2, 1) := by decide +kernel
theorem dX6_fewestMore_106 : decode cX6_fewestMore 106 = .ok (.ifCond .ne 7, 3) := by decide +kernel
theorem dX6_fewestMore_109 : decode cX6_fewestMore 109 = .ok (.iload_n 3, 1) := by decide +kernel
theorem dX6_fewestMore_110 : decode cX6_fewestMore 110 = .ok (.goto 5, 3) := by decide +kernel
theorem dX6_fewestMore_113 : decode cX6_fewestMore 113 = .ok (.iload 4, 2) := by decide +kernel
theorem dX6_fewestMore_115 : decode cX6_fewestMore 115 = .ok (.ireturn, 1) := by decide +kernel
theorem dX6_weight_0 : decode cX6_weight 0 = .ok (.lconst 1, 1) := by decide +kernel
theorem dX6_weight_1 : decode cX6_weight 1 = .ok (.lstore_n 3, 1) := by decide +kernel
theorem dX6_weight_2 : decode cX6_weight 2 = .ok (.iconst 0, 1) := by decide +kernel
theorem dX6_weight_3 : decode cX6_weight 3 = .ok (.istore 5, 2) := by decide +kernel
theorem dX6_weight_5 : decode cX6_weight 5 = .ok (.iload 5, 2) := by decide +kernel
theorem dX6_weight_7 : decode cX6_weight 7 = .ok (.aload_n 0, 1) := by decide +kernel
theorem dX6_weight_8 : decode cX6_weight 8 = .ok (.getfield 10, 3) := by decide +kernel
theorem dX6_weight_11 : decode cX6_weight 11 = .ok (.getfield 111, 3) := by decide +kernel
theorem dX6_weight_14 : decode cX6_weight 14 = .ok (.if_icmp .ge 32, 3) := by decide +kernel
theorem dX6_weight_17 : decode cX6_weight 17 = .ok (.lload_n 3, 1) := by decide +kernel
theorem dX6_weight_18 : decode cX6_weight 18 = .ok (.iload_n 1, 1) := by decide +kernel
theorem dX6_weight_19 : decode cX6_weight 19 = .ok (.iload 5, 2) := by decide +kernel
theorem dX6_weight_21 : decode cX6_weight 21 = .ok (.ishr, 1) := by decide +kernel
theorem dX6_weight_22 : decode cX6_weight 22 = .ok (.iconst 1, 1) := by decide +kernel
theorem dX6_weight_23 : decode cX6_weight 23 = .ok (.iand, 1) := by decide +kernel
theorem dX6_weight_24 : decode cX6_weight 24 = .ok (.iconst 1, 1) := by decide +kernel
theorem dX6_weight_25 : decode cX6_weight 25 = .ok (.if_icmp .ne 8, 3) := by decide +kernel
theorem dX6_weight_28 : decode cX6_weight 28 = .ok (.iload_n 2, 1) := by decide +kernel
theorem dX6_weight_29 : decode cX6_weight 29 = .ok (.i2l, 1) := by decide +kernel
theorem dX6_weight_30 : decode cX6_weight 30 = .ok (.goto 8, 3) := by decide +kernel
theorem dX6_weight_33 : decode cX6_weight 33 = .ok (.bipush 10, 2) := by decide +kernel
theorem dX6_weight_35 : decode cX6_weight 35 = .ok (.iload_n 2, 1) := by decide +kernel
theorem dX6_weight_36 : decode cX6_weight 36 = .ok (.isub, 1) := by decide +kernel
theorem dX6_weight_37 : decode cX6_weight 37 = .ok (.i2l, 1) := by decide +kernel
theorem dX6_weight_38 : decode cX6_weight 38 = .ok (.lmul, 1) := by decide +kernel
theorem dX6_weight_39 : decode cX6_weight 39 = .ok (.lstore_n 3, 1) := by decide +kernel
theorem dX6_weight_40 : decode cX6_weight 40 = .ok (.iinc 5 1, 3) := by decide +kernel
theorem dX6_weight_43 : decode cX6_weight 43 = .ok (.goto (-38), 3) := by decide +kernel
theorem dX6_weight_46 : decode cX6_weight 46 = .ok (.lload_n 3, 1) := by decide +kernel
theorem dX6_weight_47 : decode cX6_weight 47 = .ok (.lreturn, 1) := by decide +kernel
theorem dX6_orders_0 : decode cX6_orders 0 = .ok (.iload_n 1, 1) := by decide +kernel
theorem dX6_orders_1 : decode cX6_orders 1 = .ok (.invokestatic 216, 3) := by decide +kernel
theorem dX6_orders_4 : decode cX6_orders 4 = .ok (.aload_n 0, 1) := by decide +kernel
theorem dX6_orders_5 : decode cX6_orders 5 = .ok (.getfield 10, 3) := by decide +kernel
theorem dX6_orders_8 : decode cX6_orders 8 = .ok (.getfield 95, 3) := by decide +kernel
theorem dX6_orders_11 : decode cX6_orders 11 = .ok (.iconst 1, 1) := by decide +kernel
theorem dX6_orders_12 : decode cX6_orders 12 = .ok (.isub, 1) := by decide +kernel
theorem dX6_orders_13 : decode cX6_orders 13 = .ok (.iload_n 1, 1) := by decide +kernel
theorem dX6_orders_14 : decode cX6_orders 14 = .ok (.isub, 1) := by decide +kernel
theorem dX6_orders_15 : decode cX6_orders 15 = .ok (.invokestatic 216, 3) := by decide +kernel
theorem dX6_orders_18 : decode cX6_orders 18 = .ok (.lmul, 1) := by decide +kernel
theorem dX6_orders_19 : decode cX6_orders 19 = .ok (.lreturn, 1) := by decide +kernel
theorem dX6_factorial_0 : decode cX6_factorial 0 = .ok (.iload_n 0, 1) := by decide +kernel
theorem dX6_factorial_1 : decode cX6_factorial 1 = .ok (.iconst 0, 1) := by decide +kernel
theorem dX6_factorial_2 : decode cX6_factorial 2 = .ok (.bipush 8, 2) := by decide +kernel
theorem dX6_factorial_4 : decode cX6_factorial 4 = .ok (.invokestatic 66, 3) := by decide +kernel
theorem dX6_factorial_7 : decode cX6_factorial 7 = .ok (.ifCond .eq 12, 3) := by decide +kernel
theorem dX6_factorial_10 : decode cX6_factorial 10 = .ok (.getstatic 274, 3) := by decide +kernel
theorem dX6_factorial_13 : decode cX6_factorial 13 = .ok (.iload_n 0, 1) := by decide +kernel
theorem dX6_factorial_14 : decode cX6_factorial 14 = .ok (.iaload, 1) := by decide +kernel
theorem dX6_factorial_15 : decode cX6_factorial 15 = .ok (.i2l, 1) := by decide +kernel
theorem dX6_factorial_16 : decode cX6_factorial 16 = .ok (.goto 4, 3) := by decide +kernel
theorem dX6_factorial_19 : decode cX6_factorial 19 = .ok (.lconst 0, 1) := by decide +kernel
theorem dX6_factorial_20 : decode cX6_factorial 20 = .ok (.lreturn, 1) := by decide +kernel
theorem dX6_lowest_0 : decode cX6_lowest 0 = .ok (.lload_n 0, 1) := by decide +kernel
theorem dX6_lowest_1 : decode cX6_lowest 1 = .ok (.invokestatic 277, 3) := by decide +kernel
theorem dX6_lowest_4 : decode cX6_lowest 4 = .ok (.lstore 5, 2) := by decide +kernel
theorem dX6_lowest_6 : decode cX6_lowest 6 = .ok (.lload_n 2, 1) := by decide +kernel
theorem dX6_lowest_7 : decode cX6_lowest 7 = .ok (.lstore 7, 2) := by decide +kernel
theorem dX6_lowest_9 : decode cX6_lowest 9 = .ok (.iconst 0, 1) := by decide +kernel
theorem dX6_lowest_10 : decode cX6_lowest 10 = .ok (.istore 9, 2) := by decide +kernel
theorem dX6_lowest_12 : decode cX6_lowest 12 = .ok (.iload 9, 2) := by decide +kernel
theorem dX6_lowest_14 : decode cX6_lowest 14 = .ok (.sipush 1000, 3) := by decide +kernel
theorem dX6_lowest_17 : decode cX6_lowest 17 = .ok (.if_icmp .ge 31, 3) := by decide +kernel
theorem dX6_lowest_20 : decode cX6_lowest 20 = .ok (.lload 5, 2) := by decide +kernel
theorem dX6_lowest_22 : decode cX6_lowest 22 = .ok (.lconst 0, 1) := by decide +kernel
theorem dX6_lowest_23 : decode cX6_lowest 23 = .ok (.lcmp, 1) := by decide +kernel
theorem dX6_lowest_24 : decode cX6_lowest 24 = .ok (.ifCond .eq 24, 3) := by decide +kernel
theorem dX6_lowest_27 : decode cX6_lowest 27 = .ok (.lload 7, 2) := by decide +kernel
theorem dX6_lowest_29 : decode cX6_lowest 29 = .ok (.lload 5, 2) := by decide +kernel
theorem dX6_lowest_31 : decode cX6_lowest 31 = .ok (.lrem, 1) := by decide +kernel
theorem dX6_lowest_32 : decode cX6_lowest 32 = .ok (.lstore 10, 2) := by decide +kernel
theorem dX6_lowest_34 : decode cX6_lowest 34 = .ok (.lload 5, 2) := by decide +kernel
theorem dX6_lowest_36 : decode cX6_lowest 36 = .ok (.lstore 7, 2) := by decide +kernel
theorem dX6_lowest_38 : decode cX6_lowest 38 = .ok (.lload 10, 2) := by decide +kernel
theorem dX6_lowest_40 : decode cX6_lowest 40 = .ok (.lstore 5, 2) := by decide +kernel
theorem dX6_lowest_42 : decode cX6_lowest 42 = .ok (.iinc 9 1, 3) := by decide +kernel
theorem dX6_lowest_45 : decode cX6_lowest 45 = .ok (.goto (-33), 3) := by decide +kernel
theorem dX6_lowest_48 : decode cX6_lowest 48 = .ok (.lload 7, 2) := by decide +kernel
theorem dX6_lowest_50 : decode cX6_lowest 50 = .ok (.lconst 0, 1) := by decide +kernel
theorem dX6_lowest_51 : decode cX6_lowest 51 = .ok (.lcmp, 1) := by decide +kernel
theorem dX6_lowest_52 : decode cX6_lowest 52 = .ok (.ifCond .ne 5, 3) := by decide +kernel
theorem dX6_lowest_55 : decode cX6_lowest 55 = .ok (.lconst 0, 1) := by decide +kernel
theorem dX6_lowest_56 : decode cX6_lowest 56 = .ok (.lreturn, 1) := by decide +kernel
theorem dX6_lowest_57 : decode cX6_lowest 57 = .ok (.iload 4, 2) := by decide +kernel
theorem dX6_lowest_59 : decode cX6_lowest 59 = .ok (.ifCond .ne 7, 3) := by decide +kernel
theorem dX6_lowest_62 : decode cX6_lowest 62 = .ok (.lload_n 0, 1) := by decide +kernel
theorem dX6_lowest_63 : decode cX6_lowest 63 = .ok (.goto 4, 3) := by decide +kernel
theorem dX6_lowest_66 : decode cX6_lowest 66 = .ok (.lload_n 2, 1) := by decide +kernel
theorem dX6_lowest_67 : decode cX6_lowest 67 = .ok (.lload 7, 2) := by decide +kernel
theorem dX6_lowest_69 : decode cX6_lowest 69 = .ok (.ldiv, 1) := by decide +kernel
theorem dX6_lowest_70 : decode cX6_lowest 70 = .ok (.lreturn, 1) := by decide +kernel
theorem dX7_init_0 : decode cX7_init 0 = .ok (.aload_n 0, 1) := by decide +kernel
theorem dX7_init_1 : decode cX7_init 1 = .ok (.invokespecial 1, 3) := by decide +kernel
theorem dX7_init_4 : decode cX7_init 4 = .ok (.aload_n 0, 1) := by decide +kernel
theorem dX7_init_5 : decode cX7_init 5 = .ok (.sipush 141, 3) := by decide +kernel
theorem dX7_init_8 : decode cX7_init 8 = .ok (.newarray .int, 2) := by decide +kernel
theorem dX7_init_10 : decode cX7_init 10 = .ok (.putfield 7, 3) := by decide +kernel
theorem dX7_init_13 : decode cX7_init 13 = .ok (.aload_n 0, 1) := by decide +kernel
theorem dX7_init_14 : decode cX7_init 14 = .ok (.iconst 2, 1) := by decide +kernel
theorem dX7_init_15 : decode cX7_init 15 = .ok (.newarray .boolean, 2) := by decide +kernel
theorem dX7_init_17 : decode cX7_init 17 = .ok (.putfield 13, 3) := by decide +kernel
theorem dX7_init_20 : decode cX7_init 20 = .ok (.aload_n 0, 1) := by decide +kernel
theorem dX7_init_21 : decode cX7_init 21 = .ok (.bipush 8, 2) := by decide +kernel
theorem dX7_init_23 : decode cX7_init 23 = .ok (.newarray .int, 2) := by decide +kernel
theorem dX7_init_25 : decode cX7_init 25 = .ok (.putfield 17, 3) := by decide +kernel
theorem dX7_init_28 : decode cX7_init 28 = .ok (.aload_n 0, 1) := by decide +kernel
theorem dX7_init_29 : decode cX7_init 29 = .ok (.bipush 8, 2) := by decide +kernel
theorem dX7_init_31 : decode cX7_init 31 = .ok (.newarray .int, 2) := by decide +kernel
theorem dX7_init_33 : decode cX7_init 33 = .ok (.putfield 20, 3) := by decide +kernel
theorem dX7_init_36 : decode cX7_init 36 = .ok (.aload_n 0, 1) := by decide +kernel
theorem dX7_init_37 : decode cX7_init 37 = .ok (.bipush 8, 2) := by decide +kernel
theorem dX7_init_39 : decode cX7_init 39 = .ok (.newarray .int, 2) := by decide +kernel
theorem dX7_init_41 : decode cX7_init 41 = .ok (.putfield 23, 3) := by decide +kernel
theorem dX7_init_44 : decode cX7_init 44 = .ok (.aload_n 0, 1) := by decide +kernel
theorem dX7_init_45 : decode cX7_init 45 = .ok (.bipush 47, 2) := by decide +kernel
theorem dX7_init_47 : decode cX7_init 47 = .ok (.newarray .int, 2) := by decide +kernel
theorem dX7_init_49 : decode cX7_init 49 = .ok (.putfield 26, 3) := by decide +kernel
theorem dX7_init_52 : decode cX7_init 52 = .ok (.aload_n 0, 1) := by decide +kernel
theorem dX7_init_53 : decode cX7_init 53 = .ok (.bipush 8, 2) := by decide +kernel
theorem dX7_init_55 : decode cX7_init 55 = .ok (.newarray .int, 2) := by decide +kernel
theorem dX7_init_57 : decode cX7_init 57 = .ok (.putfield 29, 3) := by decide +kernel
theorem dX7_init_60 : decode cX7_init 60 = .ok (.aload_n 0, 1) := by decide +kernel
theorem dX7_init_61 : decode cX7_init 61 = .ok (.bipush 8, 2) := by decide +kernel
theorem dX7_init_63 : decode cX7_init 63 = .ok (.newarray .int, 2) := by decide +kernel
theorem dX7_init_65 : decode cX7_init 65 = .ok (.putfield 32, 3) := by decide +kernel
theorem dX7_init_68 : decode cX7_init 68 = .ok (.aload_n 0, 1) := by decide +kernel
theorem dX7_init_69 : decode cX7_init 69 = .ok (.bipush 8, 2) := by decide +kernel
theorem dX7_init_71 : decode cX7_init 71 = .ok (.newarray .int, 2) := by decide +kernel
theorem dX7_init_73 : decode cX7_init 73 = .ok (.putfield 35, 3) := by decide +kernel
theorem dX7_init_76 : decode cX7_init 76 = .ok (.aload_n 0, 1) := by decide +kernel
theorem dX7_init_77 : decode cX7_init 77 = .ok (.sipush 160, 3) := by decide +kernel
theorem dX7_init_80 : decode cX7_init 80 = .ok (.newarray .int, 2) := by decide +kernel
theorem dX7_init_82 : decode cX7_init 82 = .ok (.putfield 38, 3) := by decide +kernel
theorem dX7_init_85 : decode cX7_init 85 = .ok (.aload_n 0, 1) := by decide +kernel
theorem dX7_init_86 : decode cX7_init 86 = .ok (.bipush 8, 2) := by decide +kernel
theorem dX7_init_88 : decode cX7_init 88 = .ok (.newarray .int, 2) := by decide +kernel
theorem dX7_init_90 : decode cX7_init 90 = .ok (.putfield 41, 3) := by decide +kernel
theorem dX7_init_93 : decode cX7_init 93 = .ok (.aload_n 0, 1) := by decide +kernel
theorem dX7_init_94 : decode cX7_init 94 = .ok (.sipush 2816, 3) := by decide +kernel
theorem dX7_init_97 : decode cX7_init 97 = .ok (.newarray .boolean, 2) := by decide +kernel
theorem dX7_init_99 : decode cX7_init 99 = .ok (.putfield 44, 3) := by decide +kernel
theorem dX7_init_102 : decode cX7_init 102 = .ok (.aload_n 0, 1) := by decide +kernel
theorem dX7_init_103 : decode cX7_init 103 = .ok (.iconst 4, 1) := by decide +kernel
theorem dX7_init_104 : decode cX7_init 104 = .ok (.newarray .int, 2) := by decide +kernel
theorem dX7_init_106 : decode cX7_init 106 = .ok (.putfield 47, 3) := by decide +kernel
theorem dX7_init_109 : decode cX7_init 109 = .ok (.aload_n 0, 1) := by decide +kernel
theorem dX7_init_110 : decode cX7_init 110 = .ok (.iconst 4, 1) := by decide +kernel
theorem dX7_init_111 : decode cX7_init 111 = .ok (.newarray .int, 2) := by decide +kernel
theorem dX7_init_113 : decode cX7_init 113 = .ok (.putfield 50, 3) := by decide +kernel
theorem dX7_init_116 : decode cX7_init 116 = .ok (.aload_n 0, 1) := by decide +kernel
theorem dX7_init_117 : decode cX7_init 117 = .ok (.sipush 160, 3) := by decide +kernel
theorem dX7_init_120 : decode cX7_init 120 = .ok (.newarray .int, 2) := by decide +kernel
theorem dX7_init_122 : decode cX7_init 122 = .ok (.putfield 53, 3) := by decide +kernel
theorem dX7_init_125 : decode cX7_init 125 = .ok (.iconst 0, 1) := by decide +kernel
theorem dX7_init_126 : decode cX7_init 126 = .ok (.istore_n 1, 1) := by decide +kernel
theorem dX7_init_127 : decode cX7_init 127 = .ok (.iload_n 1, 1) := by decide +kernel
theorem dX7_init_128 : decode cX7_init 128 = .ok (.iconst 4, 1) := by decide +kernel
theorem dX7_init_129 : decode cX7_init 129 = .ok (.if_icmp .ge 17, 3) := by decide +kernel
theorem dX7_init_132 : decode cX7_init 132 = .ok (.aload_n 0, 1) := by decide +kernel
theorem dX7_init_133 : decode cX7_init 133 = .ok (.getfield 47, 3) := by decide +kernel
theorem dX7_init_136 : decode cX7_init 136 = .ok (.iload_n 1, 1) := by decide +kernel
theorem dX7_init_137 : decode cX7_init 137 = .ok (.bipush (-4), 2) := by decide +kernel
theorem dX7_init_139 : decode cX7_init 139 = .ok (.iastore, 1) := by decide +kernel
theorem dX7_init_140 : decode cX7_init 140 = .ok (.iinc 1 1, 3) := by decide +kernel
theorem dX7_init_143 : decode cX7_init 143 = .ok (.goto (-16), 3) := by decide +kernel
theorem dX7_init_146 : decode cX7_init 146 = .ok (.aload_n 0, 1) := by decide +kernel
theorem dX7_init_147 : decode cX7_init 147 = .ok (.invokevirtual 56, 3) := by decide +kernel
theorem dX7_init_150 : decode cX7_init 150 = .ok (.aload_n 0, 1) := by decide +kernel
theorem dX7_init_151 : decode cX7_init 151 = .ok (.invokevirtual 59, 3) := by decide +kernel
theorem dX7_init_154 : decode cX7_init 154 = .ok (.return_, 1) := by decide +kernel
theorem dX7_in_0 : decode cX7_in 0 = .ok (.lload_n 0, 1) := by decide +kernel
theorem dX7_in_1 : decode cX7_in 1 = .ok (.lload_n 2, 1) := by decide +kernel
theorem dX7_in_2 : decode cX7_in 2 = .ok (.lcmp, 1) := by decide +kernel
theorem dX7_in_3 : decode cX7_in 3 = .ok (.ifCond .lt 14, 3) := by decide +kernel
theorem dX7_in_6 : decode cX7_in 6 = .ok (.lload_n 0, 1) := by decide +kernel
theorem dX7_in_7 : decode cX7_in 7 = .ok (.lload 4, 2) := by decide +kernel
theorem dX7_in_9 : decode cX7_in 9 = .ok (.lcmp, 1) := by decide +kernel
theorem dX7_in_10 : decode cX7_in 10 = .ok (.ifCond .gt 7, 3) := by decide +kernel
theorem dX7_in_13 : decode cX7_in 13 = .ok (.iconst 1, 1) := by decide +kernel
theorem dX7_in_14 : decode cX7_in 14 = .ok (.goto 4, 3) := by decide +kernel
theorem dX7_in_17 : decode cX7_in 17 = .ok (.iconst 0, 1) := by decide +kernel
theorem dX7_in_18 : decode cX7_in 18 = .ok (.ireturn, 1) := by decide +kernel
theorem dX7_flag_0 : decode cX7_flag 0 = .ok (.iload_n 0, 1) := by decide +kernel
theorem dX7_flag_1 : decode cX7_flag 1 = .ok (.ifCond .eq 7, 3) := by decide +kernel
theorem dX7_flag_4 : decode cX7_flag 4 = .ok (.iconst 1, 1) := by decide +kernel
theorem dX7_flag_5 : decode cX7_flag 5 = .ok (.goto 4, 3) := by decide +kernel
theorem dX7_flag_8 : decode cX7_flag 8 = .ok (.iconst 0, 1) := by decide +kernel
theorem dX7_flag_9 : decode cX7_flag 9 = .ok (.ireturn, 1) := by decide +kernel
theorem dX7_firstDraft_0 : decode cX7_firstDraft 0 = .ok (.iconst 0, 1) := by decide +kernel
theorem dX7_firstDraft_1 : decode cX7_firstDraft 1 = .ok (.istore_n 1, 1) := by decide +kernel
theorem dX7_firstDraft_2 : decode cX7_firstDraft 2 = .ok (.iload_n 1, 1) := by decide +kernel
theorem dX7_firstDraft_3 : decode cX7_firstDraft 3 = .ok (.bipush 47, 2) := by decide +kernel
theorem dX7_firstDraft_5 : decode cX7_firstDraft 5 = .ok (.if_icmp .ge 16, 3) := by decide +kernel
theorem dX7_firstDraft_8 : decode cX7_firstDraft 8 = .ok (.aload_n 0, 1) := by decide +kernel
theorem dX7_firstDraft_9 : decode cX7_firstDraft 9 = .ok (.getfield 26, 3) := by decide +kernel
theorem dX7_firstDraft_12 : decode cX7_firstDraft 12 = .ok (.iload_n 1, 1) := by decide +kernel
theorem dX7_firstDraft_13 : decode cX7_firstDraft 13 = .ok (.iconst 0, 1) := by decide +kernel
theorem dX7_firstDraft_14 : decode cX7_firstDraft 14 = .ok (.iastore, 1) := by decide +kernel
theorem dX7_firstDraft_15 : decode cX7_firstDraft 15 = .ok (.iinc 1 1, 3) := by decide +kernel
theorem dX7_firstDraft_18 : decode cX7_firstDraft 18 = .ok (.goto (-16), 3) := by decide +kernel
theorem dX7_firstDraft_21 : decode cX7_firstDraft 21 = .ok (.aload_n 0, 1) := by decide +kernel
theorem dX7_firstDraft_22 : decode cX7_firstDraft 22 = .ok (.getfield 26, 3) := by decide +kernel
theorem dX7_firstDraft_25 : decode cX7_firstDraft 25 = .ok (.bipush 25, 2) := by decide +kernel
theorem dX7_firstDraft_27 : decode cX7_firstDraft 27 = .ok (.bipush (-4), 2) := by decide +kernel
theorem dX7_firstDraft_29 : decode cX7_firstDraft 29 = .ok (.iastore, 1) := by decide +kernel
theorem dX7_firstDraft_30 : decode cX7_firstDraft 30 = .ok (.aload_n 0, 1) := by decide +kernel
theorem dX7_firstDraft_31 : decode cX7_firstDraft 31 = .ok (.iconst 0, 1) := by decide +kernel
theorem dX7_firstDraft_32 : decode cX7_firstDraft 32 = .ok (.putfield 62, 3) := by decide +kernel
theorem dX7_firstDraft_35 : decode cX7_firstDraft 35 = .ok (.aload_n 0, 1) := by decide +kernel
theorem dX7_firstDraft_36 : decode cX7_firstDraft 36 = .ok (.iconst 0, 1) := by decide +kernel
theorem dX7_firstDraft_37 : decode cX7_firstDraft 37 = .ok (.putfield 66, 3) := by decide +kernel
theorem dX7_firstDraft_40 : decode cX7_firstDraft 40 = .ok (.aload_n 0, 1) := by decide +kernel
theorem dX7_firstDraft_41 : decode cX7_firstDraft 41 = .ok (.bipush (-4), 2) := by decide +kernel
theorem dX7_firstDraft_43 : decode cX7_firstDraft 43 = .ok (.putfield 69, 3) := by decide +kernel
theorem dX7_firstDraft_46 : decode cX7_firstDraft 46 = .ok (.return_, 1) := by decide +kernel
theorem dX7_keepDraft_0 : decode cX7_keepDraft 0 = .ok (.iconst 0, 1) := by decide +kernel
theorem dX7_keepDraft_1 : decode cX7_keepDraft 1 = .ok (.istore_n 1, 1) := by decide +kernel
theorem dX7_keepDraft_2 : decode cX7_keepDraft 2 = .ok (.iload_n 1, 1) := by decide +kernel
theorem dX7_keepDraft_3 : decode cX7_keepDraft 3 = .ok (.bipush 47, 2) := by decide +kernel
theorem dX7_keepDraft_5 : decode cX7_keepDraft 5 = .ok (.if_icmp .ge 21, 3) := by decide +kernel
theorem dX7_keepDraft_8 : decode cX7_keepDraft 8 = .ok (.aload_n 0, 1) := by decide +kernel
theorem dX7_keepDraft_9 : decode cX7_keepDraft 9 = .ok (.getfield 7, 3) := by decide +kernel
theorem dX7_keepDraft_12 : decode cX7_keepDraft 12 = .ok (.iload_n 1, 1) := by decide +kernel
theorem dX7_keepDraft_13 : decode cX7_keepDraft 13 = .ok (.aload_n 0, 1) := by decide +kernel
theorem dX7_keepDraft_14 : decode cX7_keepDraft 14 = .ok (.getfield 26, 3) := by decide +kernel
theorem dX7_keepDraft_17 : decode cX7_keepDraft 17 = .ok (.iload_n 1, 1) := by decide +kernel
theorem dX7_keepDraft_18 : decode cX7_keepDraft 18 = .ok (.iaload, 1) := by decide +kernel
theorem dX7_keepDraft_19 : decode cX7_keepDraft 19 = .ok (.iastore, 1) := by decide +kernel
theorem dX7_keepDraft_20 : decode cX7_keepDraft 20 = .ok (.iinc 1 1, 3) := by decide +kernel
theorem dX7_keepDraft_23 : decode cX7_keepDraft 23 = .ok (.goto (-21), 3) := by decide +kernel
theorem dX7_keepDraft_26 : decode cX7_keepDraft 26 = .ok (.aload_n 0, 1) := by decide +kernel
theorem dX7_keepDraft_27 : decode cX7_keepDraft 27 = .ok (.aload_n 0, 1) := by decide +kernel
theorem dX7_keepDraft_28 : decode cX7_keepDraft 28 = .ok (.getfield 62, 3) := by decide +kernel
theorem dX7_keepDraft_31 : decode cX7_keepDraft 31 = .ok (.putfield 72, 3) := by decide +kernel
theorem dX7_keepDraft_34 : decode cX7_keepDraft 34 = .ok (.iconst 0, 1) := by decide +kernel
theorem dX7_keepDraft_35 : decode cX7_keepDraft 35 = .ok (.istore_n 1, 1) := by decide +kernel
theorem dX7_keepDraft_36 : decode cX7_keepDraft 36 = .ok (.iload_n 1, 1) := by decide +kernel
theorem dX7_keepDraft_37 : decode cX7_keepDraft 37 = .ok (.aload_n 0, 1) := by decide +kernel
theorem dX7_keepDraft_38 : decode cX7_keepDraft 38 = .ok (.getfield 72, 3) := by decide +kernel
theorem dX7_keepDraft_41 : decode cX7_keepDraft 41 = .ok (.if_icmp .ge 45, 3) := by decide +kernel
theorem dX7_keepDraft_44 : decode cX7_keepDraft 44 = .ok (.aload_n 0, 1) := by decide +kernel
theorem dX7_keepDraft_45 : decode cX7_keepDraft 45 = .ok (.getfield 17, 3) := by decide +kernel
theorem dX7_keepDraft_48 : decode cX7_keepDraft 48 = .ok (.iload_n 1, 1) := by decide +kernel
theorem dX7_keepDraft_49 : decode cX7_keepDraft 49 = .ok (.aload_n 0, 1) := by decide +kernel
theorem dX7_keepDraft_50 : decode cX7_keepDraft 50 = .ok (.getfield 29, 3) := by decide +kernel
theorem dX7_keepDraft_53 : decode cX7_keepDraft 53 = .ok (.iload_n 1, 1) := by decide +kernel
theorem dX7_keepDraft_54 : decode cX7_keepDraft 54 = .ok (.iaload, 1) := by decide +kernel
theorem dX7_keepDraft_55 : decode cX7_keepDraft 55 = .ok (.iastore, 1) := by decide +kernel
theorem dX7_keepDraft_56 : decode cX7_keepDraft 56 = .ok (.aload_n 0, 1) := by decide +kernel
theorem dX7_keepDraft_57 : decode cX7_keepDraft 57 = .ok (.getfield 20, 3) := by decide +kernel
theorem dX7_keepDraft_60 : decode cX7_keepDraft 60 = .ok (.iload_n 1, 1) := by decide +kernel
theorem dX7_keepDraft_61 : decode cX7_keepDraft 61 = .ok (.aload_n 0, 1) := by decide +kernel
theorem dX7_keepDraft_62 : decode cX7_keepDraft 62 = .ok (.getfield 32, 3) := by decide +kernel
theorem dX7_keepDraft_65 : decode cX7_keepDraft 65 = .ok (.iload_n 1, 1) := by decide +kernel
theorem dX7_keepDraft_66 : decode cX7_keepDraft 66 = .ok (.iaload, 1) := by decide +kernel
theorem dX7_keepDraft_67 : decode cX7_keepDraft 67 = .ok (.iastore, 1) := by decide +kernel
theorem dX7_keepDraft_68 : decode cX7_keepDraft 68 = .ok (.aload_n 0, 1) := by decide +kernel
theorem dX7_keepDraft_69 : decode cX7_keepDraft 69 = .ok (.getfield 23, 3) := by decide +kernel
theorem dX7_keepDraft_72 : decode cX7_keepDraft 72 = .ok (.iload_n 1, 1) := by decide +kernel
theorem dX7_keepDraft_73 : decode cX7_keepDraft 73 = .ok (.aload_n 0, 1) := by decide +kernel
theorem dX7_keepDraft_74 : decode cX7_keepDraft 74 = .ok (.getfield 35, 3) := by decide +kernel
theorem dX7_keepDraft_77 : decode cX7_keepDraft 77 = .ok (.iload_n 1, 1) := by decide +kernel
theorem dX7_keepDraft_78 : decode cX7_keepDraft 78 = .ok (.iaload, 1) := by decide +kernel
theorem dX7_keepDraft_79 : decode cX7_keepDraft 79 = .ok (.iastore, 1) := by decide +kernel
theorem dX7_keepDraft_80 : decode cX7_keepDraft 80 = .ok (.iinc 1 1, 3) := by decide +kernel
theorem dX7_keepDraft_83 : decode cX7_keepDraft 83 = .ok (.goto (-47), 3) := by decide +kernel
theorem dX7_keepDraft_86 : decode cX7_keepDraft 86 = .ok (.aload_n 0, 1) := by decide +kernel
theorem dX7_keepDraft_87 : decode cX7_keepDraft 87 = .ok (.getfield 7, 3) := by decide +kernel
theorem dX7_keepDraft_90 : decode cX7_keepDraft 90 = .ok (.bipush 25, 2) := by decide +kernel
theorem dX7_keepDraft_92 : decode cX7_keepDraft 92 = .ok (.aload_n 0, 1) := by decide +kernel
theorem dX7_keepDraft_93 : decode cX7_keepDraft 93 = .ok (.getfield 7, 3) := by decide +kernel
theorem dX7_keepDraft_96 : decode cX7_keepDraft 96 = .ok (.bipush 25, 2) := by decide +kernel
theorem dX7_keepDraft_98 : decode cX7_keepDraft 98 = .ok (.iaload, 1) := by decide +kernel
theorem dX7_keepDraft_99 : decode cX7_keepDraft 99 = .ok (.bipush (-4), 2) := by decide +kernel
theorem dX7_keepDraft_101 : decode cX7_keepDraft 101 = .ok (.if_icmp .ne 19, 3) := by decide +kernel
theorem dX7_keepDraft_104 : decode cX7_keepDraft 104 = .ok (.aload_n 0, 1) := by decide +kernel
theorem dX7_keepDraft_105 : decode cX7_keepDraft 105 = .ok (.getfield 72, 3) := by decide +kernel
theorem dX7_keepDraft_108 : decode cX7_keepDraft 108 = .ok (.ifCond .le 12, 3) := by decide +kernel
theorem dX7_keepDraft_111 : decode cX7_keepDraft 111 = .ok (.aload_n 0, 1) := by decide +kernel
theorem dX7_keepDraft_112 : decode cX7_keepDraft 112 = .ok (.getfield 72, 3) := by decide +kernel
theorem dX7_keepDraft_115 : decode cX7_keepDraft 115 = .ok (.iconst 1, 1) := by decide +kernel
theorem dX7_keepDraft_116 : decode cX7_keepDraft 116 = .ok (.isub, 1) := by decide +kernel
theorem dX7_keepDraft_117 : decode cX7_keepDraft 117 = .ok (.goto 10, 3) := by decide +kernel
theorem dX7_keepDraft_120 : decode cX7_keepDraft 120 = .ok (.aload_n 0, 1) := by decide +kernel
theorem dX7_keepDraft_121 : decode cX7_keepDraft 121 = .ok (.getfield 7, 3) := by decide +kernel
theorem dX7_keepDraft_124 : decode cX7_keepDraft 124 = .ok (.bipush 25, 2) := by decide +kernel
theorem dX7_keepDraft_126 : decode cX7_keepDraft 126 = .ok (.iaload, 1) := by decide +kernel
theorem dX7_keepDraft_127 : decode cX7_keepDraft 127 = .ok (.iastore, 1) := by decide +kernel
theorem dX7_keepDraft_128 : decode cX7_keepDraft 128 = .ok (.aload_n 0, 1) := by decide +kernel
theorem dX7_keepDraft_129 : decode cX7_keepDraft 129 = .ok (.getfield 13, 3) := by decide +kernel
theorem dX7_keepDraft_132 : decode cX7_keepDraft 132 = .ok (.iconst 0, 1) := by decide +kernel
theorem dX7_keepDraft_133 : decode cX7_keepDraft 133 = .ok (.iconst 0, 1) := by decide +kernel
theorem dX7_keepDraft_134 : decode cX7_keepDraft 134 = .ok (.bastore, 1) := by decide +kernel
theorem dX7_keepDraft_135 : decode cX7_keepDraft 135 = .ok (.aload_n 0, 1) := by decide +kernel
theorem dX7_keepDraft_136 : decode cX7_keepDraft 136 = .ok (.getfield 13, 3) := by decide +kernel
theorem dX7_keepDraft_139 : decode cX7_keepDraft 139 = .ok (.iconst 1, 1) := by decide +kernel
theorem dX7_keepDraft_140 : decode cX7_keepDraft 140 = .ok (.iconst 0, 1) := by decide +kernel
theorem dX7_keepDraft_141 : decode cX7_keepDraft 141 = .ok (.bastore, 1) := by decide +kernel
theorem dX7_keepDraft_142 : decode cX7_keepDraft 142 = .ok (.return_, 1) := by decide +kernel
theorem dX7_feed_0 : decode cX7_feed 0 = .ok (.iload_n 1, 1) := by decide +kernel
theorem dX7_feed_1 : decode cX7_feed 1 = .ok (.i2l, 1) := by decide +kernel
theorem dX7_feed_2 : decode cX7_feed 2 = .ok (.lconst 0, 1) := by decide +kernel
theorem dX7_feed_3 : decode cX7_feed 3 = .ok (.ldc2_w 75, 3) := by decide +kernel
theorem dX7_feed_6 : decode cX7_feed 6 = .ok (.invokestatic 77, 3) := by decide +kernel
theorem dX7_feed_9 : decode cX7_feed 9 = .ok (.ifCond .ne 5, 3) := by decide +kernel
theorem dX7_feed_12 : decode cX7_feed 12 = .ok (.iconst (-1), 1) := by decide +kernel
theorem dX7_feed_13 : decode cX7_feed 13 = .ok (.ireturn, 1) := by decide +kernel
theorem dX7_feed_14 : decode cX7_feed 14 = .ok (.aload_n 0, 1) := by decide +kernel
theorem dX7_feed_15 : decode cX7_feed 15 = .ok (.getfield 81, 3) := by decide +kernel
theorem dX7_feed_18 : decode cX7_feed 18 = .ok (.sipush 160, 3) := by decide +kernel
theorem dX7_feed_21 : decode cX7_feed 21 = .ok (.if_icmp .ne 6, 3) := by decide +kernel
theorem dX7_feed_24 : decode cX7_feed 24 = .ok (.bipush (-3), 2) := by decide +kernel
theorem dX7_feed_26 : decode cX7_feed 26 = .ok (.ireturn, 1) := by decide +kernel
theorem dX7_feed_27 : decode cX7_feed 27 = .ok (.aload_n 0, 1) := by decide +kernel
theorem dX7_feed_28 : decode cX7_feed 28 = .ok (.getfield 38, 3) := by decide +kernel
theorem dX7_feed_31 : decode cX7_feed 31 = .ok (.aload_n 0, 1) := by decide +kernel
theorem dX7_feed_32 : decode cX7_feed 32 = .ok (.getfield 81, 3) := by decide +kernel
theorem dX7_feed_35 : decode cX7_feed 35 = .ok (.iload_n 1, 1) := by decide +kernel
theorem dX7_feed_36 : decode cX7_feed 36 = .ok (.iastore, 1) := by decide +kernel
theorem dX7_feed_37 : decode cX7_feed 37 = .ok (.aload_n 0, 1) := by decide +kernel
theorem dX7_feed_38 : decode cX7_feed 38 = .ok (.dup, 1) := by decide +kernel
theorem dX7_feed_39 : decode cX7_feed 39 = .ok (.getfield 81, 3) := by decide +kernel
theorem dX7_feed_42 : decode cX7_feed 42 = .ok (.iconst 1, 1) := by decide +kernel
theorem dX7_feed_43 : decode cX7_feed 43 = .ok (.iadd, 1) := by decide +kernel
theorem dX7_feed_44 : decode cX7_feed 44 = .ok (.putfield 81, 3) := by decide +kernel
theorem dX7_feed_47 : decode cX7_feed 47 = .ok (.aload_n 0, 1) := by decide +kernel
theorem dX7_feed_48 : decode cX7_feed 48 = .ok (.getfield 81, 3) := by decide +kernel
theorem dX7_feed_51 : decode cX7_feed 51 = .ok (.ireturn, 1) := by decide +kernel
theorem dX7_end_0 : decode cX7_end 0 = .ok (.iload_n 1, 1) := by decide +kernel
theorem dX7_end_1 : decode cX7_end 1 = .ok (.i2l, 1) := by decide +kernel
theorem dX7_end_2 : decode cX7_end 2 = .ok (.lconst 0, 1) := by decide +kernel
theorem dX7_end_3 : decode cX7_end 3 = .ok (.aload_n 0, 1) := by decide +kernel
theorem dX7_end_4 : decode cX7_end 4 = .ok (.getfield 81, 3) := by decide +kernel
theorem dX7_end_7 : decode cX7_end 7 = .ok (.i2l, 1) := by decide +kernel
theorem dX7_end_8 : decode cX7_end 8 = .ok (.invokestatic 77, 3) := by decide +kernel
theorem dX7_end_11 : decode cX7_end 11 = .ok (.ifCond .ne 5, 3) := by decide +kernel
theorem dX7_end_14 : decode cX7_end 14 = .ok (.iconst (-1), 1) := by decide +kernel
theorem dX7_end_15 : decode cX7_end 15 = .ok (.ireturn, 1) := by decide +kernel
theorem dX7_end_16 : decode cX7_end 16 = .ok (.aload_n 0, 1) := by decide +kernel
theorem dX7_end_17 : decode cX7_end 17 = .ok (.getfield 81, 3) := by decide +kernel
theorem dX7_end_20 : decode cX7_end 20 = .ok (.istore_n 2, 1) := by decide +kernel
theorem dX7_end_21 : decode cX7_end 21 = .ok (.aload_n 0, 1) := by decide +kernel
theorem dX7_end_22 : decode cX7_end 22 = .ok (.iload_n 1, 1) := by decide +kernel
theorem dX7_end_23 : decode cX7_end 23 = .ok (.putfield 81, 3) := by decide +kernel
theorem dX7_end_26 : decode cX7_end 26 = .ok (.iload_n 2, 1) := by decide +kernel
theorem dX7_end_27 : decode cX7_end 27 = .ok (.ireturn, 1) := by decide +kernel
theorem dX7_needs_0 : decode cX7_needs 0 = .ok (.iload_n 1, 1) := by decide +kernel
theorem dX7_needs_1 : decode cX7_needs 1 = .ok (.ifCond .ne 23, 3) := by decide +kernel
theorem dX7_needs_4 : decode cX7_needs 4 = .ok (.aload_n 0, 1) := by decide +kernel
theorem dX7_needs_5 : decode cX7_needs 5 = .ok (.getfield 84, 3) := by decide +kernel
theorem dX7_needs_8 : decode cX7_needs 8 = .ok (.ifCond .ne 16, 3) := by decide +kernel
theorem dX7_needs_11 : decode cX7_needs 11 = .ok (.aload_n 0, 1) := by decide +kernel
theorem dX7_needs_12 : decode cX7_needs 12 = .ok (.iload_n 2, 1) := by decide +kernel
theorem dX7_needs_13 : decode cX7_needs 13 = .ok (.putfield 84, 3) := by decide +kernel
theorem dX7_needs_16 : decode cX7_needs 16 = .ok (.aload_n 0, 1) := by decide +kernel
theorem dX7_needs_17 : decode cX7_needs 17 = .ok (.aload_n 0, 1) := by decide +kernel
theorem dX7_needs_18 : decode cX7_needs 18 = .ok (.getfield 87, 3) := by decide +kernel
theorem dX7_needs_21 : decode cX7_needs 21 = .ok (.putfield 90, 3) := by decide +kernel
theorem dX7_needs_24 : decode cX7_needs 24 = .ok (.return_, 1) := by decide +kernel
theorem dX7_byteAt_0 : decode cX7_byteAt 0 = .ok (.iload_n 1, 1) := by decide +kernel
theorem dX7_byteAt_1 : decode cX7_byteAt 1 = .ok (.aload_n 0, 1) := by decide +kernel
theorem dX7_byteAt_2 : decode cX7_byteAt 2 = .ok (.getfield 81, 3) := by decide +kernel
theorem dX7_byteAt_5 : decode cX7_byteAt 5 = .ok (.if_icmp .ge 12, 3) := by decide +kernel
theorem dX7_byteAt_8 : decode cX7_byteAt 8 = .ok (.aload_n 0, 1) := by decide +kernel
theorem dX7_byteAt_9 : decode cX7_byteAt 9 = .ok (.getfield 38, 3) := by decide +kernel
theorem dX7_byteAt_12 : decode cX7_byteAt 12 = .ok (.iload_n 1, 1) := by decide +kernel
theorem dX7_byteAt_13 : decode cX7_byteAt 13 = .ok (.iaload, 1) := by decide +kernel
theorem dX7_byteAt_14 : decode cX7_byteAt 14 = .ok (.goto 4, 3) := by decide +kernel
theorem dX7_byteAt_17 : decode cX7_byteAt 17 = .ok (.iconst (-1), 1) := by decide +kernel
theorem dX7_byteAt_18 : decode cX7_byteAt 18 = .ok (.ireturn, 1) := by decide +kernel
theorem dX7_is_0 : decode cX7_is 0 = .ok (.aload_n 0, 1) := by decide +kernel
theorem dX7_is_1 : decode cX7_is 1 = .ok (.getfield 93, 3) := by decide +kernel
theorem dX7_is_4 : decode cX7_is 4 = .ok (.aload_n 0, 1) := by decide +kernel
theorem dX7_is_5 : decode cX7_is 5 = .ok (.getfield 87, 3) := by decide +kernel
theorem dX7_is_8 : decode cX7_is 8 = .ok (.isub, 1) := by decide +kernel
theorem dX7_is_9 : decode cX7_is 9 = .ok (.iload_n 1, 1) := by decide +kernel
theorem dX7_is_10 : decode cX7_is 10 = .ok (.if_icmp .ne 48, 3) := by decide +kernel
theorem dX7_is_13 : decode cX7_is 13 = .ok (.aload_n 0, 1) := by decide +kernel
theorem dX7_is_14 : decode cX7_is 14 = .ok (.aload_n 0, 1) := by decide +kernel
theorem dX7_is_15 : decode cX7_is 15 = .ok (.getfield 87, 3) := by decide +kernel
theorem dX7_is_18 : decode cX7_is 18 = .ok (.invokevirtual 96, 3) := by decide +kernel
theorem dX7_is_21 : decode cX7_is 21 = .ok (.iload_n 2, 1) := by decide +kernel
theorem dX7_is_22 : decode cX7_is 22 = .ok (.if_icmp .ne 36, 3) := by decide +kernel
theorem dX7_is_25 : decode cX7_is 25 = .ok (.aload_n 0, 1) := by decide +kernel
theorem dX7_is_26 : decode cX7_is 26 = .ok (.aload_n 0, 1) := by decide +kernel
theorem dX7_is_27 : decode cX7_is 27 = .ok (.getfield 87, 3) := by decide +kernel
theorem dX7_is_30 : decode cX7_is 30 = .ok (.iconst 1, 1) := by decide +kernel
theorem dX7_is_31 : decode cX7_is 31 = .ok (.iadd, 1) := by decide +kernel
theorem dX7_is_32 : decode cX7_is 32 = .ok (.invokevirtual 96, 3) := by decide +kernel
theorem dX7_is_35 : decode cX7_is 35 = .ok (.iload_n 3, 1) := by decide +kernel
theorem dX7_is_36 : decode cX7_is 36 = .ok (.if_icmp .ne 22, 3) := by decide +kernel
theorem dX7_is_39 : decode cX7_is 39 = .ok (.aload_n 0, 1) := by decide +kernel
theorem dX7_is_40 : decode cX7_is 40 = .ok (.aload_n 0, 1) := by decide +kernel
theorem dX7_is_41 : decode cX7_is 41 = .ok (.getfield 87, 3) := by decide +kernel
theorem dX7_is_44 : decode cX7_is 44 = .ok (.iconst 2, 1) := by decide +kernel
theorem dX7_is_45 : decode cX7_is 45 = .ok (.iadd, 1) := by decide +kernel
theorem dX7_is_46 : decode cX7_is 46 = .ok (.invokevirtual 96, 3) := by decide +kernel
theorem dX7_is_49 : decode cX7_is 49 = .ok (.iload 4, 2) := by decide +kernel
theorem dX7_is_51 : decode cX7_is 51 = .ok (.if_icmp .ne 7, 3) := by decide +kernel
theorem dX7_is_54 : decode cX7_is 54 = .ok (.iconst 1, 1) := by decide +kernel
theorem dX7_is_55 : decode cX7_is 55 = .ok (.goto 4, 3) := by decide +kernel
theorem dX7_is_58 : decode cX7_is 58 = .ok (.iconst 0, 1) := by decide +kernel
theorem dX7_is_59 : decode cX7_is 59 = .ok (.ireturn, 1) := by decide +kernel
theorem dX7_ends_0 : decode cX7_ends 0 = .ok (.aload_n 0, 1) := by decide +kernel
theorem dX7_ends_1 : decode cX7_ends 1 = .ok (.aload_n 0, 1) := by decide +kernel
theorem dX7_ends_2 : decode cX7_ends 2 = .ok (.getfield 87, 3) := by decide +kernel
theorem dX7_ends_5 : decode cX7_ends 5 = .ok (.iconst 3, 1) := by decide +kernel
theorem dX7_ends_6 : decode cX7_ends 6 = .ok (.iadd, 1) := by decide +kernel
theorem dX7_ends_7 : decode cX7_ends 7 = .ok (.invokevirtual 96, 3) := by decide +kernel
theorem dX7_ends_10 : decode cX7_ends 10 = .ok (.iload_n 1, 1) := by decide +kernel
theorem dX7_ends_11 : decode cX7_ends 11 = .ok (.if_icmp .ne 43, 3) := by decide +kernel
theorem dX7_ends_14 : decode cX7_ends 14 = .ok (.iload_n 2, 1) := by decide +kernel
theorem dX7_ends_15 : decode cX7_ends 15 = .ok (.ifCond .eq 17, 3) := by decide +kernel
theorem dX7_ends_18 : decode cX7_ends 18 = .ok (.aload_n 0, 1) := by decide +kernel
theorem dX7_ends_19 : decode cX7_ends 19 = .ok (.aload_n 0, 1) := by decide +kernel
theorem dX7_ends_20 : decode cX7_ends 20 = .ok (.getfield 87, 3) := by decide +kernel
theorem dX7_ends_23 : decode cX7_ends 23 = .ok (.iconst 4, 1) := by decide +kernel
theorem dX7_ends_24 : decode cX7_ends 24 = .ok (.iadd, 1) := by decide +kernel
theorem dX7_ends_25 : decode cX7_ends 25 = .ok (.invokevirtual 96, 3) := by decide +kernel
theorem dX7_ends_28 : decode cX7_ends 28 = .ok (.iload_n 2, 1) := by decide +kernel
theorem dX7_ends_29 : decode cX7_ends 29 = .ok (.if_icmp .ne 25, 3) := by decide +kernel
theorem dX7_ends_32 : decode cX7_ends 32 = .ok (.iload_n 3, 1) := by decide +kernel
theorem dX7_ends_33 : decode cX7_ends 33 = .ok (.ifCond .eq 17, 3) := by decide +kernel
theorem dX7_ends_36 : decode cX7_ends 36 = .ok (.aload_n 0, 1) := by decide +kernel
theorem dX7_ends_37 : decode cX7_ends 37 = .ok (.aload_n 0, 1) := by decide +kernel
theorem dX7_ends_38 : decode cX7_ends 38 = .ok (.getfield 87, 3) := by decide +kernel
theorem dX7_ends_41 : decode cX7_ends 41 = .ok (.iconst 5, 1) := by decide +kernel
theorem dX7_ends_42 : decode cX7_ends 42 = .ok (.iadd, 1) := by decide +kernel
theorem dX7_ends_43 : decode cX7_ends 43 = .ok (.invokevirtual 96, 3) := by decide +kernel
theorem dX7_ends_46 : decode cX7_ends 46 = .ok (.iload_n 3, 1) := by decide +kernel
theorem dX7_ends_47 : decode cX7_ends 47 = .ok (.if_icmp .ne 7, 3) := by decide +kernel
theorem dX7_ends_50 : decode cX7_ends 50 = .ok (.iconst 1, 1) := by decide +kernel
theorem dX7_ends_51 : decode cX7_ends 51 = .ok (.goto 4, 3) := by decide +kernel
theorem dX7_ends_54 : decode cX7_ends 54 = .ok (.iconst 0, 1) := by decide +kernel
theorem dX7_ends_55 : decode cX7_ends 55 = .ok (.ireturn, 1) := by decide +kernel
theorem dX7_lineNow_0 : decode cX7_lineNow 0 = .ok (.aload_n 0, 1) := by decide +kernel
theorem dX7_lineNow_1 : decode cX7_lineNow 1 = .ok (.iconst 5, 1) := by decide +kernel
theorem dX7_lineNow_2 : decode cX7_lineNow 2 = .ok (.bipush 114, 2) := by decide +kernel
theorem dX7_lineNow_4 : decode cX7_lineNow 4 = .ok (.bipush 105, 2) := by decide +kernel
theorem dX7_lineNow_6 : decode cX7_lineNow 6 = .ok (.bipush 118, 2) := by decide +kernel
theorem dX7_lineNow_8 : decode cX7_lineNow 8 = .ok (.invokevirtual 100, 3) := by decide +kernel
theorem dX7_lineNow_11 : decode cX7_lineNow 11 = .ok (.ifCond .eq 17, 3) := by decide +kernel
theorem dX7_lineNow_14 : decode cX7_lineNow 14 = .ok (.aload_n 0, 1) := by decide +kernel
theorem dX7_lineNow_15 : decode cX7_lineNow 15 = .ok (.bipush 101, 2) := by decide +kernel
theorem dX7_lineNow_17 : decode cX7_lineNow 17 = .ok (.bipush 114, 2) := by decide +kernel
theorem dX7_lineNow_19 : decode cX7_lineNow 19 = .ok (.iconst 0, 1) := by decide +kernel
theorem dX7_lineNow_20 : decode cX7_lineNow 20 = .ok (.invokevirtual 104, 3) := by decide +kernel
theorem dX7_lineNow_23 : decode cX7_lineNow 23 = .ok (.ifCond .eq 5, 3) := by decide +kernel
theorem dX7_lineNow_26 : decode cX7_lineNow 26 = .ok (.iconst 0, 1) := by decide +kernel
theorem dX7_lineNow_27 : decode cX7_lineNow 27 = .ok (.ireturn, 1) := by decide +kernel
theorem dX7_lineNow_28 : decode cX7_lineNow 28 = .ok (.aload_n 0, 1) := by decide +kernel
theorem dX7_lineNow_29 : decode cX7_lineNow 29 = .ok (.bipush 6, 2) := by decide +kernel
theorem dX7_lineNow_31 : decode cX7_lineNow 31 = .ok (.bipush 98, 2) := by decide +kernel
theorem dX7_lineNow_33 : decode cX7_lineNow 33 = .ok (.bipush 114, 2) := by decide +kernel
theorem dX7_lineNow_35 : decode cX7_lineNow 35 = .ok (.bipush 105, 2) := by decide +kernel
theorem dX7_lineNow_37 : decode cX7_lineNow 37 = .ok (.invokevirtual 100, 3) := by decide +kernel
theorem dX7_lineNow_40 : decode cX7_lineNow 40 = .ok (.ifCond .eq 18, 3) := by decide +kernel
theorem dX7_lineNow_43 : decode cX7_lineNow 43 = .ok (.aload_n 0, 1) := by decide +kernel
theorem dX7_lineNow_44 : decode cX7_lineNow 44 = .ok (.bipush 100, 2) := by decide +kernel
theorem dX7_lineNow_46 : decode cX7_lineNow 46 = .ok (.bipush 103, 2) := by decide +kernel
theorem dX7_lineNow_48 : decode cX7_lineNow 48 = .ok (.bipush 101, 2) := by decide +kernel
theorem dX7_lineNow_50 : decode cX7_lineNow 50 = .ok (.invokevirtual 104, 3) := by decide +kernel
theorem dX7_lineNow_53 : decode cX7_lineNow 53 = .ok (.ifCond .eq 5, 3) := by decide +kernel
theorem dX7_lineNow_56 : decode cX7_lineNow 56 = .ok (.iconst 1, 1) := by decide +kernel
theorem dX7_lineNow_57 : decode cX7_lineNow 57 = .ok (.ireturn, 1) := by decide +kernel
theorem dX7_lineNow_58 : decode cX7_lineNow 58 = .ok (.aload_n 0, 1) := by decide +kernel
theorem dX7_lineNow_59 : decode cX7_lineNow 59 = .ok (.iconst 5, 1) := by decide +kernel
theorem dX7_lineNow_60 : decode cX7_lineNow 60 = .ok (.bipush 102, 2) := by decide +kernel
theorem dX7_lineNow_62 : decode cX7_lineNow 62 = .ok (.bipush 101, 2) := by decide +kernel
theorem dX7_lineNow_64 : decode cX7_lineNow 64 = .ok (.bipush 114, 2) := by decide +kernel
theorem dX7_lineNow_66 : decode cX7_lineNow 66 = .ok (.invokevirtual 100, 3) := by decide +kernel
theorem dX7_lineNow_69 : decode cX7_lineNow 69 = .ok (.ifCond .eq 17, 3) := by decide +kernel
theorem dX7_lineNow_72 : decode cX7_lineNow 72 = .ok (.aload_n 0, 1) := by decide +kernel
theorem dX7_lineNow_73 : decode cX7_lineNow 73 = .ok (.bipush 114, 2) := by decide +kernel
theorem dX7_lineNow_75 : decode cX7_lineNow 75 = .ok (.bipush 121, 2) := by decide +kernel
theorem dX7_lineNow_77 : decode cX7_lineNow 77 = .ok (.iconst 0, 1) := by decide +kernel
theorem dX7_lineNow_78 : decode cX7_lineNow 78 = .ok (.invokevirtual 104, 3) := by decide +kernel
theorem dX7_lineNow_81 : decode cX7_lineNow 81 = .ok (.ifCond .eq 5, 3) := by decide +kernel
theorem dX7_lineNow_84 : decode cX7_lineNow 84 = .ok (.iconst 2, 1) := by decide +kernel
theorem dX7_lineNow_85 : decode cX7_lineNow 85 = .ok (.ireturn, 1) := by decide +kernel
theorem dX7_lineNow_86 : decode cX7_lineNow 86 = .ok (.aload_n 0, 1) := by decide +kernel
theorem dX7_lineNow_87 : decode cX7_lineNow 87 = .ok (.iconst 3, 1) := by decide +kernel
theorem dX7_lineNow_88 : decode cX7_lineNow 88 = .ok (.bipush 101, 2) := by decide +kernel
theorem dX7_lineNow_90 : decode cX7_lineNow 90 = .ok (.bipush 110, 2) := by decide +kernel
theorem dX7_lineNow_92 : decode cX7_lineNow 92 = .ok (.bipush 100, 2) := by decide +kernel
theorem dX7_lineNow_94 : decode cX7_lineNow 94 = .ok (.invokevirtual 100, 3) := by decide +kernel
theorem dX7_lineNow_97 : decode cX7_lineNow 97 = .ok (.ifCond .eq 5, 3) := by decide +kernel
theorem dX7_lineNow_100 : decode cX7_lineNow 100 = .ok (.iconst 3, 1) := by decide +kernel
theorem dX7_lineNow_101 : decode cX7_lineNow 101 = .ok (.ireturn, 1) := by decide +kernel
theorem dX7_lineNow_102 : decode cX7_lineNow 102 = .ok (.aload_n 0, 1) := by decide +kernel
theorem dX7_lineNow_103 : decode cX7_lineNow 103 = .ok (.iconst 3, 1) := by decide +kernel
theorem dX7_lineNow_104 : decode cX7_lineNow 104 = .ok (.bipush 100, 2) := by decide +kernel
theorem dX7_lineNow_106 : decode cX7_lineNow 106 = .ok (.bipush 97, 2) := by decide +kernel
theorem dX7_lineNow_108 : decode cX7_lineNow 108 = .ok (.bipush 121, 2) := by decide +kernel
theorem dX7_lineNow_110 : decode cX7_lineNow 110 = .ok (.invokevirtual 100, 3) := by decide +kernel
theorem dX7_lineNow_113 : decode cX7_lineNow 113 = .ok (.ifCond .eq 5, 3) := by decide +kernel
theorem dX7_lineNow_116 : decode cX7_lineNow 116 = .ok (.iconst 4, 1) := by decide +kernel
theorem dX7_lineNow_117 : decode cX7_lineNow 117 = .ok (.ireturn, 1) := by decide +kernel
theorem dX7_lineNow_118 : decode cX7_lineNow 118 = .ok (.aload_n 0, 1) := by decide +kernel
theorem dX7_lineNow_119 : decode cX7_lineNow 119 = .ok (.iconst 4, 1) := by decide +kernel
theorem dX7_lineNow_120 : decode cX7_lineNow 120 = .ok (.bipush 112, 2) := by decide +kernel
theorem dX7_lineNow_122 : decode cX7_lineNow 122 = .ok (.bipush 108, 2) := by decide +kernel
theorem dX7_lineNow_124 : decode cX7_lineNow 124 = .ok (.bipush 97, 2) := by decide +kernel
theorem dX7_lineNow_126 : decode cX7_lineNow 126 = .ok (.invokevirtual 100, 3) := by decide +kernel
theorem dX7_lineNow_129 : decode cX7_lineNow 129 = .ok (.ifCond .eq 18, 3) := by decide +kernel
theorem dX7_lineNow_132 : decode cX7_lineNow 132 = .ok (.aload_n 0, 1) := by decide +kernel
theorem dX7_lineNow_133 : decode cX7_lineNow 133 = .ok (.bipush 110, 2) := by decide +kernel
theorem dX7_lineNow_135 : decode cX7_lineNow 135 = .ok (.iconst 0, 1) := by decide +kernel
theorem dX7_lineNow_136 : decode cX7_lineNow 136 = .ok (.iconst 0, 1) := by decide +kernel
theorem dX7_lineNow_137 : decode cX7_lineNow 137 = .ok (.invokevirtual 104, 3) := by decide +kernel
theorem dX7_lineNow_140 : decode cX7_lineNow 140 = .ok (.ifCond .eq 7, 3) := by decide +kernel
theorem dX7_lineNow_143 : decode cX7_lineNow 143 = .ok (.iconst 5, 1) := by decide +kernel
theorem dX7_lineNow_144 : decode cX7_lineNow 144 = .ok (.goto 35, 3) := by decide +kernel
theorem dX7_lineNow_147 : decode cX7_lineNow 147 = .ok (.aload_n 0, 1) := by decide +kernel
theorem dX7_lineNow_148 : decode cX7_lineNow 148 = .ok (.iconst 4, 1) := by decide +kernel
theorem dX7_lineNow_149 : decode cX7_lineNow 149 = .ok (.bipush 115, 2) := by decide +kernel
theorem dX7_lineNow_151 : decode cX7_lineNow 151 = .ok (.bipush 97, 2) := by decide +kernel
theorem dX7_lineNow_153 : decode cX7_lineNow 153 = .ok (.bipush 105, 2) := by decide +kernel
theorem dX7_lineNow_155 : decode cX7_lineNow 155 = .ok (.invokevirtual 100, 3) := by decide +kernel
theorem dX7_lineNow_158 : decode cX7_lineNow 158 = .ok (.ifCond .eq 19, 3) := by decide +kernel
theorem dX7_lineNow_161 : decode cX7_lineNow 161 = .ok (.aload_n 0, 1) := by decide +kernel
theorem dX7_lineNow_162 : decode cX7_lineNow 162 = .ok (.bipush 100, 2) := by decide +kernel
theorem dX7_lineNow_164 : decode cX7_lineNow 164 = .ok (.iconst 0, 1) := by decide +kernel
theorem dX7_lineNow_165 : decode cX7_lineNow 165 = .ok (.iconst 0, 1) := by decide +kernel
theorem dX7_lineNow_166 : decode cX7_lineNow 166 = .ok (.invokevirtual 104, 3) := by decide +kernel
theorem dX7_lineNow_169 : decode cX7_lineNow 169 = .ok (.ifCond .eq 8, 3) := by decide +kernel
theorem dX7_lineNow_172 : decode cX7_lineNow 172 = .ok (.bipush 6, 2) := by decide +kernel
theorem dX7_lineNow_174 : decode cX7_lineNow 174 = .ok (.goto 5, 3) := by decide +kernel
theorem dX7_lineNow_177 : decode cX7_lineNow 177 = .ok (.bipush (-4), 2) := by decide +kernel
theorem dX7_lineNow_179 : decode cX7_lineNow 179 = .ok (.ireturn, 1) := by decide +kernel
theorem dX7_next_0 : decode cX7_next 0 = .ok (.aload_n 0, 1) := by decide +kernel
theorem dX7_next_1 : decode cX7_next 1 = .ok (.getfield 84, 3) := by decide +kernel
theorem dX7_next_4 : decode cX7_next 4 = .ok (.ifCond .le 4, 3) := by decide +kernel
theorem dX7_next_7 : decode cX7_next 7 = .ok (.return_, 1) := by decide +kernel
theorem dX7_next_8 : decode cX7_next 8 = .ok (.aload_n 0, 1) := by decide +kernel
theorem dX7_next_9 : decode cX7_next 9 = .ok (.aload_n 0, 1) := by decide +kernel
theorem dX7_next_10 : decode cX7_next 10 = .ok (.getfield 93, 3) := by decide +kernel
theorem dX7_next_13 : decode cX7_next 13 = .ok (.invokevirtual 96, 3) := by decide +kernel
theorem dX7_next_16 : decode cX7_next 16 = .ok (.bipush 32, 2) := by decide +kernel
theorem dX7_next_18 : decode cX7_next 18 = .ok (.if_icmp .ne 16, 3) := by decide +kernel
theorem dX7_next_21 : decode cX7_next 21 = .ok (.aload_n 0, 1) := by decide +kernel
theorem dX7_next_22 : decode cX7_next 22 = .ok (.dup, 1) := by decide +kernel
theorem dX7_next_23 : decode cX7_next 23 = .ok (.getfield 93, 3) := by decide +kernel
theorem dX7_next_26 : decode cX7_next 26 = .ok (.iconst 1, 1) := by decide +kernel
theorem dX7_next_27 : decode cX7_next 27 = .ok (.iadd, 1) := by decide +kernel
theorem dX7_next_28 : decode cX7_next 28 = .ok (.putfield 93, 3) := by decide +kernel
theorem dX7_next_31 : decode cX7_next 31 = .ok (.goto (-23), 3) := by decide +kernel
theorem dX7_next_34 : decode cX7_next 34 = .ok (.aload_n 0, 1) := by decide +kernel
theorem dX7_next_35 : decode cX7_next 35 = .ok (.aload_n 0, 1) := by decide +kernel
theorem dX7_next_36 : decode cX7_next 36 = .ok (.getfield 93, 3) := by decide +kernel
theorem dX7_next_39 : decode cX7_next 39 = .ok (.putfield 87, 3) := by decide +kernel
theorem dX7_next_42 : decode cX7_next 42 = .ok (.aload_n 0, 1) := by decide +kernel
theorem dX7_next_43 : decode cX7_next 43 = .ok (.aload_n 0, 1) := by decide +kernel
theorem dX7_next_44 : decode cX7_next 44 = .ok (.getfield 93, 3) := by decide +kernel
theorem dX7_next_47 : decode cX7_next 47 = .ok (.invokevirtual 96, 3) := by decide +kernel
theorem dX7_next_50 : decode cX7_next 50 = .ok (.istore_n 1, 1) := by decide +kernel
theorem dX7_next_51 : decode cX7_next 51 = .ok (.iload_n 1, 1) := by decide +kernel
theorem dX7_next_52 : decode cX7_next 52 = .ok (.ifCond .ge 11, 3) := by decide +kernel
theorem dX7_next_55 : decode cX7_next 55 = .ok (.aload_n 0, 1) := by decide +kernel
theorem dX7_next_56 : decode cX7_next 56 = .ok (.iconst 0, 1) := by decide +kernel
theorem dX7_next_57 : decode cX7_next 57 = .ok (.putfield 108, 3) := by decide +kernel
theorem dX7_next_60 : decode cX7_next 60 = .ok (.goto 214, 3) := by decide +kernel
theorem dX7_next_63 : decode cX7_next 63 = .ok (.iload_n 1, 1) := by decide +kernel
theorem dX7_next_64 : decode cX7_next 64 = .ok (.i2l, 1) := by decide +kernel
theorem dX7_next_65 : decode cX7_next 65 = .ok (.ldc2_w 111, 3) := by decide +kernel
theorem dX7_next_68 : decode cX7_next 68 = .ok (.ldc2_w 113, 3) := by decide +kernel
theorem dX7_next_71 : decode cX7_next 71 = .ok (.invokestatic 77, 3) := by decide +kernel
theorem dX7_next_74 : decode cX7_next 74 = .ok (.ifCond .eq 42, 3) := by decide +kernel
theorem dX7_next_77 : decode cX7_next 77 = .ok (.aload_n 0, 1) := by decide +kernel
theorem dX7_next_78 : decode cX7_next 78 = .ok (.iconst 1, 1) := by decide +kernel
theorem dX7_next_79 : decode cX7_next 79 = .ok (.putfield 108, 3) := by decide +kernel
theorem dX7_next_82 : decode cX7_next 82 = .ok (.aload_n 0, 1) := by decide +kernel
theorem dX7_next_83 : decode cX7_next 83 = .ok (.aload_n 0, 1) := by decide +kernel
theorem dX7_next_84 : decode cX7_next 84 = .ok (.getfield 93, 3) := by decide +kernel
theorem dX7_next_87 : decode cX7_next 87 = .ok (.invokevirtual 96, 3) := by decide +kernel
theorem dX7_next_90 : decode cX7_next 90 = .ok (.i2l, 1) := by decide +kernel
theorem dX7_next_91 : decode cX7_next 91 = .ok (.ldc2_w 111, 3) := by decide +kernel
theorem dX7_next_94 : decode cX7_next 94 = .ok (.ldc2_w 113, 3) := by decide +kernel
theorem dX7_next_97 : decode cX7_next 97 = .ok (.invokestatic 77, 3) := by decide +kernel
theorem dX7_next_100 : decode cX7_next 100 = .ok (.ifCond .eq 174, 3) := by decide +kernel
theorem dX7_next_103 : decode cX7_next 103 = .ok (.aload_n 0, 1) := by decide +kernel
theorem dX7_next_104 : decode cX7_next 104 = .ok (.dup, 1) := by decide +kernel
theorem dX7_next_105 : decode cX7_next 105 = .ok (.getfield 93, 3) := by decide +kernel
theorem dX7_next_108 : decode cX7_next 108 = .ok (.iconst 1, 1) := by decide +kernel
theorem dX7_next_109 : decode cX7_next 109 = .ok (.iadd, 1) := by decide +kernel
theorem dX7_next_110 : decode cX7_next 110 = .ok (.putfield 93, 3) := by decide +kernel
theorem dX7_next_113 : decode cX7_next 113 = .ok (.goto (-31), 3) := by decide +kernel
theorem dX7_next_116 : decode cX7_next 116 = .ok (.iload_n 1, 1) := by decide +kernel
theorem dX7_next_117 : decode cX7_next 117 = .ok (.i2l, 1) := by decide +kernel
theorem dX7_next_118 : decode cX7_next 118 = .ok (.ldc2_w 115, 3) := by decide +kernel
theorem dX7_next_121 : decode cX7_next 121 = .ok (.ldc2_w 117, 3) := by decide +kernel
theorem dX7_next_124 : decode cX7_next 124 = .ok (.invokestatic 77, 3) := by decide +kernel
theorem dX7_next_127 : decode cX7_next 127 = .ok (.ifCond .eq 116, 3) := by decide +kernel
theorem dX7_next_130 : decode cX7_next 130 = .ok (.aload_n 0, 1) := by decide +kernel
theorem dX7_next_131 : decode cX7_next 131 = .ok (.iconst 2, 1) := by decide +kernel
theorem dX7_next_132 : decode cX7_next 132 = .ok (.putfield 108, 3) := by decide +kernel
theorem dX7_next_135 : decode cX7_next 135 = .ok (.aload_n 0, 1) := by decide +kernel
theorem dX7_next_136 : decode cX7_next 136 = .ok (.iconst 0, 1) := by decide +kernel
theorem dX7_next_137 : decode cX7_next 137 = .ok (.putfield 119, 3) := by decide +kernel
theorem dX7_next_140 : decode cX7_next 140 = .ok (.aload_n 0, 1) := by decide +kernel
theorem dX7_next_141 : decode cX7_next 141 = .ok (.aload_n 0, 1) := by decide +kernel
theorem dX7_next_142 : decode cX7_next 142 = .ok (.getfield 93, 3) := by decide +kernel
theorem dX7_next_145 : decode cX7_next 145 = .ok (.invokevirtual 96, 3) := by decide +kernel
theorem dX7_next_148 : decode cX7_next 148 = .ok (.i2l, 1) := by decide +kernel
theorem dX7_next_149 : decode cX7_next 149 = .ok (.ldc2_w 115, 3) := by decide +kernel
theorem dX7_next_152 : decode cX7_next 152 = .ok (.ldc2_w 117, 3) := by decide +kernel
theorem dX7_next_155 : decode cX7_next 155 = .ok (.invokestatic 77, 3) := by decide +kernel
theorem dX7_next_158 : decode cX7_next 158 = .ok (.ifCond .eq 59, 3) := by decide +kernel
theorem dX7_next_161 : decode cX7_next 161 = .ok (.aload_n 0, 1) := by decide +kernel
theorem dX7_next_162 : decode cX7_next 162 = .ok (.aload_n 0, 1) := by decide +kernel
theorem dX7_next_163 : decode cX7_next 163 = .ok (.getfield 93, 3) := by decide +kernel
theorem dX7_next_166 : decode cX7_next 166 = .ok (.aload_n 0, 1) := by decide +kernel
theorem dX7_next_167 : decode cX7_next 167 = .ok (.getfield 87, 3) := by decide +kernel
theorem dX7_next_170 : decode cX7_next 170 = .ok (.isub, 1) := by decide +kernel
theorem dX7_next_171 : decode cX7_next 171 = .ok (.iconst 2, 1) := by decide +kernel
theorem dX7_next_172 : decode cX7_next 172 = .ok (.if_icmp .ge 25, 3) := by decide +kernel
theorem dX7_next_175 : decode cX7_next 175 = .ok (.bipush 10, 2) := by decide +kernel
theorem dX7_next_177 : decode cX7_next 177 = .ok (.aload_n 0, 1) := by decide +kernel
theorem dX7_next_178 : decode cX7_next 178 = .ok (.getfield 119, 3) := by decide +kernel
theorem dX7_next_181 : decode cX7_next 181 = .ok (.imul, 1) := by decide +kernel
theorem dX7_next_182 : decode cX7_next 182 = .ok (.aload_n 0, 1) := by decide +kernel
theorem dX7_next_183 : decode cX7_next 183 = .ok (.aload_n 0, 1) := by decide +kernel
theorem dX7_next_184 : decode cX7_next 184 = .ok (.getfield 93, 3) := by decide +kernel
theorem dX7_next_187 : decode cX7_next 187 = .ok (.invokevirtual 96, 3) := by decide +kernel
theorem dX7_next_190 : decode cX7_next 190 = .ok (.iadd, 1) := by decide +kernel
theorem dX7_next_191 : decode cX7_next 191 = .ok (.bipush 48, 2) := by decide +kernel
theorem dX7_next_193 : decode cX7_next 193 = .ok (.isub, 1) := by decide +kernel
theorem dX7_next_194 : decode cX7_next 194 = .ok (.goto 7, 3) := by decide +kernel
theorem dX7_next_197 : decode cX7_next 197 = .ok (.aload_n 0, 1) := by decide +kernel
theorem dX7_next_198 : decode cX7_next 198 = .ok (.getfield 119, 3) := by decide +kernel
theorem dX7_next_201 : decode cX7_next 201 = .ok (.putfield 119, 3) := by decide +kernel
theorem dX7_next_204 : decode cX7_next 204 = .ok (.aload_n 0, 1) := by decide +kernel
theorem dX7_next_205 : decode cX7_next 205 = .ok (.dup, 1) := by decide +kernel
theorem dX7_next_206 : decode cX7_next 206 = .ok (.getfield 93, 3) := by decide +kernel
theorem dX7_next_209 : decode cX7_next 209 = .ok (.iconst 1, 1) := by decide +kernel
theorem dX7_next_210 : decode cX7_next 210 = .ok (.iadd, 1) := by decide +kernel
theorem dX7_next_211 : decode cX7_next 211 = .ok (.putfield 93, 3) := by decide +kernel
theorem dX7_next_214 : decode cX7_next 214 = .ok (.goto (-74), 3) := by decide +kernel
theorem dX7_next_217 : decode cX7_next 217 = .ok (.aload_n 0, 1) := by decide +kernel
theorem dX7_next_218 : decode cX7_next 218 = .ok (.aload_n 0, 1) := by decide +kernel
theorem dX7_next_219 : decode cX7_next 219 = .ok (.getfield 93, 3) := by decide +kernel
theorem dX7_next_222 : decode cX7_next 222 = .ok (.aload_n 0, 1) := by decide +kernel
theorem dX7_next_223 : decode cX7_next 223 = .ok (.getfield 87, 3) := by decide +kernel
theorem dX7_next_226 : decode cX7_next 226 = .ok (.isub, 1) := by decide +kernel
theorem dX7_next_227 : decode cX7_next 227 = .ok (.iconst 2, 1) := by decide +kernel
theorem dX7_next_228 : decode cX7_next 228 = .ok (.if_icmp .gt 7, 3) := by decide +kernel
theorem dX7_next_231 : decode cX7_next 231 = .ok (.iconst 1, 1) := by decide +kernel
theorem dX7_next_232 : decode cX7_next 232 = .ok (.goto 4, 3) := by decide +kernel
theorem dX7_next_235 : decode cX7_next 235 = .ok (.iconst 0, 1) := by decide +kernel
theorem dX7_next_236 : decode cX7_next 236 = .ok (.iconst 1, 1) := by decide +kernel
theorem dX7_next_237 : decode cX7_next 237 = .ok (.invokevirtual 122, 3) := by decide +kernel
theorem dX7_next_240 : decode cX7_next 240 = .ok (.goto 34, 3) := by decide +kernel
theorem dX7_next_243 : decode cX7_next 243 = .ok (.aload_n 0, 1) := by decide +kernel
theorem dX7_next_244 : decode cX7_next 244 = .ok (.iconst 3, 1) := by decide +kernel
theorem dX7_next_245 : decode cX7_next 245 = .ok (.putfield 108, 3) := by decide +kernel
theorem dX7_next_248 : decode cX7_next 248 = .ok (.aload_n 0, 1) := by decide +kernel
theorem dX7_next_249 : decode cX7_next 249 = .ok (.iload_n 1, 1) := by decide +kernel
theorem dX7_next_250 : decode cX7_next 250 = .ok (.bipush 59, 2) := by decide +kernel
theorem dX7_next_252 : decode cX7_next 252 = .ok (.if_icmp .ne 7, 3) := by decide +kernel
theorem dX7_next_255 : decode cX7_next 255 = .ok (.iconst 1, 1) := by decide +kernel
theorem dX7_next_256 : decode cX7_next 256 = .ok (.goto 4, 3) := by decide +kernel
theorem dX7_next_259 : decode cX7_next 259 = .ok (.iconst 0, 1) := by decide +kernel
theorem dX7_next_260 : decode cX7_next 260 = .ok (.iconst 1, 1) := by decide +kernel
theorem dX7_next_261 : decode cX7_next 261 = .ok (.invokevirtual 122, 3) := by decide +kernel
theorem dX7_next_264 : decode cX7_next 264 = .ok (.aload_n 0, 1) := by decide +kernel
theorem dX7_next_265 : decode cX7_next 265 = .ok (.dup, 1) := by decide +kernel
theorem dX7_next_266 : decode cX7_next 266 = .ok (.getfield 93, 3) := by decide +kernel
theorem dX7_next_269 : decode cX7_next 269 = .ok (.iconst 1, 1) := by decide +kernel
theorem dX7_next_270 : decode cX7_next 270 = .ok (.iadd, 1) := by decide +kernel
theorem dX7_next_271 : decode cX7_next 271 = .ok (.putfield 93, 3) := by decide +kernel
theorem dX7_next_274 : decode cX7_next 274 = .ok (.return_, 1) := by decide +kernel
theorem dX7_looked_0 : decode cX7_looked 0 = .ok (.aload_n 0, 1) := by decide +kernel
theorem dX7_looked_1 : decode cX7_looked 1 = .ok (.getfield 84, 3) := by decide +kernel
theorem dX7_looked_4 : decode cX7_looked 4 = .ok (.ifCond .ne 21, 3) := by decide +kernel
theorem dX7_looked_7 : decode cX7_looked 7 = .ok (.aload_n 0, 1) := by decide +kernel
theorem dX7_looked_8 : decode cX7_looked 8 = .ok (.aload_n 0, 1) := by decide +kernel
theorem dX7_looked_9 : decode cX7_looked 9 = .ok (.getfield 108, 3) := by decide +kernel
theorem dX7_looked_12 : decode cX7_looked 12 = .ok (.iconst 2, 1) := by decide +kernel
theorem dX7_looked_13 : decode cX7_looked 13 = .ok (.if_icmp .ne 7, 3) := by decide +kernel
theorem dX7_looked_16 : decode cX7_looked 16 = .ok (.iconst 1, 1) := by decide +kernel
theorem dX7_looked_17 : decode cX7_looked 17 = .ok (.goto 4, 3) := by decide +kernel
theorem dX7_looked_20 : decode cX7_looked 20 = .ok (.iconst 0, 1) := by decide +kernel
theorem dX7_looked_21 : decode cX7_looked 21 = .ok (.iconst 2, 1) := by decide +kernel
theorem dX7_looked_22 : decode cX7_looked 22 = .ok (.invokevirtual 122, 3) := by decide +kernel
theorem dX7_looked_25 : decode cX7_looked 25 = .ok (.aload_n 0, 1) := by decide +kernel
theorem dX7_looked_26 : decode cX7_looked 26 = .ok (.getfield 84, 3) := by decide +kernel
theorem dX7_looked_29 : decode cX7_looked 29 = .ok (.ifCond .ne 20, 3) := by decide +kernel
theorem dX7_looked_32 : decode cX7_looked 32 = .ok (.aload_n 0, 1) := by decide +kernel
theorem dX7_looked_33 : decode cX7_looked 33 = .ok (.aload_n 0, 1) := by decide +kernel
theorem dX7_looked_34 : decode cX7_looked 34 = .ok (.getfield 119, 3) := by decide +kernel
theorem dX7_looked_37 : decode cX7_looked 37 = .ok (.i2l, 1) := by decide +kernel
theorem dX7_looked_38 : decode cX7_looked 38 = .ok (.iload_n 1, 1) := by decide +kernel
theorem dX7_looked_39 : decode cX7_looked 39 = .ok (.i2l, 1) := by decide +kernel
theorem dX7_looked_40 : decode cX7_looked 40 = .ok (.iload_n 2, 1) := by decide +kernel
theorem dX7_looked_41 : decode cX7_looked 41 = .ok (.i2l, 1) := by decide +kernel
theorem dX7_looked_42 : decode cX7_looked 42 = .ok (.invokestatic 77, 3) := by decide +kernel
theorem dX7_looked_45 : decode cX7_looked 45 = .ok (.iconst 3, 1) := by decide +kernel
theorem dX7_looked_46 : decode cX7_looked 46 = .ok (.invokevirtual 122, 3) := by decide +kernel
theorem dX7_looked_49 : decode cX7_looked 49 = .ok (.aload_n 0, 1) := by decide +kernel
theorem dX7_looked_50 : decode cX7_looked 50 = .ok (.getfield 84, 3) := by decide +kernel
theorem dX7_looked_53 : decode cX7_looked 53 = .ok (.ifCond .ne 10, 3) := by decide +kernel
theorem dX7_looked_56 : decode cX7_looked 56 = .ok (.aload_n 0, 1) := by decide +kernel
theorem dX7_looked_57 : decode cX7_looked 57 = .ok (.getfield 119, 3) := by decide +kernel
theorem dX7_looked_60 : decode cX7_looked 60 = .ok (.goto 4, 3) := by decide +kernel
theorem dX7_looked_63 : decode cX7_looked 63 = .ok (.iconst 0, 1) := by decide +kernel
theorem dX7_looked_64 : decode cX7_looked 64 = .ok (.ireturn, 1) := by decide +kernel
theorem dX7_readNumber_0 : decode cX7_readNumber 0 = .ok (.aload_n 0, 1) := by decide +kernel
theorem dX7_readNumber_1 : decode cX7_readNumber 1 = .ok (.iload_n 1, 1) := by decide +kernel
theorem dX7_readNumber_2 : decode cX7_readNumber 2 = .ok (.iload_n 2, 1) := by decide +kernel
theorem dX7_readNumber_3 : decode cX7_readNumber 3 = .ok (.invokevirtual 126, 3) := by decide +kernel
theorem dX7_readNumber_6 : decode cX7_readNumber 6 = .ok (.istore_n 3, 1) := by decide +kernel
theorem dX7_readNumber_7 : decode cX7_readNumber 7 = .ok (.aload_n 0, 1) := by decide +kernel
theorem dX7_readNumber_8 : decode cX7_readNumber 8 = .ok (.invokevirtual 130, 3) := by decide +kernel
theorem dX7_readNumber_11 : decode cX7_readNumber 11 = .ok (.iload_n 3, 1) := by decide +kernel
theorem dX7_readNumber_12 : decode cX7_readNumber 12 = .ok (.ireturn, 1) := by decide +kernel
theorem dX7_readMore_0 : decode cX7_readMore 0 = .ok (.aload_n 0, 1) := by decide +kernel
theorem dX7_readMore_1 : decode cX7_readMore 1 = .ok (.iconst 0, 1) := by decide +kernel
theorem dX7_readMore_2 : decode cX7_readMore 2 = .ok (.iload_n 2, 1) := by decide +kernel
theorem dX7_readMore_3 : decode cX7_readMore 3 = .ok (.invokevirtual 126, 3) := by decide +kernel
theorem dX7_readMore_6 : decode cX7_readMore 6 = .ok (.istore_n 3, 1) := by decide +kernel
theorem dX7_readMore_7 : decode cX7_readMore 7 = .ok (.aload_n 0, 1) := by decide +kernel
theorem dX7_readMore_8 : decode cX7_readMore 8 = .ok (.getfield 84, 3) := by decide +kernel
theorem dX7_readMore_11 : decode cX7_readMore 11 = .ok (.ifCond .ne 21, 3) := by decide +kernel
theorem dX7_readMore_14 : decode cX7_readMore 14 = .ok (.aload_n 0, 1) := by decide +kernel
theorem dX7_readMore_15 : decode cX7_readMore 15 = .ok (.iload_n 1, 1) := by decide +kernel
theorem dX7_readMore_16 : decode cX7_readMore 16 = .ok (.iload_n 3, 1) := by decide +kernel
theorem dX7_readMore_17 : decode cX7_readMore 17 = .ok (.ishr, 1) := by decide +kernel
theorem dX7_readMore_18 : decode cX7_readMore 18 = .ok (.iconst 1, 1) := by decide +kernel
theorem dX7_readMore_19 : decode cX7_readMore 19 = .ok (.iand, 1) := by decide +kernel
theorem dX7_readMore_20 : decode cX7_readMore 20 = .ok (.ifCond .ne 7, 3) := by decide +kernel
theorem dX7_readMore_23 : decode cX7_readMore 23 = .ok (.iconst 1, 1) := by decide +kernel
theorem dX7_readMore_24 : decode cX7_readMore 24 = .ok (.goto 4, 3) := by decide +kernel
theorem dX7_readMore_27 : decode cX7_readMore 27 = .ok (.iconst 0, 1) := by decide +kernel
theorem dX7_readMore_28 : decode cX7_readMore 28 = .ok (.iconst 4, 1) := by decide +kernel
theorem dX7_readMore_29 : decode cX7_readMore 29 = .ok (.invokevirtual 122, 3) := by decide +kernel
theorem dX7_readMore_32 : decode cX7_readMore 32 = .ok (.aload_n 0, 1) := by decide +kernel
theorem dX7_readMore_33 : decode cX7_readMore 33 = .ok (.invokevirtual 130, 3) := by decide +kernel
theorem dX7_readMore_36 : decode cX7_readMore 36 = .ok (.aload_n 0, 1) := by decide +kernel
theorem dX7_readMore_37 : decode cX7_readMore 37 = .ok (.getfield 84, 3) := by decide +kernel
theorem dX7_readMore_40 : decode cX7_readMore 40 = .ok (.ifCond .ne 11, 3) := by decide +kernel
theorem dX7_readMore_43 : decode cX7_readMore 43 = .ok (.iload_n 1, 1) := by decide +kernel
theorem dX7_readMore_44 : decode cX7_readMore 44 = .ok (.iconst 1, 1) := by decide +kernel
theorem dX7_readMore_45 : decode cX7_readMore 45 = .ok (.iload_n 3, 1) := by decide +kernel
theorem dX7_readMore_46 : decode cX7_readMore 46 = .ok (.ishl, 1) := by decide +kernel
theorem dX7_readMore_47 : decode cX7_readMore 47 = .ok (.ior, 1) := by decide +kernel
theorem dX7_readMore_48 : decode cX7_readMore 48 = .ok (.goto 4, 3) := by decide +kernel
theorem dX7_readMore_51 : decode cX7_readMore 51 = .ok (.iload_n 1, 1) := by decide +kernel
theorem dX7_readMore_52 : decode cX7_readMore 52 = .ok (.ireturn, 1) := by decide +kernel
theorem dX7_readClaim_0 : decode cX7_readClaim 0 = .ok (.aload_n 0, 1) := by decide +kernel
theorem dX7_readClaim_1 : decode cX7_readClaim 1 = .ok (.iconst 0, 1) := by decide +kernel
theorem dX7_readClaim_2 : decode cX7_readClaim 2 = .ok (.bipush 7, 2) := by decide +kernel
theorem dX7_readClaim_4 : decode cX7_readClaim 4 = .ok (.invokevirtual 133, 3) := by decide +kernel
theorem dX7_readClaim_7 : decode cX7_readClaim 7 = .ok (.istore_n 1, 1) := by decide +kernel
theorem dX7_readClaim_8 : decode cX7_readClaim 8 = .ok (.aload_n 0, 1) := by decide +kernel
theorem dX7_readClaim_9 : decode cX7_readClaim 9 = .ok (.iload_n 1, 1) := by decide +kernel
theorem dX7_readClaim_10 : decode cX7_readClaim 10 = .ok (.aload_n 0, 1) := by decide +kernel
theorem dX7_readClaim_11 : decode cX7_readClaim 11 = .ok (.getfield 69, 3) := by decide +kernel
theorem dX7_readClaim_14 : decode cX7_readClaim 14 = .ok (.if_icmp .le 7, 3) := by decide +kernel
theorem dX7_readClaim_17 : decode cX7_readClaim 17 = .ok (.iload_n 1, 1) := by decide +kernel
theorem dX7_readClaim_18 : decode cX7_readClaim 18 = .ok (.goto 7, 3) := by decide +kernel
theorem dX7_readClaim_21 : decode cX7_readClaim 21 = .ok (.aload_n 0, 1) := by decide +kernel
theorem dX7_readClaim_22 : decode cX7_readClaim 22 = .ok (.getfield 69, 3) := by decide +kernel
theorem dX7_readClaim_25 : decode cX7_readClaim 25 = .ok (.putfield 69, 3) := by decide +kernel
theorem dX7_readClaim_28 : decode cX7_readClaim 28 = .ok (.iload_n 1, 1) := by decide +kernel
theorem dX7_readClaim_29 : decode cX7_readClaim 29 = .ok (.ireturn, 1) := by decide +kernel
theorem dX7_isUnless_0 : decode cX7_isUnless 0 = .ok (.aload_n 0, 1) := by decide +kernel
theorem dX7_isUnless_1 : decode cX7_isUnless 1 = .ok (.getfield 108, 3) := by decide +kernel
theorem dX7_isUnless_4 : decode cX7_isUnless 4 = .ok (.iconst 1, 1) := by decide +kernel
theorem dX7_isUnless_5 : decode cX7_isUnless 5 = .ok (.if_icmp .ne 35, 3) := by decide +kernel
theorem dX7_isUnless_8 : decode cX7_isUnless 8 = .ok (.aload_n 0, 1) := by decide +kernel
theorem dX7_isUnless_9 : decode cX7_isUnless 9 = .ok (.bipush 6, 2) := by decide +kernel
theorem dX7_isUnless_11 : decode cX7_isUnless 11 = .ok (.bipush 117, 2) := by decide +kernel
theorem dX7_isUnless_13 : decode cX7_isUnless 13 = .ok (.bipush 110, 2) := by decide +kernel
theorem dX7_isUnless_15 : decode cX7_isUnless 15 = .ok (.bipush 108, 2) := by decide +kernel
theorem dX7_isUnless_17 : decode cX7_isUnless 17 = .ok (.invokevirtual 100, 3) := by decide +kernel
theorem dX7_isUnless_20 : decode cX7_isUnless 20 = .ok (.ifCond .eq 20, 3) := by decide +kernel
theorem dX7_isUnless_23 : decode cX7_isUnless 23 = .ok (.aload_n 0, 1) := by decide +kernel
theorem dX7_isUnless_24 : decode cX7_isUnless 24 = .ok (.bipush 101, 2) := by decide +kernel
theorem dX7_isUnless_26 : decode cX7_isUnless 26 = .ok (.bipush 115, 2) := by decide +kernel
theorem dX7_isUnless_28 : decode cX7_isUnless 28 = .ok (.bipush 115, 2) := by decide +kernel
theorem dX7_isUnless_30 : decode cX7_isUnless 30 = .ok (.invokevirtual 104, 3) := by decide +kernel
theorem dX7_isUnless_33 : decode cX7_isUnless 33 = .ok (.ifCond .eq 7, 3) := by decide +kernel
theorem dX7_isUnless_36 : decode cX7_isUnless 36 = .ok (.iconst 1, 1) := by decide +kernel
theorem dX7_isUnless_37 : decode cX7_isUnless 37 = .ok (.goto 4, 3) := by decide +kernel
theorem dX7_isUnless_40 : decode cX7_isUnless 40 = .ok (.iconst 0, 1) := by decide +kernel
theorem dX7_isUnless_41 : decode cX7_isUnless 41 = .ok (.ireturn, 1) := by decide +kernel
theorem dX7_readWhole_0 : decode cX7_readWhole 0 = .ok (.aload_n 0, 1) := by decide +kernel
theorem dX7_readWhole_1 : decode cX7_readWhole 1 = .ok (.getfield 62, 3) := by decide +kernel
theorem dX7_readWhole_4 : decode cX7_readWhole 4 = .ok (.istore_n 2, 1) := by decide +kernel
theorem dX7_readWhole_5 : decode cX7_readWhole 5 = .ok (.aload_n 0, 1) := by decide +kernel
theorem dX7_readWhole_6 : decode cX7_readWhole 6 = .ok (.getfield 29, 3) := by decide +kernel
theorem dX7_readWhole_9 : decode cX7_readWhole 9 = .ok (.iload_n 2, 1) := by decide +kernel
theorem dX7_readWhole_10 : decode cX7_readWhole 10 = .ok (.iload_n 1, 1) := by decide +kernel
theorem dX7_readWhole_11 : decode cX7_readWhole 11 = .ok (.iastore, 1) := by decide +kernel
theorem dX7_readWhole_12 : decode cX7_readWhole 12 = .ok (.aload_n 0, 1) := by decide +kernel
theorem dX7_readWhole_13 : decode cX7_readWhole 13 = .ok (.getfield 32, 3) := by decide +kernel
theorem dX7_readWhole_16 : decode cX7_readWhole 16 = .ok (.iload_n 2, 1) := by decide +kernel
theorem dX7_readWhole_17 : decode cX7_readWhole 17 = .ok (.aload_n 0, 1) := by decide +kernel
theorem dX7_readWhole_18 : decode cX7_readWhole 18 = .ok (.iconst 0, 1) := by decide +kernel
theorem dX7_readWhole_19 : decode cX7_readWhole 19 = .ok (.bipush 9, 2) := by decide +kernel
theorem dX7_readWhole_21 : decode cX7_readWhole 21 = .ok (.invokevirtual 133, 3) := by decide +kernel
theorem dX7_readWhole_24 : decode cX7_readWhole 24 = .ok (.iastore, 1) := by decide +kernel
theorem dX7_readWhole_25 : decode cX7_readWhole 25 = .ok (.aload_n 0, 1) := by decide +kernel
theorem dX7_readWhole_26 : decode cX7_readWhole 26 = .ok (.getfield 35, 3) := by decide +kernel
theorem dX7_readWhole_29 : decode cX7_readWhole 29 = .ok (.iload_n 2, 1) := by decide +kernel
theorem dX7_readWhole_30 : decode cX7_readWhole 30 = .ok (.aload_n 0, 1) := by decide +kernel
theorem dX7_readWhole_31 : decode cX7_readWhole 31 = .ok (.aload_n 0, 1) := by decide +kernel
theorem dX7_readWhole_32 : decode cX7_readWhole 32 = .ok (.getfield 32, 3) := by decide +kernel
theorem dX7_readWhole_35 : decode cX7_readWhole 35 = .ok (.iload_n 2, 1) := by decide +kernel
theorem dX7_readWhole_36 : decode cX7_readWhole 36 = .ok (.iaload, 1) := by decide +kernel
theorem dX7_readWhole_37 : decode cX7_readWhole 37 = .ok (.bipush 9, 2) := by decide +kernel
theorem dX7_readWhole_39 : decode cX7_readWhole 39 = .ok (.invokevirtual 133, 3) := by decide +kernel
theorem dX7_readWhole_42 : decode cX7_readWhole 42 = .ok (.iastore, 1) := by decide +kernel
theorem dX7_readWhole_43 : decode cX7_readWhole 43 = .ok (.aload_n 0, 1) := by decide +kernel
theorem dX7_readWhole_44 : decode cX7_readWhole 44 = .ok (.getfield 26, 3) := by decide +kernel
theorem dX7_readWhole_47 : decode cX7_readWhole 47 = .ok (.bipush 16, 2) := by decide +kernel
theorem dX7_readWhole_49 : decode cX7_readWhole 49 = .ok (.iload_n 2, 1) := by decide +kernel
theorem dX7_readWhole_50 : decode cX7_readWhole 50 = .ok (.iadd, 1) := by decide +kernel
theorem dX7_readWhole_51 : decode cX7_readWhole 51 = .ok (.aload_n 0, 1) := by decide +kernel
theorem dX7_readWhole_52 : decode cX7_readWhole 52 = .ok (.iconst 0, 1) := by decide +kernel
theorem dX7_readWhole_53 : decode cX7_readWhole 53 = .ok (.bipush 9, 2) := by decide +kernel
theorem dX7_readWhole_55 : decode cX7_readWhole 55 = .ok (.invokevirtual 133, 3) := by decide +kernel
theorem dX7_readWhole_58 : decode cX7_readWhole 58 = .ok (.iastore, 1) := by decide +kernel
theorem dX7_readWhole_59 : decode cX7_readWhole 59 = .ok (.iconst 0, 1) := by decide +kernel
theorem dX7_readWhole_60 : decode cX7_readWhole 60 = .ok (.istore_n 3, 1) := by decide +kernel
theorem dX7_readWhole_61 : decode cX7_readWhole 61 = .ok (.aload_n 0, 1) := by decide +kernel
theorem dX7_readWhole_62 : decode cX7_readWhole 62 = .ok (.getfield 84, 3) := by decide +kernel
theorem dX7_readWhole_65 : decode cX7_readWhole 65 = .ok (.ifCond .ne 23, 3) := by decide +kernel
theorem dX7_readWhole_68 : decode cX7_readWhole 68 = .ok (.aload_n 0, 1) := by decide +kernel
theorem dX7_readWhole_69 : decode cX7_readWhole 69 = .ok (.getfield 108, 3) := by decide +kernel
theorem dX7_readWhole_72 : decode cX7_readWhole 72 = .ok (.iconst 2, 1) := by decide +kernel
theorem dX7_readWhole_73 : decode cX7_readWhole 73 = .ok (.if_icmp .ne 15, 3) := by decide +kernel
theorem dX7_readWhole_76 : decode cX7_readWhole 76 = .ok (.aload_n 0, 1) := by decide +kernel
theorem dX7_readWhole_77 : decode cX7_readWhole 77 = .ok (.iload_n 3, 1) := by decide +kernel
theorem dX7_readWhole_78 : decode cX7_readWhole 78 = .ok (.iload_n 2, 1) := by decide +kernel
theorem dX7_readWhole_79 : decode cX7_readWhole 79 = .ok (.iconst 1, 1) := by decide +kernel
theorem dX7_readWhole_80 : decode cX7_readWhole 80 = .ok (.isub, 1) := by decide +kernel
theorem dX7_readWhole_81 : decode cX7_readWhole 81 = .ok (.invokevirtual 136, 3) := by decide +kernel
theorem dX7_readWhole_84 : decode cX7_readWhole 84 = .ok (.istore_n 3, 1) := by decide +kernel
theorem dX7_readWhole_85 : decode cX7_readWhole 85 = .ok (.goto (-24), 3) := by decide +kernel
theorem dX7_readWhole_88 : decode cX7_readWhole 88 = .ok (.aload_n 0, 1) := by decide +kernel
theorem dX7_readWhole_89 : decode cX7_readWhole 89 = .ok (.getfield 26, 3) := by decide +kernel
theorem dX7_readWhole_92 : decode cX7_readWhole 92 = .ok (.iconst 0, 1) := by decide +kernel
theorem dX7_readWhole_93 : decode cX7_readWhole 93 = .ok (.iload_n 2, 1) := by decide +kernel
theorem dX7_readWhole_94 : decode cX7_readWhole 94 = .ok (.iadd, 1) := by decide +kernel
theorem dX7_readWhole_95 : decode cX7_readWhole 95 = .ok (.iload_n 3, 1) := by decide +kernel
theorem dX7_readWhole_96 : decode cX7_readWhole 96 = .ok (.iastore, 1) := by decide +kernel
theorem dX7_readWhole_97 : decode cX7_readWhole 97 = .ok (.aload_n 0, 1) := by decide +kernel
theorem dX7_readWhole_98 : decode cX7_readWhole 98 = .ok (.getfield 84, 3) := by decide +kernel
theorem dX7_readWhole_101 : decode cX7_readWhole 101 = .ok (.ifCond .ne 48, 3) := by decide +kernel
theorem dX7_readWhole_104 : decode cX7_readWhole 104 = .ok (.aload_n 0, 1) := by decide +kernel
theorem dX7_readWhole_105 : decode cX7_readWhole 105 = .ok (.getfield 108, 3) := by decide +kernel
theorem dX7_readWhole_108 : decode cX7_readWhole 108 = .ok (.iconst 1, 1) := by decide +kernel
theorem dX7_readWhole_109 : decode cX7_readWhole 109 = .ok (.if_icmp .ne 40, 3) := by decide +kernel
theorem dX7_readWhole_112 : decode cX7_readWhole 112 = .ok (.aload_n 0, 1) := by decide +kernel
theorem dX7_readWhole_113 : decode cX7_readWhole 113 = .ok (.aload_n 0, 1) := by decide +kernel
theorem dX7_readWhole_114 : decode cX7_readWhole 114 = .ok (.invokevirtual 139, 3) := by decide +kernel
theorem dX7_readWhole_117 : decode cX7_readWhole 117 = .ok (.iconst 2, 1) := by decide +kernel
theorem dX7_readWhole_118 : decode cX7_readWhole 118 = .ok (.invokevirtual 122, 3) := by decide +kernel
theorem dX7_readWhole_121 : decode cX7_readWhole 121 = .ok (.aload_n 0, 1) := by decide +kernel
theorem dX7_readWhole_122 : decode cX7_readWhole 122 = .ok (.invokevirtual 130, 3) := by decide +kernel
theorem dX7_readWhole_125 : decode cX7_readWhole 125 = .ok (.aload_n 0, 1) := by decide +kernel
theorem dX7_readWhole_126 : decode cX7_readWhole 126 = .ok (.iload_n 3, 1) := by decide +kernel
theorem dX7_readWhole_127 : decode cX7_readWhole 127 = .ok (.iload_n 2, 1) := by decide +kernel
theorem dX7_readWhole_128 : decode cX7_readWhole 128 = .ok (.iconst 1, 1) := by decide +kernel
theorem dX7_readWhole_129 : decode cX7_readWhole 129 = .ok (.isub, 1) := by decide +kernel
theorem dX7_readWhole_130 : decode cX7_readWhole 130 = .ok (.invokevirtual 136, 3) := by decide +kernel
theorem dX7_readWhole_133 : decode cX7_readWhole 133 = .ok (.istore_n 3, 1) := by decide +kernel
theorem dX7_readWhole_134 : decode cX7_readWhole 134 = .ok (.aload_n 0, 1) := by decide +kernel
theorem dX7_readWhole_135 : decode cX7_readWhole 135 = .ok (.getfield 84, 3) := by decide +kernel
theorem dX7_readWhole_138 : decode cX7_readWhole 138 = .ok (.ifCond .ne 11, 3) := by decide +kernel
theorem dX7_readWhole_141 : decode cX7_readWhole 141 = .ok (.aload_n 0, 1) := by decide +kernel
theorem dX7_readWhole_142 : decode cX7_readWhole 142 = .ok (.getfield 108, 3) := by decide +kernel
theorem dX7_readWhole_145 : decode cX7_readWhole 145 = .ok (.iconst 2, 1) := by decide +kernel
theorem dX7_readWhole_146 : decode cX7_readWhole 146 = .ok (.if_icmp .eq (-21), 3) := by decide +kernel
theorem dX7_readWhole_149 : decode cX7_readWhole 149 = .ok (.aload_n 0, 1) := by decide +kernel
theorem dX7_readWhole_150 : decode cX7_readWhole 150 = .ok (.getfield 26, 3) := by decide +kernel
theorem dX7_readWhole_153 : decode cX7_readWhole 153 = .ok (.bipush 8, 2) := by decide +kernel
theorem dX7_readWhole_155 : decode cX7_readWhole 155 = .ok (.iload_n 2, 1) := by decide +kernel
theorem dX7_readWhole_156 : decode cX7_readWhole 156 = .ok (.iadd, 1) := by decide +kernel
theorem dX7_readWhole_157 : decode cX7_readWhole 157 = .ok (.iload_n 3, 1) := by decide +kernel
theorem dX7_readWhole_158 : decode cX7_readWhole 158 = .ok (.aload_n 0, 1) := by decide +kernel
theorem dX7_readWhole_159 : decode cX7_readWhole 159 = .ok (.getfield 26, 3) := by decide +kernel
theorem dX7_readWhole_162 : decode cX7_readWhole 162 = .ok (.iconst 0, 1) := by decide +kernel
theorem dX7_readWhole_163 : decode cX7_readWhole 163 = .ok (.iload_n 2, 1) := by decide +kernel
theorem dX7_readWhole_164 : decode cX7_readWhole 164 = .ok (.iadd, 1) := by decide +kernel
theorem dX7_readWhole_165 : decode cX7_readWhole 165 = .ok (.iaload, 1) := by decide +kernel
theorem dX7_readWhole_166 : decode cX7_readWhole 166 = .ok (.iconst (-1), 1) := by decide +kernel
theorem dX7_readWhole_167 : decode cX7_readWhole 167 = .ok (.ixor, 1) := by decide +kernel
theorem dX7_readWhole_168 : decode cX7_readWhole 168 = .ok (.iand, 1) := by decide +kernel
theorem dX7_readWhole_169 : decode cX7_readWhole 169 = .ok (.iastore, 1) := by decide +kernel
theorem dX7_readWhole_170 : decode cX7_readWhole 170 = .ok (.aload_n 0, 1) := by decide +kernel
theorem dX7_readWhole_171 : decode cX7_readWhole 171 = .ok (.dup, 1) := by decide +kernel
theorem dX7_readWhole_172 : decode cX7_readWhole 172 = .ok (.getfield 62, 3) := by decide +kernel
theorem dX7_readWhole_175 : decode cX7_readWhole 175 = .ok (.iconst 1, 1) := by decide +kernel
theorem dX7_readWhole_176 : decode cX7_readWhole 176 = .ok (.iadd, 1) := by decide +kernel
theorem dX7_readWhole_177 : decode cX7_readWhole 177 = .ok (.putfield 62, 3) := by decide +kernel
theorem dX7_readWhole_180 : decode cX7_readWhole 180 = .ok (.return_, 1) := by decide +kernel
theorem dX7_readLineOf_0 : decode cX7_readLineOf 0 = .ok (.iload_n 1, 1) := by decide +kernel
theorem dX7_readLineOf_1 : decode cX7_readLineOf 1 = .ok (.tableswitch 153 3 6 #[31, 45, 62, 95], 31) := by decide +kernel
theorem dX7_readLineOf_32 : decode cX7_readLineOf 32 = .ok (.aload_n 0, 1) := by decide +kernel
theorem dX7_readLineOf_33 : decode cX7_readLineOf 33 = .ok (.getfield 26, 3) := by decide +kernel
theorem dX7_readLineOf_36 : decode cX7_readLineOf 36 = .ok (.bipush 25, 2) := by decide +kernel
theorem dX7_readLineOf_38 : decode cX7_readLineOf 38 = .ok (.aload_n 0, 1) := by decide +kernel
theorem dX7_readLineOf_39 : decode cX7_readLineOf 39 = .ok (.invokevirtual 143, 3) := by decide +kernel
theorem dX7_readLineOf_42 : decode cX7_readLineOf 42 = .ok (.iastore, 1) := by decide +kernel
theorem dX7_readLineOf_43 : decode cX7_readLineOf 43 = .ok (.goto 116, 3) := by decide +kernel
theorem dX7_readLineOf_46 : decode cX7_readLineOf 46 = .ok (.aload_n 0, 1) := by decide +kernel
theorem dX7_readLineOf_47 : decode cX7_readLineOf 47 = .ok (.getfield 26, 3) := by decide +kernel
theorem dX7_readLineOf_50 : decode cX7_readLineOf 50 = .ok (.bipush 26, 2) := by decide +kernel
theorem dX7_readLineOf_52 : decode cX7_readLineOf 52 = .ok (.aload_n 0, 1) := by decide +kernel
theorem dX7_readLineOf_53 : decode cX7_readLineOf 53 = .ok (.iconst 0, 1) := by decide +kernel
theorem dX7_readLineOf_54 : decode cX7_readLineOf 54 = .ok (.bipush 9, 2) := by decide +kernel
theorem dX7_readLineOf_56 : decode cX7_readLineOf 56 = .ok (.invokevirtual 133, 3) := by decide +kernel
theorem dX7_readLineOf_59 : decode cX7_readLineOf 59 = .ok (.iastore, 1) := by decide +kernel
theorem dX7_readLineOf_60 : decode cX7_readLineOf 60 = .ok (.goto 99, 3) := by decide +kernel
theorem dX7_readLineOf_63 : decode cX7_readLineOf 63 = .ok (.aload_n 0, 1) := by decide +kernel
theorem dX7_readLineOf_64 : decode cX7_readLineOf 64 = .ok (.getfield 26, 3) := by decide +kernel
theorem dX7_readLineOf_67 : decode cX7_readLineOf 67 = .ok (.bipush 28, 2) := by decide +kernel
theorem dX7_readLineOf_69 : decode cX7_readLineOf 69 = .ok (.aload_n 0, 1) := by decide +kernel
theorem dX7_readLineOf_70 : decode cX7_readLineOf 70 = .ok (.getfield 26, 3) := by decide +kernel
theorem dX7_readLineOf_73 : decode cX7_readLineOf 73 = .ok (.bipush 27, 2) := by decide +kernel
theorem dX7_readLineOf_75 : decode cX7_readLineOf 75 = .ok (.iaload, 1) := by decide +kernel
theorem dX7_readLineOf_76 : decode cX7_readLineOf 76 = .ok (.iadd, 1) := by decide +kernel
theorem dX7_readLineOf_77 : decode cX7_readLineOf 77 = .ok (.aload_n 0, 1) := by decide +kernel
theorem dX7_readLineOf_78 : decode cX7_readLineOf 78 = .ok (.invokevirtual 143, 3) := by decide +kernel
theorem dX7_readLineOf_81 : decode cX7_readLineOf 81 = .ok (.iastore, 1) := by decide +kernel
theorem dX7_readLineOf_82 : decode cX7_readLineOf 82 = .ok (.aload_n 0, 1) := by decide +kernel
theorem dX7_readLineOf_83 : decode cX7_readLineOf 83 = .ok (.getfield 26, 3) := by decide +kernel
theorem dX7_readLineOf_86 : decode cX7_readLineOf 86 = .ok (.bipush 27, 2) := by decide +kernel
theorem dX7_readLineOf_88 : decode cX7_readLineOf 88 = .ok (.dup2, 1) := by decide +kernel
theorem dX7_readLineOf_89 : decode cX7_readLineOf 89 = .ok (.iaload, 1) := by decide +kernel
theorem dX7_readLineOf_90 : decode cX7_readLineOf 90 = .ok (.iconst 1, 1) := by decide +kernel
theorem dX7_readLineOf_91 : decode cX7_readLineOf 91 = .ok (.iadd, 1) := by decide +kernel
theorem dX7_readLineOf_92 : decode cX7_readLineOf 92 = .ok (.iastore, 1) := by decide +kernel
theorem dX7_readLineOf_93 : decode cX7_readLineOf 93 = .ok (.goto 66, 3) := by decide +kernel
theorem dX7_readLineOf_96 : decode cX7_readLineOf 96 = .ok (.aload_n 0, 1) := by decide +kernel
theorem dX7_readLineOf_97 : decode cX7_readLineOf 97 = .ok (.iconst 0, 1) := by decide +kernel
theorem dX7_readLineOf_98 : decode cX7_readLineOf 98 = .ok (.bipush 7, 2) := by decide +kernel
theorem dX7_readLineOf_100 : decode cX7_readLineOf 100 = .ok (.invokevirtual 126, 3) := by decide +kernel
theorem dX7_readLineOf_103 : decode cX7_readLineOf 103 = .ok (.istore_n 2, 1) := by decide +kernel
theorem dX7_readLineOf_104 : decode cX7_readLineOf 104 = .ok (.aload_n 0, 1) := by decide +kernel
theorem dX7_readLineOf_105 : decode cX7_readLineOf 105 = .ok (.aload_n 0, 1) := by decide +kernel
theorem dX7_readLineOf_106 : decode cX7_readLineOf 106 = .ok (.getfield 84, 3) := by decide +kernel
theorem dX7_readLineOf_109 : decode cX7_readLineOf 109 = .ok (.ifCond .ne 15, 3) := by decide +kernel
theorem dX7_readLineOf_112 : decode cX7_readLineOf 112 = .ok (.iload_n 2, 1) := by decide +kernel
theorem dX7_readLineOf_113 : decode cX7_readLineOf 113 = .ok (.aload_n 0, 1) := by decide +kernel
theorem dX7_readLineOf_114 : decode cX7_readLineOf 114 = .ok (.getfield 69, 3) := by decide +kernel
theorem dX7_readLineOf_117 : decode cX7_readLineOf 117 = .ok (.if_icmp .le 7, 3) := by decide +kernel
theorem dX7_readLineOf_120 : decode cX7_readLineOf 120 = .ok (.iload_n 2, 1) := by decide +kernel
theorem dX7_readLineOf_121 : decode cX7_readLineOf 121 = .ok (.goto 7, 3) := by decide +kernel
theorem dX7_readLineOf_124 : decode cX7_readLineOf 124 = .ok (.aload_n 0, 1) := by decide +kernel
theorem dX7_readLineOf_125 : decode cX7_readLineOf 125 = .ok (.getfield 69, 3) := by decide +kernel
theorem dX7_readLineOf_128 : decode cX7_readLineOf 128 = .ok (.putfield 69, 3) := by decide +kernel
theorem dX7_readLineOf_131 : decode cX7_readLineOf 131 = .ok (.aload_n 0, 1) := by decide +kernel
theorem dX7_readLineOf_132 : decode cX7_readLineOf 132 = .ok (.getfield 26, 3) := by decide +kernel
theorem dX7_readLineOf_135 : decode cX7_readLineOf 135 = .ok (.bipush 24, 2) := by decide +kernel
theorem dX7_readLineOf_137 : decode cX7_readLineOf 137 = .ok (.aload_n 0, 1) := by decide +kernel
theorem dX7_readLineOf_138 : decode cX7_readLineOf 138 = .ok (.aload_n 0, 1) := by decide +kernel
theorem dX7_readLineOf_139 : decode cX7_readLineOf 139 = .ok (.getfield 26, 3) := by decide +kernel
theorem dX7_readLineOf_142 : decode cX7_readLineOf 142 = .ok (.bipush 24, 2) := by decide +kernel
theorem dX7_readLineOf_144 : decode cX7_readLineOf 144 = .ok (.iaload, 1) := by decide +kernel
theorem dX7_readLineOf_145 : decode cX7_readLineOf 145 = .ok (.bipush 7, 2) := by decide +kernel
theorem dX7_readLineOf_147 : decode cX7_readLineOf 147 = .ok (.invokevirtual 136, 3) := by decide +kernel
theorem dX7_readLineOf_150 : decode cX7_readLineOf 150 = .ok (.iastore, 1) := by decide +kernel
theorem dX7_readLineOf_151 : decode cX7_readLineOf 151 = .ok (.goto 8, 3) := by decide +kernel
theorem dX7_readLineOf_154 : decode cX7_readLineOf 154 = .ok (.aload_n 0, 1) := by decide +kernel
theorem dX7_readLineOf_155 : decode cX7_readLineOf 155 = .ok (.iload_n 1, 1) := by decide +kernel
theorem dX7_readLineOf_156 : decode cX7_readLineOf 156 = .ok (.invokevirtual 147, 3) := by decide +kernel
theorem dX7_readLineOf_159 : decode cX7_readLineOf 159 = .ok (.return_, 1) := by decide +kernel
theorem dX7_readLine_0 : decode cX7_readLine 0 = .ok (.aload_n 0, 1) := by decide +kernel
theorem dX7_readLine_1 : decode cX7_readLine 1 = .ok (.getfield 108, 3) := by decide +kernel
theorem dX7_readLine_4 : decode cX7_readLine 4 = .ok (.iconst 1, 1) := by decide +kernel
theorem dX7_readLine_5 : decode cX7_readLine 5 = .ok (.if_icmp .ne 10, 3) := by decide +kernel
theorem dX7_readLine_8 : decode cX7_readLine 8 = .ok (.aload_n 0, 1) := by decide +kernel
theorem dX7_readLine_9 : decode cX7_readLine 9 = .ok (.invokevirtual 151, 3) := by decide +kernel
theorem dX7_readLine_12 : decode cX7_readLine 12 = .ok (.goto 5, 3) := by decide +kernel
theorem dX7_readLine_15 : decode cX7_readLine 15 = .ok (.bipush (-4), 2) := by decide +kernel
theorem dX7_readLine_17 : decode cX7_readLine 17 = .ok (.istore_n 1, 1) := by decide +kernel
theorem dX7_readLine_18 : decode cX7_readLine 18 = .ok (.aload_n 0, 1) := by decide +kernel
theorem dX7_readLine_19 : decode cX7_readLine 19 = .ok (.iload_n 1, 1) := by decide +kernel
theorem dX7_readLine_20 : decode cX7_readLine 20 = .ok (.bipush (-4), 2) := by decide +kernel
theorem dX7_readLine_22 : decode cX7_readLine 22 = .ok (.if_icmp .eq 7, 3) := by decide +kernel
theorem dX7_readLine_25 : decode cX7_readLine 25 = .ok (.iconst 1, 1) := by decide +kernel
theorem dX7_readLine_26 : decode cX7_readLine 26 = .ok (.goto 4, 3) := by decide +kernel
theorem dX7_readLine_29 : decode cX7_readLine 29 = .ok (.iconst 0, 1) := by decide +kernel
theorem dX7_readLine_30 : decode cX7_readLine 30 = .ok (.iconst 2, 1) := by decide +kernel
theorem dX7_readLine_31 : decode cX7_readLine 31 = .ok (.invokevirtual 122, 3) := by decide +kernel
theorem dX7_readLine_34 : decode cX7_readLine 34 = .ok (.aload_n 0, 1) := by decide +kernel
theorem dX7_readLine_35 : decode cX7_readLine 35 = .ok (.iload_n 1, 1) := by decide +kernel
theorem dX7_readLine_36 : decode cX7_readLine 36 = .ok (.iconst 2, 1) := by decide +kernel
theorem dX7_readLine_37 : decode cX7_readLine 37 = .ok (.if_icmp .gt 12, 3) := by decide +kernel
theorem dX7_readLine_40 : decode cX7_readLine 40 = .ok (.aload_n 0, 1) := by decide +kernel
theorem dX7_readLine_41 : decode cX7_readLine 41 = .ok (.getfield 62, 3) := by decide +kernel
theorem dX7_readLine_44 : decode cX7_readLine 44 = .ok (.bipush 8, 2) := by decide +kernel
theorem dX7_readLine_46 : decode cX7_readLine 46 = .ok (.if_icmp .ge 24, 3) := by decide +kernel
theorem dX7_readLine_49 : decode cX7_readLine 49 = .ok (.iload_n 1, 1) := by decide +kernel
theorem dX7_readLine_50 : decode cX7_readLine 50 = .ok (.iconst 5, 1) := by decide +kernel
theorem dX7_readLine_51 : decode cX7_readLine 51 = .ok (.if_icmp .ne 15, 3) := by decide +kernel
theorem dX7_readLine_54 : decode cX7_readLine 54 = .ok (.aload_n 0, 1) := by decide +kernel
theorem dX7_readLine_55 : decode cX7_readLine 55 = .ok (.getfield 26, 3) := by decide +kernel
theorem dX7_readLine_58 : decode cX7_readLine 58 = .ok (.bipush 27, 2) := by decide +kernel
theorem dX7_readLine_60 : decode cX7_readLine 60 = .ok (.iaload, 1) := by decide +kernel
theorem dX7_readLine_61 : decode cX7_readLine 61 = .ok (.bipush 6, 2) := by decide +kernel
theorem dX7_readLine_63 : decode cX7_readLine 63 = .ok (.if_icmp .ge 7, 3) := by decide +kernel
theorem dX7_readLine_66 : decode cX7_readLine 66 = .ok (.iconst 1, 1) := by decide +kernel
theorem dX7_readLine_67 : decode cX7_readLine 67 = .ok (.goto 4, 3) := by decide +kernel
theorem dX7_readLine_70 : decode cX7_readLine 70 = .ok (.iconst 0, 1) := by decide +kernel
theorem dX7_readLine_71 : decode cX7_readLine 71 = .ok (.iconst 5, 1) := by decide +kernel
theorem dX7_readLine_72 : decode cX7_readLine 72 = .ok (.invokevirtual 122, 3) := by decide +kernel
theorem dX7_readLine_75 : decode cX7_readLine 75 = .ok (.aload_n 0, 1) := by decide +kernel
theorem dX7_readLine_76 : decode cX7_readLine 76 = .ok (.getfield 84, 3) := by decide +kernel
theorem dX7_readLine_79 : decode cX7_readLine 79 = .ok (.ifCond .ne 50, 3) := by decide +kernel
theorem dX7_readLine_82 : decode cX7_readLine 82 = .ok (.iload_n 1, 1) := by decide +kernel
theorem dX7_readLine_83 : decode cX7_readLine 83 = .ok (.i2l, 1) := by decide +kernel
theorem dX7_readLine_84 : decode cX7_readLine 84 = .ok (.ldc2_w 154, 3) := by decide +kernel
theorem dX7_readLine_87 : decode cX7_readLine 87 = .ok (.ldc2_w 156, 3) := by decide +kernel
theorem dX7_readLine_90 : decode cX7_readLine 90 = .ok (.invokestatic 77, 3) := by decide +kernel
theorem dX7_readLine_93 : decode cX7_readLine 93 = .ok (.ifCond .eq 36, 3) := by decide +kernel
theorem dX7_readLine_96 : decode cX7_readLine 96 = .ok (.aload_n 0, 1) := by decide +kernel
theorem dX7_readLine_97 : decode cX7_readLine 97 = .ok (.aload_n 0, 1) := by decide +kernel
theorem dX7_readLine_98 : decode cX7_readLine 98 = .ok (.getfield 66, 3) := by decide +kernel
theorem dX7_readLine_101 : decode cX7_readLine 101 = .ok (.iload_n 1, 1) := by decide +kernel
theorem dX7_readLine_102 : decode cX7_readLine 102 = .ok (.ishr, 1) := by decide +kernel
theorem dX7_readLine_103 : decode cX7_readLine 103 = .ok (.iconst 1, 1) := by decide +kernel
theorem dX7_readLine_104 : decode cX7_readLine 104 = .ok (.iand, 1) := by decide +kernel
theorem dX7_readLine_105 : decode cX7_readLine 105 = .ok (.ifCond .ne 7, 3) := by decide +kernel
theorem dX7_readLine_108 : decode cX7_readLine 108 = .ok (.iconst 1, 1) := by decide +kernel
theorem dX7_readLine_109 : decode cX7_readLine 109 = .ok (.goto 4, 3) := by decide +kernel
theorem dX7_readLine_112 : decode cX7_readLine 112 = .ok (.iconst 0, 1) := by decide +kernel
theorem dX7_readLine_113 : decode cX7_readLine 113 = .ok (.iconst 4, 1) := by decide +kernel
theorem dX7_readLine_114 : decode cX7_readLine 114 = .ok (.invokevirtual 122, 3) := by decide +kernel
theorem dX7_readLine_117 : decode cX7_readLine 117 = .ok (.aload_n 0, 1) := by decide +kernel
theorem dX7_readLine_118 : decode cX7_readLine 118 = .ok (.dup, 1) := by decide +kernel
theorem dX7_readLine_119 : decode cX7_readLine 119 = .ok (.getfield 66, 3) := by decide +kernel
theorem dX7_readLine_122 : decode cX7_readLine 122 = .ok (.iconst 1, 1) := by decide +kernel
theorem dX7_readLine_123 : decode cX7_readLine 123 = .ok (.iload_n 1, 1) := by decide +kernel
theorem dX7_readLine_124 : decode cX7_readLine 124 = .ok (.ishl, 1) := by decide +kernel
theorem dX7_readLine_125 : decode cX7_readLine 125 = .ok (.ior, 1) := by decide +kernel
theorem dX7_readLine_126 : decode cX7_readLine 126 = .ok (.putfield 66, 3) := by decide +kernel
theorem dX7_readLine_129 : decode cX7_readLine 129 = .ok (.aload_n 0, 1) := by decide +kernel
theorem dX7_readLine_130 : decode cX7_readLine 130 = .ok (.invokevirtual 130, 3) := by decide +kernel
theorem dX7_readLine_133 : decode cX7_readLine 133 = .ok (.aload_n 0, 1) := by decide +kernel
theorem dX7_readLine_134 : decode cX7_readLine 134 = .ok (.getfield 84, 3) := by decide +kernel
theorem dX7_readLine_137 : decode cX7_readLine 137 = .ok (.ifCond .le 4, 3) := by decide +kernel
theorem dX7_readLine_140 : decode cX7_readLine 140 = .ok (.return_, 1) := by decide +kernel
theorem dX7_readLine_141 : decode cX7_readLine 141 = .ok (.aload_n 0, 1) := by decide +kernel
theorem dX7_readLine_142 : decode cX7_readLine 142 = .ok (.iload_n 1, 1) := by decide +kernel
theorem dX7_readLine_143 : decode cX7_readLine 143 = .ok (.invokevirtual 158, 3) := by decide +kernel
theorem dX7_readLine_146 : decode cX7_readLine 146 = .ok (.aload_n 0, 1) := by decide +kernel
theorem dX7_readLine_147 : decode cX7_readLine 147 = .ok (.getfield 84, 3) := by decide +kernel
theorem dX7_readLine_150 : decode cX7_readLine 150 = .ok (.ifCond .ne 21, 3) := by decide +kernel
theorem dX7_readLine_153 : decode cX7_readLine 153 = .ok (.aload_n 0, 1) := by decide +kernel
theorem dX7_readLine_154 : decode cX7_readLine 154 = .ok (.aload_n 0, 1) := by decide +kernel
theorem dX7_readLine_155 : decode cX7_readLine 155 = .ok (.getfield 108, 3) := by decide +kernel
theorem dX7_readLine_158 : decode cX7_readLine 158 = .ok (.iconst 3, 1) := by decide +kernel
theorem dX7_readLine_159 : decode cX7_readLine 159 = .ok (.if_icmp .ne 7, 3) := by decide +kernel
theorem dX7_readLine_162 : decode cX7_readLine 162 = .ok (.iconst 1, 1) := by decide +kernel
theorem dX7_readLine_163 : decode cX7_readLine 163 = .ok (.goto 4, 3) := by decide +kernel
theorem dX7_readLine_166 : decode cX7_readLine 166 = .ok (.iconst 0, 1) := by decide +kernel
theorem dX7_readLine_167 : decode cX7_readLine 167 = .ok (.iconst 2, 1) := by decide +kernel
theorem dX7_readLine_168 : decode cX7_readLine 168 = .ok (.invokevirtual 122, 3) := by decide +kernel
theorem dX7_readLine_171 : decode cX7_readLine 171 = .ok (.aload_n 0, 1) := by decide +kernel
theorem dX7_readLine_172 : decode cX7_readLine 172 = .ok (.invokevirtual 130, 3) := by decide +kernel
theorem dX7_readLine_175 : decode cX7_readLine 175 = .ok (.return_, 1) := by decide +kernel
theorem dX7_text_0 : decode cX7_text 0 = .ok (.iconst 0, 1) := by decide +kernel
theorem dX7_text_1 : decode cX7_text 1 = .ok (.istore_n 1, 1) := by decide +kernel
theorem dX7_text_2 : decode cX7_text 2 = .ok (.aload_n 0, 1) := by decide +kernel
theorem dX7_text_3 : decode cX7_text 3 = .ok (.iconst 0, 1) := by decide +kernel
theorem dX7_text_4 : decode cX7_text 4 = .ok (.putfield 84, 3) := by decide +kernel
theorem dX7_text_7 : decode cX7_text 7 = .ok (.aload_n 0, 1) := by decide +kernel
theorem dX7_text_8 : decode cX7_text 8 = .ok (.iconst 0, 1) := by decide +kernel
theorem dX7_text_9 : decode cX7_text 9 = .ok (.putfield 93, 3) := by decide +kernel
theorem dX7_text_12 : decode cX7_text 12 = .ok (.aload_n 0, 1) := by decide +kernel
theorem dX7_text_13 : decode cX7_text 13 = .ok (.invokevirtual 56, 3) := by decide +kernel
theorem dX7_text_16 : decode cX7_text 16 = .ok (.aload_n 0, 1) := by decide +kernel
theorem dX7_text_17 : decode cX7_text 17 = .ok (.invokevirtual 130, 3) := by decide +kernel
theorem dX7_text_20 : decode cX7_text 20 = .ok (.aload_n 0, 1) := by decide +kernel
theorem dX7_text_21 : decode cX7_text 21 = .ok (.getfield 84, 3) := by decide +kernel
theorem dX7_text_24 : decode cX7_text 24 = .ok (.ifCond .ne 20, 3) := by decide +kernel
theorem dX7_text_27 : decode cX7_text 27 = .ok (.aload_n 0, 1) := by decide +kernel
theorem dX7_text_28 : decode cX7_text 28 = .ok (.getfield 108, 3) := by decide +kernel
theorem dX7_text_31 : decode cX7_text 31 = .ok (.ifCond .eq 13, 3) := by decide +kernel
theorem dX7_text_34 : decode cX7_text 34 = .ok (.aload_n 0, 1) := by decide +kernel
theorem dX7_text_35 : decode cX7_text 35 = .ok (.invokevirtual 161, 3) := by decide +kernel
theorem dX7_text_38 : decode cX7_text 38 = .ok (.iinc 1 1, 3) := by decide +kernel
theorem dX7_text_41 : decode cX7_text 41 = .ok (.goto (-21), 3) := by decide +kernel
theorem dX7_text_44 : decode cX7_text 44 = .ok (.aload_n 0, 1) := by decide +kernel
theorem dX7_text_45 : decode cX7_text 45 = .ok (.getfield 84, 3) := by decide +kernel
theorem dX7_text_48 : decode cX7_text 48 = .ok (.ifCond .ne 25, 3) := by decide +kernel
theorem dX7_text_51 : decode cX7_text 51 = .ok (.aload_n 0, 1) := by decide +kernel
theorem dX7_text_52 : decode cX7_text 52 = .ok (.aload_n 0, 1) := by decide +kernel
theorem dX7_text_53 : decode cX7_text 53 = .ok (.getfield 69, 3) := by decide +kernel
theorem dX7_text_56 : decode cX7_text 56 = .ok (.aload_n 0, 1) := by decide +kernel
theorem dX7_text_57 : decode cX7_text 57 = .ok (.getfield 62, 3) := by decide +kernel
theorem dX7_text_60 : decode cX7_text 60 = .ok (.if_icmp .ge 7, 3) := by decide +kernel
theorem dX7_text_63 : decode cX7_text 63 = .ok (.iconst 1, 1) := by decide +kernel
theorem dX7_text_64 : decode cX7_text 64 = .ok (.goto 4, 3) := by decide +kernel
theorem dX7_text_67 : decode cX7_text 67 = .ok (.iconst 0, 1) := by decide +kernel
theorem dX7_text_68 : decode cX7_text 68 = .ok (.bipush 6, 2) := by decide +kernel
theorem dX7_text_70 : decode cX7_text 70 = .ok (.invokevirtual 122, 3) := by decide +kernel
theorem dX7_text_73 : decode cX7_text 73 = .ok (.aload_n 0, 1) := by decide +kernel
theorem dX7_text_74 : decode cX7_text 74 = .ok (.iconst 0, 1) := by decide +kernel
theorem dX7_text_75 : decode cX7_text 75 = .ok (.putfield 81, 3) := by decide +kernel
theorem dX7_text_78 : decode cX7_text 78 = .ok (.aload_n 0, 1) := by decide +kernel
theorem dX7_text_79 : decode cX7_text 79 = .ok (.getfield 84, 3) := by decide +kernel
theorem dX7_text_82 : decode cX7_text 82 = .ok (.ifCond .le 11, 3) := by decide +kernel
theorem dX7_text_85 : decode cX7_text 85 = .ok (.bipush (-10), 2) := by decide +kernel
theorem dX7_text_87 : decode cX7_text 87 = .ok (.aload_n 0, 1) := by decide +kernel
theorem dX7_text_88 : decode cX7_text 88 = .ok (.getfield 90, 3) := by decide +kernel
theorem dX7_text_91 : decode cX7_text 91 = .ok (.isub, 1) := by decide +kernel
theorem dX7_text_92 : decode cX7_text 92 = .ok (.ireturn, 1) := by decide +kernel
theorem dX7_text_93 : decode cX7_text 93 = .ok (.aload_n 0, 1) := by decide +kernel
theorem dX7_text_94 : decode cX7_text 94 = .ok (.invokevirtual 59, 3) := by decide +kernel
theorem dX7_text_97 : decode cX7_text 97 = .ok (.iload_n 1, 1) := by decide +kernel
theorem dX7_text_98 : decode cX7_text 98 = .ok (.ireturn, 1) := by decide +kernel
theorem dX7_fault_0 : decode cX7_fault 0 = .ok (.aload_n 0, 1) := by decide +kernel
theorem dX7_fault_1 : decode cX7_fault 1 = .ok (.getfield 84, 3) := by decide +kernel
theorem dX7_fault_4 : decode cX7_fault 4 = .ok (.ireturn, 1) := by decide +kernel
theorem dX7_isClaim_0 : decode cX7_isClaim 0 = .ok (.iload_n 1, 1) := by decide +kernel
theorem dX7_isClaim_1 : decode cX7_isClaim 1 = .ok (.i2l, 1) := by decide +kernel
theorem dX7_isClaim_2 : decode cX7_isClaim 2 = .ok (.lconst 0, 1) := by decide +kernel
theorem dX7_isClaim_3 : decode cX7_isClaim 3 = .ok (.aload_n 0, 1) := by decide +kernel
theorem dX7_isClaim_4 : decode cX7_isClaim 4 = .ok (.getfield 72, 3) := by decide +kernel
theorem dX7_isClaim_7 : decode cX7_isClaim 7 = .ok (.iconst 1, 1) := by decide +kernel
theorem dX7_isClaim_8 : decode cX7_isClaim 8 = .ok (.isub, 1) := by decide +kernel
theorem dX7_isClaim_9 : decode cX7_isClaim 9 = .ok (.i2l, 1) := by decide +kernel
theorem dX7_isClaim_10 : decode cX7_isClaim 10 = .ok (.invokestatic 77, 3) := by decide +kernel
theorem dX7_isClaim_13 : decode cX7_isClaim 13 = .ok (.ireturn, 1) := by decide +kernel
theorem dX7_every_0 : decode cX7_every 0 = .ok (.iconst 1, 1) := by decide +kernel
theorem dX7_every_1 : decode cX7_every 1 = .ok (.aload_n 0, 1) := by decide +kernel
theorem dX7_every_2 : decode cX7_every 2 = .ok (.getfield 72, 3) := by decide +kernel
theorem dX7_every_5 : decode cX7_every 5 = .ok (.ishl, 1) := by decide +kernel
theorem dX7_every_6 : decode cX7_every 6 = .ok (.iconst 1, 1) := by decide +kernel
theorem dX7_every_7 : decode cX7_every 7 = .ok (.isub, 1) := by decide +kernel
theorem dX7_every_8 : decode cX7_every 8 = .ok (.ireturn, 1) := by decide +kernel
theorem dX7_isPart_0 : decode cX7_isPart 0 = .ok (.iload_n 0, 1) := by decide +kernel
theorem dX7_isPart_1 : decode cX7_isPart 1 = .ok (.i2l, 1) := by decide +kernel
theorem dX7_isPart_2 : decode cX7_isPart 2 = .ok (.lconst 0, 1) := by decide +kernel
theorem dX7_isPart_3 : decode cX7_isPart 3 = .ok (.lconst 1, 1) := by decide +kernel
theorem dX7_isPart_4 : decode cX7_isPart 4 = .ok (.invokestatic 77, 3) := by decide +kernel
theorem dX7_isPart_7 : decode cX7_isPart 7 = .ok (.ireturn, 1) := by decide +kernel
theorem dX7_bitsOf_0 : decode cX7_bitsOf 0 = .ok (.iconst 0, 1) := by decide +kernel
theorem dX7_bitsOf_1 : decode cX7_bitsOf 1 = .ok (.istore_n 1, 1) := by decide +kernel
theorem dX7_bitsOf_2 : decode cX7_bitsOf 2 = .ok (.iconst 0, 1) := by decide +kernel
theorem dX7_bitsOf_3 : decode cX7_bitsOf 3 = .ok (.istore_n 2, 1) := by decide +kernel
theorem dX7_bitsOf_4 : decode cX7_bitsOf 4 = .ok (.iload_n 2, 1) := by decide +kernel
theorem dX7_bitsOf_5 : decode cX7_bitsOf 5 = .ok (.bipush 8, 2) := by decide +kernel
theorem dX7_bitsOf_7 : decode cX7_bitsOf 7 = .ok (.if_icmp .ge 17, 3) := by decide +kernel
theorem dX7_bitsOf_10 : decode cX7_bitsOf 10 = .ok (.iload_n 1, 1) := by decide +kernel
theorem dX7_bitsOf_11 : decode cX7_bitsOf 11 = .ok (.iload_n 0, 1) := by decide +kernel
theorem dX7_bitsOf_12 : decode cX7_bitsOf 12 = .ok (.iload_n 2, 1) := by decide +kernel
theorem dX7_bitsOf_13 : decode cX7_bitsOf 13 = .ok (.ishr, 1) := by decide +kernel
theorem dX7_bitsOf_14 : decode cX7_bitsOf 14 = .ok (.iconst 1, 1) := by decide +kernel
theorem dX7_bitsOf_15 : decode cX7_bitsOf 15 = .ok (.iand, 1) := by decide +kernel
theorem dX7_bitsOf_16 : decode cX7_bitsOf 16 = .ok (.iadd, 1) := by decide +kernel
theorem dX7_bitsOf_17 : decode cX7_bitsOf 17 = .ok (.istore_n 1, 1) := by decide +kernel
theorem dX7_bitsOf_18 : decode cX7_bitsOf 18 = .ok (.iinc 2 1, 3) := by decide +kernel
theorem dX7_bitsOf_21 : decode cX7_bitsOf 21 = .ok (.goto (-17), 3) := by decide +kernel
theorem dX7_bitsOf_24 : decode cX7_bitsOf 24 = .ok (.iload_n 1, 1) := by decide +kernel
theorem dX7_bitsOf_25 : decode cX7_bitsOf 25 = .ok (.ireturn, 1) := by decide +kernel
theorem dX7_standing_0 : decode cX7_standing 0 = .ok (.iconst 0, 1) := by decide +kernel
theorem dX7_standing_1 : decode cX7_standing 1 = .ok (.istore_n 2, 1) := by decide +kernel
theorem dX7_standing_2 : decode cX7_standing 2 = .ok (.iconst 0, 1) := by decide +kernel
theorem dX7_standing_3 : decode cX7_standing 3 = .ok (.istore_n 3, 1) := by decide +kernel
theorem dX7_standing_4 : decode cX7_standing 4 = .ok (.iload_n 3, 1) := by decide +kernel
theorem dX7_standing_5 : decode cX7_standing 5 = .ok (.aload_n 0, 1) := by decide +kernel
theorem dX7_standing_6 : decode cX7_standing 6 = .ok (.getfield 72, 3) := by decide +kernel
theorem dX7_standing_9 : decode cX7_standing 9 = .ok (.if_icmp .ge 64, 3) := by decide +kernel
theorem dX7_standing_12 : decode cX7_standing 12 = .ok (.iload_n 1, 1) := by decide +kernel
theorem dX7_standing_13 : decode cX7_standing 13 = .ok (.iload_n 3, 1) := by decide +kernel
theorem dX7_standing_14 : decode cX7_standing 14 = .ok (.ishr, 1) := by decide +kernel
theorem dX7_standing_15 : decode cX7_standing 15 = .ok (.iconst 1, 1) := by decide +kernel
