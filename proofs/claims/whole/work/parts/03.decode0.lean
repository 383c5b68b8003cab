theorem dX0_init_0 : decode cX0_init 0 = .ok (.aload_n 0, 1) := by decide +kernel
theorem dX0_init_1 : decode cX0_init 1 = .ok (.invokespecial 3, 3) := by decide +kernel
theorem dX0_init_4 : decode cX0_init 4 = .ok (.aload_n 0, 1) := by decide +kernel
theorem dX0_init_5 : decode cX0_init 5 = .ok (.sipush 256, 3) := by decide +kernel
theorem dX0_init_8 : decode cX0_init 8 = .ok (.newarray .boolean, 2) := by decide +kernel
theorem dX0_init_10 : decode cX0_init 10 = .ok (.putfield 9, 3) := by decide +kernel
theorem dX0_init_13 : decode cX0_init 13 = .ok (.return_, 1) := by decide +kernel
theorem dX0_riverWins_0 : decode cX0_riverWins 0 = .ok (.iload_n 1, 1) := by decide +kernel
theorem dX0_riverWins_1 : decode cX0_riverWins 1 = .ok (.ifCond .lt 23, 3) := by decide +kernel
theorem dX0_riverWins_4 : decode cX0_riverWins 4 = .ok (.iload_n 1, 1) := by decide +kernel
theorem dX0_riverWins_5 : decode cX0_riverWins 5 = .ok (.sipush 256, 3) := by decide +kernel
theorem dX0_riverWins_8 : decode cX0_riverWins 8 = .ok (.if_icmp .ge 16, 3) := by decide +kernel
theorem dX0_riverWins_11 : decode cX0_riverWins 11 = .ok (.aload_n 0, 1) := by decide +kernel
theorem dX0_riverWins_12 : decode cX0_riverWins 12 = .ok (.getfield 9, 3) := by decide +kernel
theorem dX0_riverWins_15 : decode cX0_riverWins 15 = .ok (.iload_n 1, 1) := by decide +kernel
theorem dX0_riverWins_16 : decode cX0_riverWins 16 = .ok (.baload, 1) := by decide +kernel
theorem dX0_riverWins_17 : decode cX0_riverWins 17 = .ok (.ifCond .eq 7, 3) := by decide +kernel
theorem dX0_riverWins_20 : decode cX0_riverWins 20 = .ok (.iconst 1, 1) := by decide +kernel
theorem dX0_riverWins_21 : decode cX0_riverWins 21 = .ok (.goto 4, 3) := by decide +kernel
theorem dX0_riverWins_24 : decode cX0_riverWins 24 = .ok (.iconst 0, 1) := by decide +kernel
theorem dX0_riverWins_25 : decode cX0_riverWins 25 = .ok (.ireturn, 1) := by decide +kernel
theorem dX0_solve_0 : decode cX0_solve 0 = .ok (.iconst 0, 1) := by decide +kernel
theorem dX0_solve_1 : decode cX0_solve 1 = .ok (.istore_n 3, 1) := by decide +kernel
theorem dX0_solve_2 : decode cX0_solve 2 = .ok (.iload_n 3, 1) := by decide +kernel
theorem dX0_solve_3 : decode cX0_solve 3 = .ok (.iconst 1, 1) := by decide +kernel
theorem dX0_solve_4 : decode cX0_solve 4 = .ok (.aload_n 1, 1) := by decide +kernel
theorem dX0_solve_5 : decode cX0_solve 5 = .ok (.getfield 15, 3) := by decide +kernel
theorem dX0_solve_8 : decode cX0_solve 8 = .ok (.ishl, 1) := by decide +kernel
theorem dX0_solve_9 : decode cX0_solve 9 = .ok (.if_icmp .ge 41, 3) := by decide +kernel
theorem dX0_solve_12 : decode cX0_solve 12 = .ok (.aload_n 0, 1) := by decide +kernel
theorem dX0_solve_13 : decode cX0_solve 13 = .ok (.getfield 9, 3) := by decide +kernel
theorem dX0_solve_16 : decode cX0_solve 16 = .ok (.iload_n 3, 1) := by decide +kernel
theorem dX0_solve_17 : decode cX0_solve 17 = .ok (.iload_n 3, 1) := by decide +kernel
theorem dX0_solve_18 : decode cX0_solve 18 = .ok (.aload_n 1, 1) := by decide +kernel
theorem dX0_solve_19 : decode cX0_solve 19 = .ok (.getfield 21, 3) := by decide +kernel
theorem dX0_solve_22 : decode cX0_solve 22 = .ok (.iand, 1) := by decide +kernel
theorem dX0_solve_23 : decode cX0_solve 23 = .ok (.aload_n 1, 1) := by decide +kernel
theorem dX0_solve_24 : decode cX0_solve 24 = .ok (.getfield 21, 3) := by decide +kernel
theorem dX0_solve_27 : decode cX0_solve 27 = .ok (.if_icmp .ne 15, 3) := by decide +kernel
theorem dX0_solve_30 : decode cX0_solve 30 = .ok (.aload_n 1, 1) := by decide +kernel
theorem dX0_solve_31 : decode cX0_solve 31 = .ok (.iload_n 3, 1) := by decide +kernel
theorem dX0_solve_32 : decode cX0_solve 32 = .ok (.invokevirtual 24, 3) := by decide +kernel
theorem dX0_solve_35 : decode cX0_solve 35 = .ok (.ifCond .eq 7, 3) := by decide +kernel
theorem dX0_solve_38 : decode cX0_solve 38 = .ok (.iconst 1, 1) := by decide +kernel
theorem dX0_solve_39 : decode cX0_solve 39 = .ok (.goto 4, 3) := by decide +kernel
theorem dX0_solve_42 : decode cX0_solve 42 = .ok (.iconst 0, 1) := by decide +kernel
theorem dX0_solve_43 : decode cX0_solve 43 = .ok (.bastore, 1) := by decide +kernel
theorem dX0_solve_44 : decode cX0_solve 44 = .ok (.iinc 3 1, 3) := by decide +kernel
theorem dX0_solve_47 : decode cX0_solve 47 = .ok (.goto (-45), 3) := by decide +kernel
theorem dX0_solve_50 : decode cX0_solve 50 = .ok (.iconst 0, 1) := by decide +kernel
theorem dX0_solve_51 : decode cX0_solve 51 = .ok (.istore_n 3, 1) := by decide +kernel
theorem dX0_solve_52 : decode cX0_solve 52 = .ok (.bipush 9, 2) := by decide +kernel
theorem dX0_solve_54 : decode cX0_solve 54 = .ok (.istore 4, 2) := by decide +kernel
theorem dX0_solve_56 : decode cX0_solve 56 = .ok (.iload 4, 2) := by decide +kernel
theorem dX0_solve_58 : decode cX0_solve 58 = .ok (.iload_n 2, 1) := by decide +kernel
theorem dX0_solve_59 : decode cX0_solve 59 = .ok (.if_icmp .lt 34, 3) := by decide +kernel
theorem dX0_solve_62 : decode cX0_solve 62 = .ok (.aload_n 0, 1) := by decide +kernel
theorem dX0_solve_63 : decode cX0_solve 63 = .ok (.aload_n 1, 1) := by decide +kernel
theorem dX0_solve_64 : decode cX0_solve 64 = .ok (.iload 4, 2) := by decide +kernel
theorem dX0_solve_66 : decode cX0_solve 66 = .ok (.invokevirtual 28, 3) := by decide +kernel
theorem dX0_solve_69 : decode cX0_solve 69 = .ok (.aload_n 0, 1) := by decide +kernel
theorem dX0_solve_70 : decode cX0_solve 70 = .ok (.aload_n 1, 1) := by decide +kernel
theorem dX0_solve_71 : decode cX0_solve 71 = .ok (.getfield 21, 3) := by decide +kernel
theorem dX0_solve_74 : decode cX0_solve 74 = .ok (.invokevirtual 32, 3) := by decide +kernel
theorem dX0_solve_77 : decode cX0_solve 77 = .ok (.ifCond .eq 10, 3) := by decide +kernel
theorem dX0_solve_80 : decode cX0_solve 80 = .ok (.iload_n 3, 1) := by decide +kernel
theorem dX0_solve_81 : decode cX0_solve 81 = .ok (.iconst 1, 1) := by decide +kernel
theorem dX0_solve_82 : decode cX0_solve 82 = .ok (.iload 4, 2) := by decide +kernel
theorem dX0_solve_84 : decode cX0_solve 84 = .ok (.ishl, 1) := by decide +kernel
theorem dX0_solve_85 : decode cX0_solve 85 = .ok (.ior, 1) := by decide +kernel
theorem dX0_solve_86 : decode cX0_solve 86 = .ok (.istore_n 3, 1) := by decide +kernel
theorem dX0_solve_87 : decode cX0_solve 87 = .ok (.iinc 4 (-1), 3) := by decide +kernel
theorem dX0_solve_90 : decode cX0_solve 90 = .ok (.goto (-34), 3) := by decide +kernel
theorem dX0_solve_93 : decode cX0_solve 93 = .ok (.iload_n 3, 1) := by decide +kernel
theorem dX0_solve_94 : decode cX0_solve 94 = .ok (.ireturn, 1) := by decide +kernel
theorem dX0_stepBack_0 : decode cX0_stepBack 0 = .ok (.iload_n 2, 1) := by decide +kernel
theorem dX0_stepBack_1 : decode cX0_stepBack 1 = .ok (.invokestatic 35, 3) := by decide +kernel
theorem dX0_stepBack_4 : decode cX0_stepBack 4 = .ok (.ifCond .ne 7, 3) := by decide +kernel
theorem dX0_stepBack_7 : decode cX0_stepBack 7 = .ok (.iconst 1, 1) := by decide +kernel
theorem dX0_stepBack_8 : decode cX0_stepBack 8 = .ok (.goto 4, 3) := by decide +kernel
theorem dX0_stepBack_11 : decode cX0_stepBack 11 = .ok (.iconst 0, 1) := by decide +kernel
theorem dX0_stepBack_12 : decode cX0_stepBack 12 = .ok (.istore_n 3, 1) := by decide +kernel
theorem dX0_stepBack_13 : decode cX0_stepBack 13 = .ok (.aload_n 1, 1) := by decide +kernel
theorem dX0_stepBack_14 : decode cX0_stepBack 14 = .ok (.iload_n 2, 1) := by decide +kernel
theorem dX0_stepBack_15 : decode cX0_stepBack 15 = .ok (.invokestatic 39, 3) := by decide +kernel
theorem dX0_stepBack_18 : decode cX0_stepBack 18 = .ok (.istore 4, 2) := by decide +kernel
theorem dX0_stepBack_20 : decode cX0_stepBack 20 = .ok (.aload_n 1, 1) := by decide +kernel
theorem dX0_stepBack_21 : decode cX0_stepBack 21 = .ok (.getfield 21, 3) := by decide +kernel
theorem dX0_stepBack_24 : decode cX0_stepBack 24 = .ok (.istore 5, 2) := by decide +kernel
theorem dX0_stepBack_26 : decode cX0_stepBack 26 = .ok (.iload 5, 2) := by decide +kernel
theorem dX0_stepBack_28 : decode cX0_stepBack 28 = .ok (.iconst 1, 1) := by decide +kernel
theorem dX0_stepBack_29 : decode cX0_stepBack 29 = .ok (.aload_n 1, 1) := by decide +kernel
theorem dX0_stepBack_30 : decode cX0_stepBack 30 = .ok (.getfield 15, 3) := by decide +kernel
theorem dX0_stepBack_33 : decode cX0_stepBack 33 = .ok (.ishl, 1) := by decide +kernel
theorem dX0_stepBack_34 : decode cX0_stepBack 34 = .ok (.if_icmp .ge 68, 3) := by decide +kernel
theorem dX0_stepBack_37 : decode cX0_stepBack 37 = .ok (.iload 5, 2) := by decide +kernel
theorem dX0_stepBack_39 : decode cX0_stepBack 39 = .ok (.aload_n 1, 1) := by decide +kernel
theorem dX0_stepBack_40 : decode cX0_stepBack 40 = .ok (.getfield 21, 3) := by decide +kernel
theorem dX0_stepBack_43 : decode cX0_stepBack 43 = .ok (.iand, 1) := by decide +kernel
theorem dX0_stepBack_44 : decode cX0_stepBack 44 = .ok (.aload_n 1, 1) := by decide +kernel
theorem dX0_stepBack_45 : decode cX0_stepBack 45 = .ok (.getfield 21, 3) := by decide +kernel
theorem dX0_stepBack_48 : decode cX0_stepBack 48 = .ok (.if_icmp .ne 7, 3) := by decide +kernel
theorem dX0_stepBack_51 : decode cX0_stepBack 51 = .ok (.iconst 1, 1) := by decide +kernel
theorem dX0_stepBack_52 : decode cX0_stepBack 52 = .ok (.goto 4, 3) := by decide +kernel
theorem dX0_stepBack_55 : decode cX0_stepBack 55 = .ok (.iconst 0, 1) := by decide +kernel
theorem dX0_stepBack_56 : decode cX0_stepBack 56 = .ok (.istore 6, 2) := by decide +kernel
theorem dX0_stepBack_58 : decode cX0_stepBack 58 = .ok (.iload 6, 2) := by decide +kernel
theorem dX0_stepBack_60 : decode cX0_stepBack 60 = .ok (.ifCond .eq 36, 3) := by decide +kernel
theorem dX0_stepBack_63 : decode cX0_stepBack 63 = .ok (.aload_n 0, 1) := by decide +kernel
theorem dX0_stepBack_64 : decode cX0_stepBack 64 = .ok (.getfield 9, 3) := by decide +kernel
theorem dX0_stepBack_67 : decode cX0_stepBack 67 = .ok (.iload 5, 2) := by decide +kernel
theorem dX0_stepBack_69 : decode cX0_stepBack 69 = .ok (.baload, 1) := by decide +kernel
theorem dX0_stepBack_70 : decode cX0_stepBack 70 = .ok (.iload_n 3, 1) := by decide +kernel
theorem dX0_stepBack_71 : decode cX0_stepBack 71 = .ok (.if_icmp .eq 25, 3) := by decide +kernel
theorem dX0_stepBack_74 : decode cX0_stepBack 74 = .ok (.aload_n 0, 1) := by decide +kernel
theorem dX0_stepBack_75 : decode cX0_stepBack 75 = .ok (.iload 5, 2) := by decide +kernel
theorem dX0_stepBack_77 : decode cX0_stepBack 77 = .ok (.iload 4, 2) := by decide +kernel
theorem dX0_stepBack_79 : decode cX0_stepBack 79 = .ok (.iload_n 3, 1) := by decide +kernel
theorem dX0_stepBack_80 : decode cX0_stepBack 80 = .ok (.invokevirtual 43, 3) := by decide +kernel
theorem dX0_stepBack_83 : decode cX0_stepBack 83 = .ok (.bipush (-4), 2) := by decide +kernel
theorem dX0_stepBack_85 : decode cX0_stepBack 85 = .ok (.if_icmp .eq 11, 3) := by decide +kernel
theorem dX0_stepBack_88 : decode cX0_stepBack 88 = .ok (.aload_n 0, 1) := by decide +kernel
theorem dX0_stepBack_89 : decode cX0_stepBack 89 = .ok (.getfield 9, 3) := by decide +kernel
theorem dX0_stepBack_92 : decode cX0_stepBack 92 = .ok (.iload 5, 2) := by decide +kernel
theorem dX0_stepBack_94 : decode cX0_stepBack 94 = .ok (.iload_n 3, 1) := by decide +kernel
theorem dX0_stepBack_95 : decode cX0_stepBack 95 = .ok (.bastore, 1) := by decide +kernel
theorem dX0_stepBack_96 : decode cX0_stepBack 96 = .ok (.iinc 5 1, 3) := by decide +kernel
theorem dX0_stepBack_99 : decode cX0_stepBack 99 = .ok (.goto (-73), 3) := by decide +kernel
theorem dX0_stepBack_102 : decode cX0_stepBack 102 = .ok (.return_, 1) := by decide +kernel
theorem dX0_mover_0 : decode cX0_mover 0 = .ok (.iload_n 0, 1) := by decide +kernel
theorem dX0_mover_1 : decode cX0_mover 1 = .ok (.iconst 1, 1) := by decide +kernel
theorem dX0_mover_2 : decode cX0_mover 2 = .ok (.iand, 1) := by decide +kernel
theorem dX0_mover_3 : decode cX0_mover 3 = .ok (.ifCond .ne 7, 3) := by decide +kernel
theorem dX0_mover_6 : decode cX0_mover 6 = .ok (.iconst 0, 1) := by decide +kernel
theorem dX0_mover_7 : decode cX0_mover 7 = .ok (.goto 4, 3) := by decide +kernel
theorem dX0_mover_10 : decode cX0_mover 10 = .ok (.iconst 1, 1) := by decide +kernel
theorem dX0_mover_11 : decode cX0_mover 11 = .ok (.ireturn, 1) := by decide +kernel
theorem dX0_sayableOn_0 : decode cX0_sayableOn 0 = .ok (.iconst 0, 1) := by decide +kernel
theorem dX0_sayableOn_1 : decode cX0_sayableOn 1 = .ok (.istore_n 2, 1) := by decide +kernel
theorem dX0_sayableOn_2 : decode cX0_sayableOn 2 = .ok (.iconst 0, 1) := by decide +kernel
theorem dX0_sayableOn_3 : decode cX0_sayableOn 3 = .ok (.istore_n 3, 1) := by decide +kernel
theorem dX0_sayableOn_4 : decode cX0_sayableOn 4 = .ok (.iload_n 3, 1) := by decide +kernel
theorem dX0_sayableOn_5 : decode cX0_sayableOn 5 = .ok (.aload_n 0, 1) := by decide +kernel
theorem dX0_sayableOn_6 : decode cX0_sayableOn 6 = .ok (.getfield 15, 3) := by decide +kernel
theorem dX0_sayableOn_9 : decode cX0_sayableOn 9 = .ok (.if_icmp .ge 37, 3) := by decide +kernel
theorem dX0_sayableOn_12 : decode cX0_sayableOn 12 = .ok (.aload_n 0, 1) := by decide +kernel
theorem dX0_sayableOn_13 : decode cX0_sayableOn 13 = .ok (.getfield 47, 3) := by decide +kernel
theorem dX0_sayableOn_16 : decode cX0_sayableOn 16 = .ok (.iload_n 3, 1) := by decide +kernel
theorem dX0_sayableOn_17 : decode cX0_sayableOn 17 = .ok (.iaload, 1) := by decide +kernel
theorem dX0_sayableOn_18 : decode cX0_sayableOn 18 = .ok (.iload_n 1, 1) := by decide +kernel
theorem dX0_sayableOn_19 : decode cX0_sayableOn 19 = .ok (.invokestatic 35, 3) := by decide +kernel
theorem dX0_sayableOn_22 : decode cX0_sayableOn 22 = .ok (.if_icmp .ne 18, 3) := by decide +kernel
theorem dX0_sayableOn_25 : decode cX0_sayableOn 25 = .ok (.aload_n 0, 1) := by decide +kernel
theorem dX0_sayableOn_26 : decode cX0_sayableOn 26 = .ok (.iload_n 3, 1) := by decide +kernel
theorem dX0_sayableOn_27 : decode cX0_sayableOn 27 = .ok (.iload_n 1, 1) := by decide +kernel
theorem dX0_sayableOn_28 : decode cX0_sayableOn 28 = .ok (.invokevirtual 51, 3) := by decide +kernel
theorem dX0_sayableOn_31 : decode cX0_sayableOn 31 = .ok (.ifCond .eq 9, 3) := by decide +kernel
theorem dX0_sayableOn_34 : decode cX0_sayableOn 34 = .ok (.iload_n 2, 1) := by decide +kernel
theorem dX0_sayableOn_35 : decode cX0_sayableOn 35 = .ok (.iconst 1, 1) := by decide +kernel
theorem dX0_sayableOn_36 : decode cX0_sayableOn 36 = .ok (.iload_n 3, 1) := by decide +kernel
theorem dX0_sayableOn_37 : decode cX0_sayableOn 37 = .ok (.ishl, 1) := by decide +kernel
theorem dX0_sayableOn_38 : decode cX0_sayableOn 38 = .ok (.ior, 1) := by decide +kernel
theorem dX0_sayableOn_39 : decode cX0_sayableOn 39 = .ok (.istore_n 2, 1) := by decide +kernel
theorem dX0_sayableOn_40 : decode cX0_sayableOn 40 = .ok (.iinc 3 1, 3) := by decide +kernel
theorem dX0_sayableOn_43 : decode cX0_sayableOn 43 = .ok (.goto (-39), 3) := by decide +kernel
theorem dX0_sayableOn_46 : decode cX0_sayableOn 46 = .ok (.iload_n 2, 1) := by decide +kernel
theorem dX0_sayableOn_47 : decode cX0_sayableOn 47 = .ok (.ireturn, 1) := by decide +kernel
theorem dX0_leastWinning_0 : decode cX0_leastWinning 0 = .ok (.iload_n 2, 1) := by decide +kernel
theorem dX0_leastWinning_1 : decode cX0_leastWinning 1 = .ok (.iload_n 1, 1) := by decide +kernel
theorem dX0_leastWinning_2 : decode cX0_leastWinning 2 = .ok (.iconst (-1), 1) := by decide +kernel
theorem dX0_leastWinning_3 : decode cX0_leastWinning 3 = .ok (.ixor, 1) := by decide +kernel
theorem dX0_leastWinning_4 : decode cX0_leastWinning 4 = .ok (.iand, 1) := by decide +kernel
theorem dX0_leastWinning_5 : decode cX0_leastWinning 5 = .ok (.istore 4, 2) := by decide +kernel
theorem dX0_leastWinning_7 : decode cX0_leastWinning 7 = .ok (.iconst 0, 1) := by decide +kernel
theorem dX0_leastWinning_8 : decode cX0_leastWinning 8 = .ok (.istore 5, 2) := by decide +kernel
theorem dX0_leastWinning_10 : decode cX0_leastWinning 10 = .ok (.iload 5, 2) := by decide +kernel
theorem dX0_leastWinning_12 : decode cX0_leastWinning 12 = .ok (.bipush 8, 2) := by decide +kernel
theorem dX0_leastWinning_14 : decode cX0_leastWinning 14 = .ok (.if_icmp .ge 37, 3) := by decide +kernel
theorem dX0_leastWinning_17 : decode cX0_leastWinning 17 = .ok (.iload 4, 2) := by decide +kernel
theorem dX0_leastWinning_19 : decode cX0_leastWinning 19 = .ok (.iload 5, 2) := by decide +kernel
theorem dX0_leastWinning_21 : decode cX0_leastWinning 21 = .ok (.ishr, 1) := by decide +kernel
theorem dX0_leastWinning_22 : decode cX0_leastWinning 22 = .ok (.iconst 1, 1) := by decide +kernel
theorem dX0_leastWinning_23 : decode cX0_leastWinning 23 = .ok (.iand, 1) := by decide +kernel
theorem dX0_leastWinning_24 : decode cX0_leastWinning 24 = .ok (.iconst 1, 1) := by decide +kernel
theorem dX0_leastWinning_25 : decode cX0_leastWinning 25 = .ok (.if_icmp .ne 20, 3) := by decide +kernel
theorem dX0_leastWinning_28 : decode cX0_leastWinning 28 = .ok (.aload_n 0, 1) := by decide +kernel
theorem dX0_leastWinning_29 : decode cX0_leastWinning 29 = .ok (.iload_n 1, 1) := by decide +kernel
theorem dX0_leastWinning_30 : decode cX0_leastWinning 30 = .ok (.iconst 1, 1) := by decide +kernel
theorem dX0_leastWinning_31 : decode cX0_leastWinning 31 = .ok (.iload 5, 2) := by decide +kernel
theorem dX0_leastWinning_33 : decode cX0_leastWinning 33 = .ok (.ishl, 1) := by decide +kernel
theorem dX0_leastWinning_34 : decode cX0_leastWinning 34 = .ok (.ior, 1) := by decide +kernel
theorem dX0_leastWinning_35 : decode cX0_leastWinning 35 = .ok (.invokevirtual 32, 3) := by decide +kernel
theorem dX0_leastWinning_38 : decode cX0_leastWinning 38 = .ok (.iload_n 3, 1) := by decide +kernel
theorem dX0_leastWinning_39 : decode cX0_leastWinning 39 = .ok (.if_icmp .ne 6, 3) := by decide +kernel
theorem dX0_leastWinning_42 : decode cX0_leastWinning 42 = .ok (.iload 5, 2) := by decide +kernel
theorem dX0_leastWinning_44 : decode cX0_leastWinning 44 = .ok (.ireturn, 1) := by decide +kernel
theorem dX0_leastWinning_45 : decode cX0_leastWinning 45 = .ok (.iinc 5 1, 3) := by decide +kernel
theorem dX0_leastWinning_48 : decode cX0_leastWinning 48 = .ok (.goto (-38), 3) := by decide +kernel
theorem dX0_leastWinning_51 : decode cX0_leastWinning 51 = .ok (.bipush (-4), 2) := by decide +kernel
theorem dX0_leastWinning_53 : decode cX0_leastWinning 53 = .ok (.ireturn, 1) := by decide +kernel
theorem dX0_bestSaying_0 : decode cX0_bestSaying 0 = .ok (.aload_n 1, 1) := by decide +kernel
theorem dX0_bestSaying_1 : decode cX0_bestSaying 1 = .ok (.getfield 55, 3) := by decide +kernel
theorem dX0_bestSaying_4 : decode cX0_bestSaying 4 = .ok (.invokestatic 35, 3) := by decide +kernel
theorem dX0_bestSaying_7 : decode cX0_bestSaying 7 = .ok (.ifCond .ne 7, 3) := by decide +kernel
theorem dX0_bestSaying_10 : decode cX0_bestSaying 10 = .ok (.iconst 1, 1) := by decide +kernel
theorem dX0_bestSaying_11 : decode cX0_bestSaying 11 = .ok (.goto 4, 3) := by decide +kernel
theorem dX0_bestSaying_14 : decode cX0_bestSaying 14 = .ok (.iconst 0, 1) := by decide +kernel
theorem dX0_bestSaying_15 : decode cX0_bestSaying 15 = .ok (.istore_n 2, 1) := by decide +kernel
theorem dX0_bestSaying_16 : decode cX0_bestSaying 16 = .ok (.aload_n 0, 1) := by decide +kernel
theorem dX0_bestSaying_17 : decode cX0_bestSaying 17 = .ok (.aload_n 1, 1) := by decide +kernel
theorem dX0_bestSaying_18 : decode cX0_bestSaying 18 = .ok (.getfield 21, 3) := by decide +kernel
theorem dX0_bestSaying_21 : decode cX0_bestSaying 21 = .ok (.invokevirtual 32, 3) := by decide +kernel
theorem dX0_bestSaying_24 : decode cX0_bestSaying 24 = .ok (.iload_n 2, 1) := by decide +kernel
theorem dX0_bestSaying_25 : decode cX0_bestSaying 25 = .ok (.if_icmp .ne 6, 3) := by decide +kernel
theorem dX0_bestSaying_28 : decode cX0_bestSaying 28 = .ok (.bipush (-4), 2) := by decide +kernel
theorem dX0_bestSaying_30 : decode cX0_bestSaying 30 = .ok (.ireturn, 1) := by decide +kernel
theorem dX0_bestSaying_31 : decode cX0_bestSaying 31 = .ok (.aload_n 0, 1) := by decide +kernel
theorem dX0_bestSaying_32 : decode cX0_bestSaying 32 = .ok (.aload_n 1, 1) := by decide +kernel
theorem dX0_bestSaying_33 : decode cX0_bestSaying 33 = .ok (.getfield 21, 3) := by decide +kernel
theorem dX0_bestSaying_36 : decode cX0_bestSaying 36 = .ok (.aload_n 1, 1) := by decide +kernel
theorem dX0_bestSaying_37 : decode cX0_bestSaying 37 = .ok (.aload_n 1, 1) := by decide +kernel
theorem dX0_bestSaying_38 : decode cX0_bestSaying 38 = .ok (.getfield 55, 3) := by decide +kernel
theorem dX0_bestSaying_41 : decode cX0_bestSaying 41 = .ok (.invokestatic 39, 3) := by decide +kernel
theorem dX0_bestSaying_44 : decode cX0_bestSaying 44 = .ok (.iload_n 2, 1) := by decide +kernel
theorem dX0_bestSaying_45 : decode cX0_bestSaying 45 = .ok (.invokevirtual 43, 3) := by decide +kernel
theorem dX0_bestSaying_48 : decode cX0_bestSaying 48 = .ok (.ireturn, 1) := by decide +kernel
theorem dX1_init_0 : decode cX1_init 0 = .ok (.aload_n 0, 1) := by decide +kernel
theorem dX1_init_1 : decode cX1_init 1 = .ok (.invokespecial 3, 3) := by decide +kernel
theorem dX1_init_4 : decode cX1_init 4 = .ok (.aload_n 0, 1) := by decide +kernel
theorem dX1_init_5 : decode cX1_init 5 = .ok (.bipush 6, 2) := by decide +kernel
theorem dX1_init_7 : decode cX1_init 7 = .ok (.newarray .int, 2) := by decide +kernel
theorem dX1_init_9 : decode cX1_init 9 = .ok (.putfield 9, 3) := by decide +kernel
theorem dX1_init_12 : decode cX1_init 12 = .ok (.aload_n 0, 1) := by decide +kernel
theorem dX1_init_13 : decode cX1_init 13 = .ok (.bipush 6, 2) := by decide +kernel
theorem dX1_init_15 : decode cX1_init 15 = .ok (.newarray .boolean, 2) := by decide +kernel
theorem dX1_init_17 : decode cX1_init 17 = .ok (.putfield 15, 3) := by decide +kernel
theorem dX1_init_20 : decode cX1_init 20 = .ok (.return_, 1) := by decide +kernel
theorem dX1_search_0 : decode cX1_search 0 = .ok (.aload_n 0, 1) := by decide +kernel
theorem dX1_search_1 : decode cX1_search 1 = .ok (.iconst 0, 1) := by decide +kernel
theorem dX1_search_2 : decode cX1_search 2 = .ok (.putfield 19, 3) := by decide +kernel
theorem dX1_search_5 : decode cX1_search 5 = .ok (.aload_n 0, 1) := by decide +kernel
theorem dX1_search_6 : decode cX1_search 6 = .ok (.iconst 0, 1) := by decide +kernel
theorem dX1_search_7 : decode cX1_search 7 = .ok (.putfield 23, 3) := by decide +kernel
theorem dX1_search_10 : decode cX1_search 10 = .ok (.aload_n 0, 1) := by decide +kernel
theorem dX1_search_11 : decode cX1_search 11 = .ok (.iconst 0, 1) := by decide +kernel
theorem dX1_search_12 : decode cX1_search 12 = .ok (.putfield 26, 3) := by decide +kernel
theorem dX1_search_15 : decode cX1_search 15 = .ok (.aload_n 0, 1) := by decide +kernel
theorem dX1_search_16 : decode cX1_search 16 = .ok (.iconst 0, 1) := by decide +kernel
theorem dX1_search_17 : decode cX1_search 17 = .ok (.putfield 29, 3) := by decide +kernel
theorem dX1_search_20 : decode cX1_search 20 = .ok (.aload_n 1, 1) := by decide +kernel
theorem dX1_search_21 : decode cX1_search 21 = .ok (.aload_n 1, 1) := by decide +kernel
theorem dX1_search_22 : decode cX1_search 22 = .ok (.getfield 32, 3) := by decide +kernel
theorem dX1_search_25 : decode cX1_search 25 = .ok (.invokevirtual 37, 3) := by decide +kernel
theorem dX1_search_28 : decode cX1_search 28 = .ok (.ifCond .eq 32, 3) := by decide +kernel
theorem dX1_search_31 : decode cX1_search 31 = .ok (.aload_n 0, 1) := by decide +kernel
theorem dX1_search_32 : decode cX1_search 32 = .ok (.iconst 1, 1) := by decide +kernel
theorem dX1_search_33 : decode cX1_search 33 = .ok (.aload_n 1, 1) := by decide +kernel
theorem dX1_search_34 : decode cX1_search 34 = .ok (.getfield 32, 3) := by decide +kernel
theorem dX1_search_37 : decode cX1_search 37 = .ok (.ishl, 1) := by decide +kernel
theorem dX1_search_38 : decode cX1_search 38 = .ok (.iconst 1, 1) := by decide +kernel
theorem dX1_search_39 : decode cX1_search 39 = .ok (.isub, 1) := by decide +kernel
theorem dX1_search_40 : decode cX1_search 40 = .ok (.aload_n 1, 1) := by decide +kernel
theorem dX1_search_41 : decode cX1_search 41 = .ok (.getfield 41, 3) := by decide +kernel
theorem dX1_search_44 : decode cX1_search 44 = .ok (.aload_n 1, 1) := by decide +kernel
theorem dX1_search_45 : decode cX1_search 45 = .ok (.getfield 32, 3) := by decide +kernel
theorem dX1_search_48 : decode cX1_search 48 = .ok (.iaload, 1) := by decide +kernel
theorem dX1_search_49 : decode cX1_search 49 = .ok (.iconst (-1), 1) := by decide +kernel
theorem dX1_search_50 : decode cX1_search 50 = .ok (.ixor, 1) := by decide +kernel
theorem dX1_search_51 : decode cX1_search 51 = .ok (.iand, 1) := by decide +kernel
theorem dX1_search_52 : decode cX1_search 52 = .ok (.putfield 26, 3) := by decide +kernel
theorem dX1_search_55 : decode cX1_search 55 = .ok (.aload_n 0, 1) := by decide +kernel
theorem dX1_search_56 : decode cX1_search 56 = .ok (.aload_n 1, 1) := by decide +kernel
theorem dX1_search_57 : decode cX1_search 57 = .ok (.invokevirtual 44, 3) := by decide +kernel
theorem dX1_search_60 : decode cX1_search 60 = .ok (.aload_n 0, 1) := by decide +kernel
theorem dX1_search_61 : decode cX1_search 61 = .ok (.aload_n 0, 1) := by decide +kernel
theorem dX1_search_62 : decode cX1_search 62 = .ok (.getfield 26, 3) := by decide +kernel
theorem dX1_search_65 : decode cX1_search 65 = .ok (.putfield 48, 3) := by decide +kernel
theorem dX1_search_68 : decode cX1_search 68 = .ok (.iconst 0, 1) := by decide +kernel
theorem dX1_search_69 : decode cX1_search 69 = .ok (.istore_n 2, 1) := by decide +kernel
theorem dX1_search_70 : decode cX1_search 70 = .ok (.iload_n 2, 1) := by decide +kernel
theorem dX1_search_71 : decode cX1_search 71 = .ok (.aload_n 0, 1) := by decide +kernel
theorem dX1_search_72 : decode cX1_search 72 = .ok (.getfield 26, 3) := by decide +kernel
theorem dX1_search_75 : decode cX1_search 75 = .ok (.if_icmp .gt 78, 3) := by decide +kernel
theorem dX1_search_78 : decode cX1_search 78 = .ok (.iload_n 2, 1) := by decide +kernel
theorem dX1_search_79 : decode cX1_search 79 = .ok (.aload_n 0, 1) := by decide +kernel
theorem dX1_search_80 : decode cX1_search 80 = .ok (.getfield 26, 3) := by decide +kernel
theorem dX1_search_83 : decode cX1_search 83 = .ok (.iconst (-1), 1) := by decide +kernel
theorem dX1_search_84 : decode cX1_search 84 = .ok (.ixor, 1) := by decide +kernel
theorem dX1_search_85 : decode cX1_search 85 = .ok (.iand, 1) := by decide +kernel
theorem dX1_search_86 : decode cX1_search 86 = .ok (.ifCond .ne 61, 3) := by decide +kernel
theorem dX1_search_89 : decode cX1_search 89 = .ok (.aload_n 0, 1) := by decide +kernel
theorem dX1_search_90 : decode cX1_search 90 = .ok (.aload_n 1, 1) := by decide +kernel
theorem dX1_search_91 : decode cX1_search 91 = .ok (.iload_n 2, 1) := by decide +kernel
theorem dX1_search_92 : decode cX1_search 92 = .ok (.invokevirtual 51, 3) := by decide +kernel
theorem dX1_search_95 : decode cX1_search 95 = .ok (.ifCond .eq 52, 3) := by decide +kernel
theorem dX1_search_98 : decode cX1_search 98 = .ok (.aload_n 0, 1) := by decide +kernel
theorem dX1_search_99 : decode cX1_search 99 = .ok (.aload_n 0, 1) := by decide +kernel
theorem dX1_search_100 : decode cX1_search 100 = .ok (.getfield 19, 3) := by decide +kernel
theorem dX1_search_103 : decode cX1_search 103 = .ok (.ifCond .ne 7, 3) := by decide +kernel
theorem dX1_search_106 : decode cX1_search 106 = .ok (.iload_n 2, 1) := by decide +kernel
theorem dX1_search_107 : decode cX1_search 107 = .ok (.goto 7, 3) := by decide +kernel
theorem dX1_search_110 : decode cX1_search 110 = .ok (.aload_n 0, 1) := by decide +kernel
theorem dX1_search_111 : decode cX1_search 111 = .ok (.getfield 23, 3) := by decide +kernel
theorem dX1_search_114 : decode cX1_search 114 = .ok (.putfield 23, 3) := by decide +kernel
theorem dX1_search_117 : decode cX1_search 117 = .ok (.aload_n 0, 1) := by decide +kernel
theorem dX1_search_118 : decode cX1_search 118 = .ok (.dup, 1) := by decide +kernel
theorem dX1_search_119 : decode cX1_search 119 = .ok (.getfield 19, 3) := by decide +kernel
theorem dX1_search_122 : decode cX1_search 122 = .ok (.iconst 1, 1) := by decide +kernel
theorem dX1_search_123 : decode cX1_search 123 = .ok (.iadd, 1) := by decide +kernel
theorem dX1_search_124 : decode cX1_search 124 = .ok (.putfield 19, 3) := by decide +kernel
theorem dX1_search_127 : decode cX1_search 127 = .ok (.aload_n 0, 1) := by decide +kernel
theorem dX1_search_128 : decode cX1_search 128 = .ok (.dup, 1) := by decide +kernel
theorem dX1_search_129 : decode cX1_search 129 = .ok (.getfield 48, 3) := by decide +kernel
theorem dX1_search_132 : decode cX1_search 132 = .ok (.iload_n 2, 1) := by decide +kernel
theorem dX1_search_133 : decode cX1_search 133 = .ok (.iand, 1) := by decide +kernel
theorem dX1_search_134 : decode cX1_search 134 = .ok (.putfield 48, 3) := by decide +kernel
theorem dX1_search_137 : decode cX1_search 137 = .ok (.aload_n 0, 1) := by decide +kernel
theorem dX1_search_138 : decode cX1_search 138 = .ok (.dup, 1) := by decide +kernel
theorem dX1_search_139 : decode cX1_search 139 = .ok (.getfield 29, 3) := by decide +kernel
theorem dX1_search_142 : decode cX1_search 142 = .ok (.iload_n 2, 1) := by decide +kernel
theorem dX1_search_143 : decode cX1_search 143 = .ok (.ior, 1) := by decide +kernel
theorem dX1_search_144 : decode cX1_search 144 = .ok (.putfield 29, 3) := by decide +kernel
theorem dX1_search_147 : decode cX1_search 147 = .ok (.iinc 2 1, 3) := by decide +kernel
theorem dX1_search_150 : decode cX1_search 150 = .ok (.goto (-80), 3) := by decide +kernel
theorem dX1_search_153 : decode cX1_search 153 = .ok (.return_, 1) := by decide +kernel
theorem dX1_prepare_0 : decode cX1_prepare 0 = .ok (.aload_n 1, 1) := by decide +kernel
theorem dX1_prepare_1 : decode cX1_prepare 1 = .ok (.getfield 41, 3) := by decide +kernel
theorem dX1_prepare_4 : decode cX1_prepare 4 = .ok (.aload_n 1, 1) := by decide +kernel
theorem dX1_prepare_5 : decode cX1_prepare 5 = .ok (.getfield 32, 3) := by decide +kernel
theorem dX1_prepare_8 : decode cX1_prepare 8 = .ok (.iaload, 1) := by decide +kernel
theorem dX1_prepare_9 : decode cX1_prepare 9 = .ok (.istore_n 2, 1) := by decide +kernel
theorem dX1_prepare_10 : decode cX1_prepare 10 = .ok (.iconst 0, 1) := by decide +kernel
theorem dX1_prepare_11 : decode cX1_prepare 11 = .ok (.istore_n 3, 1) := by decide +kernel
theorem dX1_prepare_12 : decode cX1_prepare 12 = .ok (.iload_n 3, 1) := by decide +kernel
theorem dX1_prepare_13 : decode cX1_prepare 13 = .ok (.aload_n 1, 1) := by decide +kernel
theorem dX1_prepare_14 : decode cX1_prepare 14 = .ok (.getfield 55, 3) := by decide +kernel
theorem dX1_prepare_17 : decode cX1_prepare 17 = .ok (.if_icmp .ge 66, 3) := by decide +kernel
theorem dX1_prepare_20 : decode cX1_prepare 20 = .ok (.aload_n 0, 1) := by decide +kernel
theorem dX1_prepare_21 : decode cX1_prepare 21 = .ok (.getfield 9, 3) := by decide +kernel
theorem dX1_prepare_24 : decode cX1_prepare 24 = .ok (.iload_n 3, 1) := by decide +kernel
theorem dX1_prepare_25 : decode cX1_prepare 25 = .ok (.aload_n 1, 1) := by decide +kernel
theorem dX1_prepare_26 : decode cX1_prepare 26 = .ok (.aload_n 1, 1) := by decide +kernel
theorem dX1_prepare_27 : decode cX1_prepare 27 = .ok (.getfield 58, 3) := by decide +kernel
theorem dX1_prepare_30 : decode cX1_prepare 30 = .ok (.iload_n 3, 1) := by decide +kernel
theorem dX1_prepare_31 : decode cX1_prepare 31 = .ok (.iaload, 1) := by decide +kernel
theorem dX1_prepare_32 : decode cX1_prepare 32 = .ok (.invokevirtual 61, 3) := by decide +kernel
theorem dX1_prepare_35 : decode cX1_prepare 35 = .ok (.iastore, 1) := by decide +kernel
theorem dX1_prepare_36 : decode cX1_prepare 36 = .ok (.aload_n 0, 1) := by decide +kernel
theorem dX1_prepare_37 : decode cX1_prepare 37 = .ok (.getfield 15, 3) := by decide +kernel
theorem dX1_prepare_40 : decode cX1_prepare 40 = .ok (.iload_n 3, 1) := by decide +kernel
theorem dX1_prepare_41 : decode cX1_prepare 41 = .ok (.aload_n 1, 1) := by decide +kernel
theorem dX1_prepare_42 : decode cX1_prepare 42 = .ok (.getfield 58, 3) := by decide +kernel
theorem dX1_prepare_45 : decode cX1_prepare 45 = .ok (.iload_n 3, 1) := by decide +kernel
theorem dX1_prepare_46 : decode cX1_prepare 46 = .ok (.iaload, 1) := by decide +kernel
theorem dX1_prepare_47 : decode cX1_prepare 47 = .ok (.aload_n 1, 1) := by decide +kernel
theorem dX1_prepare_48 : decode cX1_prepare 48 = .ok (.getfield 32, 3) := by decide +kernel
theorem dX1_prepare_51 : decode cX1_prepare 51 = .ok (.ishr, 1) := by decide +kernel
theorem dX1_prepare_52 : decode cX1_prepare 52 = .ok (.iconst 1, 1) := by decide +kernel
theorem dX1_prepare_53 : decode cX1_prepare 53 = .ok (.iand, 1) := by decide +kernel
theorem dX1_prepare_54 : decode cX1_prepare 54 = .ok (.iconst 1, 1) := by decide +kernel
theorem dX1_prepare_55 : decode cX1_prepare 55 = .ok (.if_icmp .ne 20, 3) := by decide +kernel
theorem dX1_prepare_58 : decode cX1_prepare 58 = .ok (.iload_n 2, 1) := by decide +kernel
theorem dX1_prepare_59 : decode cX1_prepare 59 = .ok (.aload_n 0, 1) := by decide +kernel
theorem dX1_prepare_60 : decode cX1_prepare 60 = .ok (.getfield 9, 3) := by decide +kernel
theorem dX1_prepare_63 : decode cX1_prepare 63 = .ok (.iload_n 3, 1) := by decide +kernel
theorem dX1_prepare_64 : decode cX1_prepare 64 = .ok (.iaload, 1) := by decide +kernel
theorem dX1_prepare_65 : decode cX1_prepare 65 = .ok (.iconst (-1), 1) := by decide +kernel
theorem dX1_prepare_66 : decode cX1_prepare 66 = .ok (.ixor, 1) := by decide +kernel
theorem dX1_prepare_67 : decode cX1_prepare 67 = .ok (.iand, 1) := by decide +kernel
theorem dX1_prepare_68 : decode cX1_prepare 68 = .ok (.ifCond .ne 7, 3) := by decide +kernel
theorem dX1_prepare_71 : decode cX1_prepare 71 = .ok (.iconst 1, 1) := by decide +kernel
theorem dX1_prepare_72 : decode cX1_prepare 72 = .ok (.goto 4, 3) := by decide +kernel
theorem dX1_prepare_75 : decode cX1_prepare 75 = .ok (.iconst 0, 1) := by decide +kernel
theorem dX1_prepare_76 : decode cX1_prepare 76 = .ok (.bastore, 1) := by decide +kernel
theorem dX1_prepare_77 : decode cX1_prepare 77 = .ok (.iinc 3 1, 3) := by decide +kernel
theorem dX1_prepare_80 : decode cX1_prepare 80 = .ok (.goto (-68), 3) := by decide +kernel
theorem dX1_prepare_83 : decode cX1_prepare 83 = .ok (.return_, 1) := by decide +kernel
theorem dX1_agrees_0 : decode cX1_agrees 0 = .ok (.iconst 0, 1) := by decide +kernel
theorem dX1_agrees_1 : decode cX1_agrees 1 = .ok (.istore_n 3, 1) := by decide +kernel
theorem dX1_agrees_2 : decode cX1_agrees 2 = .ok (.iload_n 3, 1) := by decide +kernel
theorem dX1_agrees_3 : decode cX1_agrees 3 = .ok (.aload_n 1, 1) := by decide +kernel
theorem dX1_agrees_4 : decode cX1_agrees 4 = .ok (.getfield 55, 3) := by decide +kernel
theorem dX1_agrees_7 : decode cX1_agrees 7 = .ok (.if_icmp .ge 60, 3) := by decide +kernel
theorem dX1_agrees_10 : decode cX1_agrees 10 = .ok (.aload_n 0, 1) := by decide +kernel
theorem dX1_agrees_11 : decode cX1_agrees 11 = .ok (.getfield 15, 3) := by decide +kernel
theorem dX1_agrees_14 : decode cX1_agrees 14 = .ok (.iload_n 3, 1) := by decide +kernel
theorem dX1_agrees_15 : decode cX1_agrees 15 = .ok (.baload, 1) := by decide +kernel
theorem dX1_agrees_16 : decode cX1_agrees 16 = .ok (.ifCond .eq 18, 3) := by decide +kernel
theorem dX1_agrees_19 : decode cX1_agrees 19 = .ok (.aload_n 0, 1) := by decide +kernel
theorem dX1_agrees_20 : decode cX1_agrees 20 = .ok (.getfield 9, 3) := by decide +kernel
theorem dX1_agrees_23 : decode cX1_agrees 23 = .ok (.iload_n 3, 1) := by decide +kernel
theorem dX1_agrees_24 : decode cX1_agrees 24 = .ok (.iaload, 1) := by decide +kernel
theorem dX1_agrees_25 : decode cX1_agrees 25 = .ok (.iload_n 2, 1) := by decide +kernel
theorem dX1_agrees_26 : decode cX1_agrees 26 = .ok (.iand, 1) := by decide +kernel
theorem dX1_agrees_27 : decode cX1_agrees 27 = .ok (.ifCond .ne 7, 3) := by decide +kernel
theorem dX1_agrees_30 : decode cX1_agrees 30 = .ok (.iconst 1, 1) := by decide +kernel
theorem dX1_agrees_31 : decode cX1_agrees 31 = .ok (.goto 4, 3) := by decide +kernel
theorem dX1_agrees_34 : decode cX1_agrees 34 = .ok (.iconst 0, 1) := by decide +kernel
theorem dX1_agrees_35 : decode cX1_agrees 35 = .ok (.istore 4, 2) := by decide +kernel
theorem dX1_agrees_37 : decode cX1_agrees 37 = .ok (.iload 4, 2) := by decide +kernel
theorem dX1_agrees_39 : decode cX1_agrees 39 = .ok (.aload_n 1, 1) := by decide +kernel
theorem dX1_agrees_40 : decode cX1_agrees 40 = .ok (.getfield 64, 3) := by decide +kernel
theorem dX1_agrees_43 : decode cX1_agrees 43 = .ok (.iload_n 3, 1) := by decide +kernel
theorem dX1_agrees_44 : decode cX1_agrees 44 = .ok (.ishr, 1) := by decide +kernel
theorem dX1_agrees_45 : decode cX1_agrees 45 = .ok (.iconst 1, 1) := by decide +kernel
theorem dX1_agrees_46 : decode cX1_agrees 46 = .ok (.iand, 1) := by decide +kernel
theorem dX1_agrees_47 : decode cX1_agrees 47 = .ok (.iconst 1, 1) := by decide +kernel
theorem dX1_agrees_48 : decode cX1_agrees 48 = .ok (.if_icmp .ne 7, 3) := by decide +kernel
theorem dX1_agrees_51 : decode cX1_agrees 51 = .ok (.iconst 1, 1) := by decide +kernel
theorem dX1_agrees_52 : decode cX1_agrees 52 = .ok (.goto 4, 3) := by decide +kernel
theorem dX1_agrees_55 : decode cX1_agrees 55 = .ok (.iconst 0, 1) := by decide +kernel
theorem dX1_agrees_56 : decode cX1_agrees 56 = .ok (.if_icmp .eq 5, 3) := by decide +kernel
theorem dX1_agrees_59 : decode cX1_agrees 59 = .ok (.iconst 0, 1) := by decide +kernel
theorem dX1_agrees_60 : decode cX1_agrees 60 = .ok (.ireturn, 1) := by decide +kernel
theorem dX1_agrees_61 : decode cX1_agrees 61 = .ok (.iinc 3 1, 3) := by decide +kernel
theorem dX1_agrees_64 : decode cX1_agrees 64 = .ok (.goto (-62), 3) := by decide +kernel
theorem dX1_agrees_67 : decode cX1_agrees 67 = .ok (.iconst 1, 1) := by decide +kernel
theorem dX1_agrees_68 : decode cX1_agrees 68 = .ok (.ireturn, 1) := by decide +kernel
theorem dX2_init_0 : decode cX2_init 0 = .ok (.aload_n 0, 1) := by decide +kernel
theorem dX2_init_1 : decode cX2_init 1 = .ok (.invokespecial 3, 3) := by decide +kernel
theorem dX2_init_4 : decode cX2_init 4 = .ok (.aload_n 0, 1) := by decide +kernel
theorem dX2_init_5 : decode cX2_init 5 = .ok (.bipush 40, 2) := by decide +kernel
theorem dX2_init_7 : decode cX2_init 7 = .ok (.newarray .int, 2) := by decide +kernel
theorem dX2_init_9 : decode cX2_init 9 = .ok (.putfield 9, 3) := by decide +kernel
theorem dX2_init_12 : decode cX2_init 12 = .ok (.aload_n 0, 1) := by decide +kernel
theorem dX2_init_13 : decode cX2_init 13 = .ok (.iconst (-1), 1) := by decide +kernel
theorem dX2_init_14 : decode cX2_init 14 = .ok (.putfield 15, 3) := by decide +kernel
theorem dX2_init_17 : decode cX2_init 17 = .ok (.return_, 1) := by decide +kernel
theorem dX2_blank_0 : decode cX2_blank 0 = .ok (.aload_n 0, 1) := by decide +kernel
theorem dX2_blank_1 : decode cX2_blank 1 = .ok (.getfield 15, 3) := by decide +kernel
theorem dX2_blank_4 : decode cX2_blank 4 = .ok (.iconst (-1), 1) := by decide +kernel
theorem dX2_blank_5 : decode cX2_blank 5 = .ok (.if_icmp .ne 7, 3) := by decide +kernel
theorem dX2_blank_8 : decode cX2_blank 8 = .ok (.iconst 1, 1) := by decide +kernel
theorem dX2_blank_9 : decode cX2_blank 9 = .ok (.goto 4, 3) := by decide +kernel
theorem dX2_blank_12 : decode cX2_blank 12 = .ok (.iconst 0, 1) := by decide +kernel
theorem dX2_blank_13 : decode cX2_blank 13 = .ok (.ireturn, 1) := by decide +kernel
theorem dX2_renew_0 : decode cX2_renew 0 = .ok (.aload_n 0, 1) := by decide +kernel
theorem dX2_renew_1 : decode cX2_renew 1 = .ok (.iload_n 1, 1) := by decide +kernel
theorem dX2_renew_2 : decode cX2_renew 2 = .ok (.putfield 19, 3) := by decide +kernel
theorem dX2_renew_5 : decode cX2_renew 5 = .ok (.aload_n 0, 1) := by decide +kernel
theorem dX2_renew_6 : decode cX2_renew 6 = .ok (.iload_n 2, 1) := by decide +kernel
theorem dX2_renew_7 : decode cX2_renew 7 = .ok (.putfield 15, 3) := by decide +kernel
theorem dX2_renew_10 : decode cX2_renew 10 = .ok (.iconst 0, 1) := by decide +kernel
theorem dX2_renew_11 : decode cX2_renew 11 = .ok (.istore_n 3, 1) := by decide +kernel
theorem dX2_renew_12 : decode cX2_renew 12 = .ok (.iload_n 3, 1) := by decide +kernel
theorem dX2_renew_13 : decode cX2_renew 13 = .ok (.bipush 40, 2) := by decide +kernel
theorem dX2_renew_15 : decode cX2_renew 15 = .ok (.if_icmp .ge 16, 3) := by decide +kernel
theorem dX2_renew_18 : decode cX2_renew 18 = .ok (.aload_n 0, 1) := by decide +kernel
theorem dX2_renew_19 : decode cX2_renew 19 = .ok (.getfield 9, 3) := by decide +kernel
theorem dX2_renew_22 : decode cX2_renew 22 = .ok (.iload_n 3, 1) := by decide +kernel
theorem dX2_renew_23 : decode cX2_renew 23 = .ok (.iconst 0, 1) := by decide +kernel
theorem dX2_renew_24 : decode cX2_renew 24 = .ok (.iastore, 1) := by decide +kernel
theorem dX2_renew_25 : decode cX2_renew 25 = .ok (.iinc 3 1, 3) := by decide +kernel
theorem dX2_renew_28 : decode cX2_renew 28 = .ok (.goto (-16), 3) := by decide +kernel
theorem dX2_renew_31 : decode cX2_renew 31 = .ok (.return_, 1) := by decide +kernel
theorem dX2_faultOf_0 : decode cX2_faultOf 0 = .ok (.aload_n 0, 1) := by decide +kernel
theorem dX2_faultOf_1 : decode cX2_faultOf 1 = .ok (.invokevirtual 22, 3) := by decide +kernel
theorem dX2_faultOf_4 : decode cX2_faultOf 4 = .ok (.ifCond .eq 5, 3) := by decide +kernel
theorem dX2_faultOf_7 : decode cX2_faultOf 7 = .ok (.iconst 1, 1) := by decide +kernel
theorem dX2_faultOf_8 : decode cX2_faultOf 8 = .ok (.ireturn, 1) := by decide +kernel
theorem dX2_faultOf_9 : decode cX2_faultOf 9 = .ok (.iload_n 1, 1) := by decide +kernel
theorem dX2_faultOf_10 : decode cX2_faultOf 10 = .ok (.aload_n 0, 1) := by decide +kernel
theorem dX2_faultOf_11 : decode cX2_faultOf 11 = .ok (.getfield 19, 3) := by decide +kernel
theorem dX2_faultOf_14 : decode cX2_faultOf 14 = .ok (.if_icmp .eq 5, 3) := by decide +kernel
theorem dX2_faultOf_17 : decode cX2_faultOf 17 = .ok (.iconst 3, 1) := by decide +kernel
theorem dX2_faultOf_18 : decode cX2_faultOf 18 = .ok (.ireturn, 1) := by decide +kernel
theorem dX2_faultOf_19 : decode cX2_faultOf 19 = .ok (.iload_n 2, 1) := by decide +kernel
theorem dX2_faultOf_20 : decode cX2_faultOf 20 = .ok (.iconst 0, 1) := by decide +kernel
theorem dX2_faultOf_21 : decode cX2_faultOf 21 = .ok (.aload_n 0, 1) := by decide +kernel
theorem dX2_faultOf_22 : decode cX2_faultOf 22 = .ok (.getfield 15, 3) := by decide +kernel
theorem dX2_faultOf_25 : decode cX2_faultOf 25 = .ok (.iconst 1, 1) := by decide +kernel
theorem dX2_faultOf_26 : decode cX2_faultOf 26 = .ok (.isub, 1) := by decide +kernel
theorem dX2_faultOf_27 : decode cX2_faultOf 27 = .ok (.invokestatic 26, 3) := by decide +kernel
theorem dX2_faultOf_30 : decode cX2_faultOf 30 = .ok (.ifCond .eq 7, 3) := by decide +kernel
theorem dX2_faultOf_33 : decode cX2_faultOf 33 = .ok (.iconst 0, 1) := by decide +kernel
theorem dX2_faultOf_34 : decode cX2_faultOf 34 = .ok (.goto 4, 3) := by decide +kernel
theorem dX2_faultOf_37 : decode cX2_faultOf 37 = .ok (.iconst 2, 1) := by decide +kernel
theorem dX2_faultOf_38 : decode cX2_faultOf 38 = .ok (.ireturn, 1) := by decide +kernel
theorem dX2_put_0 : decode cX2_put 0 = .ok (.aload_n 0, 1) := by decide +kernel
theorem dX2_put_1 : decode cX2_put 1 = .ok (.getfield 19, 3) := by decide +kernel
theorem dX2_put_4 : decode cX2_put 4 = .ok (.lookupswitch 50 #[(0, 28), (1, 39)], 28) := by decide +kernel
theorem dX2_put_32 : decode cX2_put 32 = .ok (.aload_n 0, 1) := by decide +kernel
theorem dX2_put_33 : decode cX2_put 33 = .ok (.getfield 9, 3) := by decide +kernel
theorem dX2_put_36 : decode cX2_put 36 = .ok (.iload_n 1, 1) := by decide +kernel
theorem dX2_put_37 : decode cX2_put 37 = .ok (.iload_n 2, 1) := by decide +kernel
theorem dX2_put_38 : decode cX2_put 38 = .ok (.i2b, 1) := by decide +kernel
theorem dX2_put_39 : decode cX2_put 39 = .ok (.iastore, 1) := by decide +kernel
theorem dX2_put_40 : decode cX2_put 40 = .ok (.goto 21, 3) := by decide +kernel
theorem dX2_put_43 : decode cX2_put 43 = .ok (.aload_n 0, 1) := by decide +kernel
theorem dX2_put_44 : decode cX2_put 44 = .ok (.getfield 9, 3) := by decide +kernel
theorem dX2_put_47 : decode cX2_put 47 = .ok (.iload_n 1, 1) := by decide +kernel
theorem dX2_put_48 : decode cX2_put 48 = .ok (.iload_n 2, 1) := by decide +kernel
theorem dX2_put_49 : decode cX2_put 49 = .ok (.i2s, 1) := by decide +kernel
theorem dX2_put_50 : decode cX2_put 50 = .ok (.iastore, 1) := by decide +kernel
theorem dX2_put_51 : decode cX2_put 51 = .ok (.goto 10, 3) := by decide +kernel
theorem dX2_put_54 : decode cX2_put 54 = .ok (.aload_n 0, 1) := by decide +kernel
theorem dX2_put_55 : decode cX2_put 55 = .ok (.getfield 9, 3) := by decide +kernel
theorem dX2_put_58 : decode cX2_put 58 = .ok (.iload_n 1, 1) := by decide +kernel
theorem dX2_put_59 : decode cX2_put 59 = .ok (.iload_n 2, 1) := by decide +kernel
theorem dX2_put_60 : decode cX2_put 60 = .ok (.iastore, 1) := by decide +kernel
theorem dX2_put_61 : decode cX2_put 61 = .ok (.return_, 1) := by decide +kernel
theorem dX3_init_0 : decode cX3_init 0 = .ok (.aload_n 0, 1) := by decide +kernel
theorem dX3_init_1 : decode cX3_init 1 = .ok (.invokespecial 3, 3) := by decide +kernel
theorem dX3_init_4 : decode cX3_init 4 = .ok (.aload_n 0, 1) := by decide +kernel
theorem dX3_init_5 : decode cX3_init 5 = .ok (.bipush 8, 2) := by decide +kernel
theorem dX3_init_7 : decode cX3_init 7 = .ok (.newarray .int, 2) := by decide +kernel
theorem dX3_init_9 : decode cX3_init 9 = .ok (.putfield 9, 3) := by decide +kernel
theorem dX3_init_12 : decode cX3_init 12 = .ok (.aload_n 0, 1) := by decide +kernel
theorem dX3_init_13 : decode cX3_init 13 = .ok (.bipush 8, 2) := by decide +kernel
theorem dX3_init_15 : decode cX3_init 15 = .ok (.newarray .int, 2) := by decide +kernel
theorem dX3_init_17 : decode cX3_init 17 = .ok (.putfield 15, 3) := by decide +kernel
theorem dX3_init_20 : decode cX3_init 20 = .ok (.aload_n 0, 1) := by decide +kernel
theorem dX3_init_21 : decode cX3_init 21 = .ok (.bipush 8, 2) := by decide +kernel
theorem dX3_init_23 : decode cX3_init 23 = .ok (.newarray .int, 2) := by decide +kernel
theorem dX3_init_25 : decode cX3_init 25 = .ok (.putfield 18, 3) := by decide +kernel
theorem dX3_init_28 : decode cX3_init 28 = .ok (.aload_n 0, 1) := by decide +kernel
theorem dX3_init_29 : decode cX3_init 29 = .ok (.bipush 8, 2) := by decide +kernel
theorem dX3_init_31 : decode cX3_init 31 = .ok (.newarray .int, 2) := by decide +kernel
theorem dX3_init_33 : decode cX3_init 33 = .ok (.putfield 21, 3) := by decide +kernel
theorem dX3_init_36 : decode cX3_init 36 = .ok (.aload_n 0, 1) := by decide +kernel
theorem dX3_init_37 : decode cX3_init 37 = .ok (.bipush 8, 2) := by decide +kernel
theorem dX3_init_39 : decode cX3_init 39 = .ok (.newarray .int, 2) := by decide +kernel
theorem dX3_init_41 : decode cX3_init 41 = .ok (.putfield 24, 3) := by decide +kernel
theorem dX3_init_44 : decode cX3_init 44 = .ok (.aload_n 0, 1) := by decide +kernel
theorem dX3_init_45 : decode cX3_init 45 = .ok (.bipush 8, 2) := by decide +kernel
theorem dX3_init_47 : decode cX3_init 47 = .ok (.newarray .int, 2) := by decide +kernel
theorem dX3_init_49 : decode cX3_init 49 = .ok (.putfield 27, 3) := by decide +kernel
theorem dX3_init_52 : decode cX3_init 52 = .ok (.aload_n 0, 1) := by decide +kernel
theorem dX3_init_53 : decode cX3_init 53 = .ok (.bipush 6, 2) := by decide +kernel
theorem dX3_init_55 : decode cX3_init 55 = .ok (.newarray .int, 2) := by decide +kernel
theorem dX3_init_57 : decode cX3_init 57 = .ok (.putfield 30, 3) := by decide +kernel
theorem dX3_init_60 : decode cX3_init 60 = .ok (.aload_n 0, 1) := by decide +kernel
theorem dX3_init_61 : decode cX3_init 61 = .ok (.bipush 6, 2) := by decide +kernel
theorem dX3_init_63 : decode cX3_init 63 = .ok (.newarray .int, 2) := by decide +kernel
theorem dX3_init_65 : decode cX3_init 65 = .ok (.putfield 33, 3) := by decide +kernel
theorem dX3_init_68 : decode cX3_init 68 = .ok (.aload_n 0, 1) := by decide +kernel
theorem dX3_init_69 : decode cX3_init 69 = .ok (.bipush (-4), 2) := by decide +kernel
theorem dX3_init_71 : decode cX3_init 71 = .ok (.putfield 36, 3) := by decide +kernel
theorem dX3_init_74 : decode cX3_init 74 = .ok (.return_, 1) := by decide +kernel
theorem dX3_empty_0 : decode cX3_empty 0 = .ok (.aload_n 0, 1) := by decide +kernel
theorem dX3_empty_1 : decode cX3_empty 1 = .ok (.iconst 0, 1) := by decide +kernel
theorem dX3_empty_2 : decode cX3_empty 2 = .ok (.putfield 40, 3) := by decide +kernel
theorem dX3_empty_5 : decode cX3_empty 5 = .ok (.aload_n 0, 1) := by decide +kernel
theorem dX3_empty_6 : decode cX3_empty 6 = .ok (.bipush (-4), 2) := by decide +kernel
theorem dX3_empty_8 : decode cX3_empty 8 = .ok (.putfield 36, 3) := by decide +kernel
theorem dX3_empty_11 : decode cX3_empty 11 = .ok (.aload_n 0, 1) := by decide +kernel
theorem dX3_empty_12 : decode cX3_empty 12 = .ok (.iconst 0, 1) := by decide +kernel
theorem dX3_empty_13 : decode cX3_empty 13 = .ok (.putfield 43, 3) := by decide +kernel
theorem dX3_empty_16 : decode cX3_empty 16 = .ok (.aload_n 0, 1) := by decide +kernel
theorem dX3_empty_17 : decode cX3_empty 17 = .ok (.iconst 0, 1) := by decide +kernel
theorem dX3_empty_18 : decode cX3_empty 18 = .ok (.putfield 46, 3) := by decide +kernel
theorem dX3_empty_21 : decode cX3_empty 21 = .ok (.aload_n 0, 1) := by decide +kernel
theorem dX3_empty_22 : decode cX3_empty 22 = .ok (.iconst 0, 1) := by decide +kernel
theorem dX3_empty_23 : decode cX3_empty 23 = .ok (.putfield 49, 3) := by decide +kernel
theorem dX3_empty_26 : decode cX3_empty 26 = .ok (.aload_n 0, 1) := by decide +kernel
theorem dX3_empty_27 : decode cX3_empty 27 = .ok (.iconst 0, 1) := by decide +kernel
theorem dX3_empty_28 : decode cX3_empty 28 = .ok (.putfield 52, 3) := by decide +kernel
theorem dX3_empty_31 : decode cX3_empty 31 = .ok (.return_, 1) := by decide +kernel
theorem dX3_become_0 : decode cX3_become 0 = .ok (.aload_n 1, 1) := by decide +kernel
theorem dX3_become_1 : decode cX3_become 1 = .ok (.getfield 9, 3) := by decide +kernel
theorem dX3_become_4 : decode cX3_become 4 = .ok (.iconst 0, 1) := by decide +kernel
theorem dX3_become_5 : decode cX3_become 5 = .ok (.aload_n 0, 1) := by decide +kernel
theorem dX3_become_6 : decode cX3_become 6 = .ok (.getfield 9, 3) := by decide +kernel
theorem dX3_become_9 : decode cX3_become 9 = .ok (.iconst 0, 1) := by decide +kernel
theorem dX3_become_10 : decode cX3_become 10 = .ok (.bipush 8, 2) := by decide +kernel
theorem dX3_become_12 : decode cX3_become 12 = .ok (.invokestatic 55, 3) := by decide +kernel
theorem dX3_become_15 : decode cX3_become 15 = .ok (.aload_n 1, 1) := by decide +kernel
theorem dX3_become_16 : decode cX3_become 16 = .ok (.getfield 15, 3) := by decide +kernel
theorem dX3_become_19 : decode cX3_become 19 = .ok (.iconst 0, 1) := by decide +kernel
theorem dX3_become_20 : decode cX3_become 20 = .ok (.aload_n 0, 1) := by decide +kernel
theorem dX3_become_21 : decode cX3_become 21 = .ok (.getfield 15, 3) := by decide +kernel
theorem dX3_become_24 : decode cX3_become 24 = .ok (.iconst 0, 1) := by decide +kernel
theorem dX3_become_25 : decode cX3_become 25 = .ok (.bipush 8, 2) := by decide +kernel
theorem dX3_become_27 : decode cX3_become 27 = .ok (.invokestatic 55, 3) := by decide +kernel
theorem dX3_become_30 : decode cX3_become 30 = .ok (.aload_n 1, 1) := by decide +kernel
theorem dX3_become_31 : decode cX3_become 31 = .ok (.getfield 18, 3) := by decide +kernel
theorem dX3_become_34 : decode cX3_become 34 = .ok (.iconst 0, 1) := by decide +kernel
theorem dX3_become_35 : decode cX3_become 35 = .ok (.aload_n 0, 1) := by decide +kernel
theorem dX3_become_36 : decode cX3_become 36 = .ok (.getfield 18, 3) := by decide +kernel
theorem dX3_become_39 : decode cX3_become 39 = .ok (.iconst 0, 1) := by decide +kernel
theorem dX3_become_40 : decode cX3_become 40 = .ok (.bipush 8, 2) := by decide +kernel
theorem dX3_become_42 : decode cX3_become 42 = .ok (.invokestatic 55, 3) := by decide +kernel
theorem dX3_become_45 : decode cX3_become 45 = .ok (.aload_n 1, 1) := by decide +kernel
theorem dX3_become_46 : decode cX3_become 46 = .ok (.getfield 21, 3) := by decide +kernel
theorem dX3_become_49 : decode cX3_become 49 = .ok (.iconst 0, 1) := by decide +kernel
theorem dX3_become_50 : decode cX3_become 50 = .ok (.aload_n 0, 1) := by decide +kernel
theorem dX3_become_51 : decode cX3_become 51 = .ok (.getfield 21, 3) := by decide +kernel
theorem dX3_become_54 : decode cX3_become 54 = .ok (.iconst 0, 1) := by decide +kernel
theorem dX3_become_55 : decode cX3_become 55 = .ok (.bipush 8, 2) := by decide +kernel
theorem dX3_become_57 : decode cX3_become 57 = .ok (.invokestatic 55, 3) := by decide +kernel
theorem dX3_become_60 : decode cX3_become 60 = .ok (.aload_n 1, 1) := by decide +kernel
theorem dX3_become_61 : decode cX3_become 61 = .ok (.getfield 24, 3) := by decide +kernel
theorem dX3_become_64 : decode cX3_become 64 = .ok (.iconst 0, 1) := by decide +kernel
theorem dX3_become_65 : decode cX3_become 65 = .ok (.aload_n 0, 1) := by decide +kernel
theorem dX3_become_66 : decode cX3_become 66 = .ok (.getfield 24, 3) := by decide +kernel
theorem dX3_become_69 : decode cX3_become 69 = .ok (.iconst 0, 1) := by decide +kernel
theorem dX3_become_70 : decode cX3_become 70 = .ok (.bipush 8, 2) := by decide +kernel
theorem dX3_become_72 : decode cX3_become 72 = .ok (.invokestatic 55, 3) := by decide +kernel
theorem dX3_become_75 : decode cX3_become 75 = .ok (.aload_n 1, 1) := by decide +kernel
theorem dX3_become_76 : decode cX3_become 76 = .ok (.getfield 27, 3) := by decide +kernel
theorem dX3_become_79 : decode cX3_become 79 = .ok (.iconst 0, 1) := by decide +kernel
theorem dX3_become_80 : decode cX3_become 80 = .ok (.aload_n 0, 1) := by decide +kernel
theorem dX3_become_81 : decode cX3_become 81 = .ok (.getfield 27, 3) := by decide +kernel
theorem dX3_become_84 : decode cX3_become 84 = .ok (.iconst 0, 1) := by decide +kernel
theorem dX3_become_85 : decode cX3_become 85 = .ok (.bipush 8, 2) := by decide +kernel
theorem dX3_become_87 : decode cX3_become 87 = .ok (.invokestatic 55, 3) := by decide +kernel
theorem dX3_become_90 : decode cX3_become 90 = .ok (.aload_n 1, 1) := by decide +kernel
theorem dX3_become_91 : decode cX3_become 91 = .ok (.getfield 30, 3) := by decide +kernel
theorem dX3_become_94 : decode cX3_become 94 = .ok (.iconst 0, 1) := by decide +kernel
theorem dX3_become_95 : decode cX3_become 95 = .ok (.aload_n 0, 1) := by decide +kernel
theorem dX3_become_96 : decode cX3_become 96 = .ok (.getfield 30, 3) := by decide +kernel
theorem dX3_become_99 : decode cX3_become 99 = .ok (.iconst 0, 1) := by decide +kernel
theorem dX3_become_100 : decode cX3_become 100 = .ok (.bipush 6, 2) := by decide +kernel
theorem dX3_become_102 : decode cX3_become 102 = .ok (.invokestatic 55, 3) := by decide +kernel
theorem dX3_become_105 : decode cX3_become 105 = .ok (.aload_n 1, 1) := by decide +kernel
theorem dX3_become_106 : decode cX3_become 106 = .ok (.getfield 33, 3) := by decide +kernel
theorem dX3_become_109 : decode cX3_become 109 = .ok (.iconst 0, 1) := by decide +kernel
theorem dX3_become_110 : decode cX3_become 110 = .ok (.aload_n 0, 1) := by decide +kernel
theorem dX3_become_111 : decode cX3_become 111 = .ok (.getfield 33, 3) := by decide +kernel
theorem dX3_become_114 : decode cX3_become 114 = .ok (.iconst 0, 1) := by decide +kernel
theorem dX3_become_115 : decode cX3_become 115 = .ok (.bipush 6, 2) := by decide +kernel
theorem dX3_become_117 : decode cX3_become 117 = .ok (.invokestatic 55, 3) := by decide +kernel
theorem dX3_become_120 : decode cX3_become 120 = .ok (.aload_n 0, 1) := by decide +kernel
theorem dX3_become_121 : decode cX3_become 121 = .ok (.aload_n 1, 1) := by decide +kernel
theorem dX3_become_122 : decode cX3_become 122 = .ok (.getfield 61, 3) := by decide +kernel
theorem dX3_become_125 : decode cX3_become 125 = .ok (.putfield 61, 3) := by decide +kernel
theorem dX3_become_128 : decode cX3_become 128 = .ok (.aload_n 0, 1) := by decide +kernel
theorem dX3_become_129 : decode cX3_become 129 = .ok (.aload_n 1, 1) := by decide +kernel
theorem dX3_become_130 : decode cX3_become 130 = .ok (.getfield 40, 3) := by decide +kernel
theorem dX3_become_133 : decode cX3_become 133 = .ok (.putfield 40, 3) := by decide +kernel
theorem dX3_become_136 : decode cX3_become 136 = .ok (.aload_n 0, 1) := by decide +kernel
theorem dX3_become_137 : decode cX3_become 137 = .ok (.aload_n 1, 1) := by decide +kernel
theorem dX3_become_138 : decode cX3_become 138 = .ok (.getfield 36, 3) := by decide +kernel
theorem dX3_become_141 : decode cX3_become 141 = .ok (.putfield 36, 3) := by decide +kernel
theorem dX3_become_144 : decode cX3_become 144 = .ok (.aload_n 0, 1) := by decide +kernel
theorem dX3_become_145 : decode cX3_become 145 = .ok (.aload_n 1, 1) := by decide +kernel
theorem dX3_become_146 : decode cX3_become 146 = .ok (.getfield 43, 3) := by decide +kernel
theorem dX3_become_149 : decode cX3_become 149 = .ok (.putfield 43, 3) := by decide +kernel
theorem dX3_become_152 : decode cX3_become 152 = .ok (.aload_n 0, 1) := by decide +kernel
theorem dX3_become_153 : decode cX3_become 153 = .ok (.aload_n 1, 1) := by decide +kernel
theorem dX3_become_154 : decode cX3_become 154 = .ok (.getfield 46, 3) := by decide +kernel
theorem dX3_become_157 : decode cX3_become 157 = .ok (.putfield 46, 3) := by decide +kernel
theorem dX3_become_160 : decode cX3_become 160 = .ok (.aload_n 0, 1) := by decide +kernel
theorem dX3_become_161 : decode cX3_become 161 = .ok (.aload_n 1, 1) := by decide +kernel
theorem dX3_become_162 : decode cX3_become 162 = .ok (.getfield 49, 3) := by decide +kernel
theorem dX3_become_165 : decode cX3_become 165 = .ok (.putfield 49, 3) := by decide +kernel
theorem dX3_become_168 : decode cX3_become 168 = .ok (.aload_n 0, 1) := by decide +kernel
theorem dX3_become_169 : decode cX3_become 169 = .ok (.aload_n 1, 1) := by decide +kernel
theorem dX3_become_170 : decode cX3_become 170 = .ok (.getfield 52, 3) := by decide +kernel
theorem dX3_become_173 : decode cX3_become 173 = .ok (.putfield 52, 3) := by decide +kernel
theorem dX3_become_176 : decode cX3_become 176 = .ok (.return_, 1) := by decide +kernel
theorem dX3_hasClaim_0 : decode cX3_hasClaim 0 = .ok (.iload_n 1, 1) := by decide +kernel
theorem dX3_hasClaim_1 : decode cX3_hasClaim 1 = .ok (.ifCond .lt 15, 3) := by decide +kernel
theorem dX3_hasClaim_4 : decode cX3_hasClaim 4 = .ok (.iload_n 1, 1) := by decide +kernel
theorem dX3_hasClaim_5 : decode cX3_hasClaim 5 = .ok (.aload_n 0, 1) := by decide +kernel
theorem dX3_hasClaim_6 : decode cX3_hasClaim 6 = .ok (.getfield 40, 3) := by decide +kernel
theorem dX3_hasClaim_9 : decode cX3_hasClaim 9 = .ok (.if_icmp .ge 7, 3) := by decide +kernel
theorem dX3_hasClaim_12 : decode cX3_hasClaim 12 = .ok (.iconst 1, 1) := by decide +kernel
theorem dX3_hasClaim_13 : decode cX3_hasClaim 13 = .ok (.goto 4, 3) := by decide +kernel
theorem dX3_hasClaim_16 : decode cX3_hasClaim 16 = .ok (.iconst 0, 1) := by decide +kernel
theorem dX3_hasClaim_17 : decode cX3_hasClaim 17 = .ok (.ireturn, 1) := by decide +kernel
theorem dX3_hasSet_0 : decode cX3_hasSet 0 = .ok (.iload_n 1, 1) := by decide +kernel
theorem dX3_hasSet_1 : decode cX3_hasSet 1 = .ok (.ifCond .lt 17, 3) := by decide +kernel
theorem dX3_hasSet_4 : decode cX3_hasSet 4 = .ok (.iload_n 1, 1) := by decide +kernel
theorem dX3_hasSet_5 : decode cX3_hasSet 5 = .ok (.iconst 1, 1) := by decide +kernel
theorem dX3_hasSet_6 : decode cX3_hasSet 6 = .ok (.aload_n 0, 1) := by decide +kernel
theorem dX3_hasSet_7 : decode cX3_hasSet 7 = .ok (.getfield 40, 3) := by decide +kernel
theorem dX3_hasSet_10 : decode cX3_hasSet 10 = .ok (.ishl, 1) := by decide +kernel
theorem dX3_hasSet_11 : decode cX3_hasSet 11 = .ok (.if_icmp .ge 7, 3) := by decide +kernel
theorem dX3_hasSet_14 : decode cX3_hasSet 14 = .ok (.iconst 1, 1) := by decide +kernel
theorem dX3_hasSet_15 : decode cX3_hasSet 15 = .ok (.goto 4, 3) := by decide +kernel
theorem dX3_hasSet_18 : decode cX3_hasSet 18 = .ok (.iconst 0, 1) := by decide +kernel
theorem dX3_hasSet_19 : decode cX3_hasSet 19 = .ok (.ireturn, 1) := by decide +kernel
theorem dX3_isSaid_0 : decode cX3_isSaid 0 = .ok (.aload_n 0, 1) := by decide +kernel
theorem dX3_isSaid_1 : decode cX3_isSaid 1 = .ok (.getfield 46, 3) := by decide +kernel
theorem dX3_isSaid_4 : decode cX3_isSaid 4 = .ok (.iload_n 1, 1) := by decide +kernel
theorem dX3_isSaid_5 : decode cX3_isSaid 5 = .ok (.ishr, 1) := by decide +kernel
theorem dX3_isSaid_6 : decode cX3_isSaid 6 = .ok (.iconst 1, 1) := by decide +kernel
theorem dX3_isSaid_7 : decode cX3_isSaid 7 = .ok (.iand, 1) := by decide +kernel
theorem dX3_isSaid_8 : decode cX3_isSaid 8 = .ok (.iconst 1, 1) := by decide +kernel
theorem dX3_isSaid_9 : decode cX3_isSaid 9 = .ok (.if_icmp .ne 7, 3) := by decide +kernel
theorem dX3_isSaid_12 : decode cX3_isSaid 12 = .ok (.iconst 1, 1) := by decide +kernel
theorem dX3_isSaid_13 : decode cX3_isSaid 13 = .ok (.goto 4, 3) := by decide +kernel
theorem dX3_isSaid_16 : decode cX3_isSaid 16 = .ok (.iconst 0, 1) := by decide +kernel
theorem dX3_isSaid_17 : decode cX3_isSaid 17 = .ok (.ireturn, 1) := by decide +kernel
theorem dX3_inTime_0 : decode cX3_inTime 0 = .ok (.iload_n 2, 1) := by decide +kernel
theorem dX3_inTime_1 : decode cX3_inTime 1 = .ok (.aload_n 0, 1) := by decide +kernel
theorem dX3_inTime_2 : decode cX3_inTime 2 = .ok (.getfield 15, 3) := by decide +kernel
theorem dX3_inTime_5 : decode cX3_inTime 5 = .ok (.iload_n 1, 1) := by decide +kernel
theorem dX3_inTime_6 : decode cX3_inTime 6 = .ok (.iaload, 1) := by decide +kernel
theorem dX3_inTime_7 : decode cX3_inTime 7 = .ok (.if_icmp .lt 17, 3) := by decide +kernel
theorem dX3_inTime_10 : decode cX3_inTime 10 = .ok (.iload_n 2, 1) := by decide +kernel
theorem dX3_inTime_11 : decode cX3_inTime 11 = .ok (.aload_n 0, 1) := by decide +kernel
theorem dX3_inTime_12 : decode cX3_inTime 12 = .ok (.getfield 18, 3) := by decide +kernel
theorem dX3_inTime_15 : decode cX3_inTime 15 = .ok (.iload_n 1, 1) := by decide +kernel
theorem dX3_inTime_16 : decode cX3_inTime 16 = .ok (.iaload, 1) := by decide +kernel
theorem dX3_inTime_17 : decode cX3_inTime 17 = .ok (.if_icmp .gt 7, 3) := by decide +kernel
theorem dX3_inTime_20 : decode cX3_inTime 20 = .ok (.iconst 1, 1) := by decide +kernel
theorem dX3_inTime_21 : decode cX3_inTime 21 = .ok (.goto 4, 3) := by decide +kernel
theorem dX3_inTime_24 : decode cX3_inTime 24 = .ok (.iconst 0, 1) := by decide +kernel
theorem dX3_inTime_25 : decode cX3_inTime 25 = .ok (.ireturn, 1) := by decide +kernel
theorem dX3_standing_0 : decode cX3_standing 0 = .ok (.iconst 0, 1) := by decide +kernel
theorem dX3_standing_1 : decode cX3_standing 1 = .ok (.istore_n 2, 1) := by decide +kernel
theorem dX3_standing_2 : decode cX3_standing 2 = .ok (.iconst 0, 1) := by decide +kernel
theorem dX3_standing_3 : decode cX3_standing 3 = .ok (.istore_n 3, 1) := by decide +kernel
theorem dX3_standing_4 : decode cX3_standing 4 = .ok (.iload_n 3, 1) := by decide +kernel
theorem dX3_standing_5 : decode cX3_standing 5 = .ok (.aload_n 0, 1) := by decide +kernel
theorem dX3_standing_6 : decode cX3_standing 6 = .ok (.getfield 40, 3) := by decide +kernel
theorem dX3_standing_9 : decode cX3_standing 9 = .ok (.if_icmp .ge 60, 3) := by decide +kernel
theorem dX3_standing_12 : decode cX3_standing 12 = .ok (.aload_n 0, 1) := by decide +kernel
theorem dX3_standing_13 : decode cX3_standing 13 = .ok (.getfield 24, 3) := by decide +kernel
theorem dX3_standing_16 : decode cX3_standing 16 = .ok (.iload_n 3, 1) := by decide +kernel
theorem dX3_standing_17 : decode cX3_standing 17 = .ok (.iaload, 1) := by decide +kernel
theorem dX3_standing_18 : decode cX3_standing 18 = .ok (.iload_n 2, 1) := by decide +kernel
theorem dX3_standing_19 : decode cX3_standing 19 = .ok (.iconst (-1), 1) := by decide +kernel
theorem dX3_standing_20 : decode cX3_standing 20 = .ok (.ixor, 1) := by decide +kernel
theorem dX3_standing_21 : decode cX3_standing 21 = .ok (.iand, 1) := by decide +kernel
theorem dX3_standing_22 : decode cX3_standing 22 = .ok (.ifCond .ne 18, 3) := by decide +kernel
theorem dX3_standing_25 : decode cX3_standing 25 = .ok (.aload_n 0, 1) := by decide +kernel
theorem dX3_standing_26 : decode cX3_standing 26 = .ok (.getfield 27, 3) := by decide +kernel
theorem dX3_standing_29 : decode cX3_standing 29 = .ok (.iload_n 3, 1) := by decide +kernel
theorem dX3_standing_30 : decode cX3_standing 30 = .ok (.iaload, 1) := by decide +kernel
theorem dX3_standing_31 : decode cX3_standing 31 = .ok (.iload_n 2, 1) := by decide +kernel
theorem dX3_standing_32 : decode cX3_standing 32 = .ok (.iand, 1) := by decide +kernel
theorem dX3_standing_33 : decode cX3_standing 33 = .ok (.ifCond .ne 7, 3) := by decide +kernel
theorem dX3_standing_36 : decode cX3_standing 36 = .ok (.iconst 1, 1) := by decide +kernel
theorem dX3_standing_37 : decode cX3_standing 37 = .ok (.goto 4, 3) := by decide +kernel
theorem dX3_standing_40 : decode cX3_standing 40 = .ok (.iconst 0, 1) := by decide +kernel
theorem dX3_standing_41 : decode cX3_standing 41 = .ok (.istore 4, 2) := by decide +kernel
theorem dX3_standing_43 : decode cX3_standing 43 = .ok (.iload 4, 2) := by decide +kernel
theorem dX3_standing_45 : decode cX3_standing 45 = .ok (.ifCond .eq 18, 3) := by decide +kernel
theorem dX3_standing_48 : decode cX3_standing 48 = .ok (.iload_n 1, 1) := by decide +kernel
theorem dX3_standing_49 : decode cX3_standing 49 = .ok (.iload_n 3, 1) := by decide +kernel
theorem dX3_standing_50 : decode cX3_standing 50 = .ok (.ishr, 1) := by decide +kernel
theorem dX3_standing_51 : decode cX3_standing 51 = .ok (.iconst 1, 1) := by decide +kernel
theorem dX3_standing_52 : decode cX3_standing 52 = .ok (.iand, 1) := by decide +kernel
theorem dX3_standing_53 : decode cX3_standing 53 = .ok (.iconst 1, 1) := by decide +kernel
theorem dX3_standing_54 : decode cX3_standing 54 = .ok (.if_icmp .ne 9, 3) := by decide +kernel
theorem dX3_standing_57 : decode cX3_standing 57 = .ok (.iload_n 2, 1) := by decide +kernel
theorem dX3_standing_58 : decode cX3_standing 58 = .ok (.iconst 1, 1) := by decide +kernel
theorem dX3_standing_59 : decode cX3_standing 59 = .ok (.iload_n 3, 1) := by decide +kernel
theorem dX3_standing_60 : decode cX3_standing 60 = .ok (.ishl, 1) := by decide +kernel
theorem dX3_standing_61 : decode cX3_standing 61 = .ok (.ior, 1) := by decide +kernel
theorem dX3_standing_62 : decode cX3_standing 62 = .ok (.istore_n 2, 1) := by decide +kernel
theorem dX3_standing_63 : decode cX3_standing 63 = .ok (.iinc 3 1, 3) := by decide +kernel
theorem dX3_standing_66 : decode cX3_standing 66 = .ok (.goto (-62), 3) := by decide +kernel
theorem dX3_standing_69 : decode cX3_standing 69 = .ok (.iload_n 2, 1) := by decide +kernel
theorem dX3_standing_70 : decode cX3_standing 70 = .ok (.ireturn, 1) := by decide +kernel
theorem dX3_endStands_0 : decode cX3_endStands 0 = .ok (.aload_n 0, 1) := by decide +kernel
theorem dX3_endStands_1 : decode cX3_endStands 1 = .ok (.aload_n 0, 1) := by decide +kernel
theorem dX3_endStands_2 : decode cX3_endStands 2 = .ok (.getfield 36, 3) := by decide +kernel
theorem dX3_endStands_5 : decode cX3_endStands 5 = .ok (.invokevirtual 64, 3) := by decide +kernel
theorem dX3_endStands_8 : decode cX3_endStands 8 = .ok (.ifCond .eq 23, 3) := by decide +kernel
theorem dX3_endStands_11 : decode cX3_endStands 11 = .ok (.aload_n 0, 1) := by decide +kernel
theorem dX3_endStands_12 : decode cX3_endStands 12 = .ok (.iload_n 1, 1) := by decide +kernel
theorem dX3_endStands_13 : decode cX3_endStands 13 = .ok (.invokevirtual 68, 3) := by decide +kernel
theorem dX3_endStands_16 : decode cX3_endStands 16 = .ok (.aload_n 0, 1) := by decide +kernel
theorem dX3_endStands_17 : decode cX3_endStands 17 = .ok (.getfield 36, 3) := by decide +kernel
theorem dX3_endStands_20 : decode cX3_endStands 20 = .ok (.ishr, 1) := by decide +kernel
theorem dX3_endStands_21 : decode cX3_endStands 21 = .ok (.iconst 1, 1) := by decide +kernel
theorem dX3_endStands_22 : decode cX3_endStands 22 = .ok (.iand, 1) := by decide +kernel
theorem dX3_endStands_23 : decode cX3_endStands 23 = .ok (.iconst 1, 1) := by decide +kernel
theorem dX3_endStands_24 : decode cX3_endStands 24 = .ok (.if_icmp .ne 7, 3) := by decide +kernel
theorem dX3_endStands_27 : decode cX3_endStands 27 = .ok (.iconst 1, 1) := by decide +kernel
theorem dX3_endStands_28 : decode cX3_endStands 28 = .ok (.goto 4, 3) := by decide +kernel
theorem dX3_endStands_31 : decode cX3_endStands 31 = .ok (.iconst 0, 1) := by decide +kernel
theorem dX3_endStands_32 : decode cX3_endStands 32 = .ok (.ireturn, 1) := by decide +kernel
theorem dX3_addToPlan_0 : decode cX3_addToPlan 0 = .ok (.aload_n 0, 1) := by decide +kernel
theorem dX3_addToPlan_1 : decode cX3_addToPlan 1 = .ok (.getfield 49, 3) := by decide +kernel
theorem dX3_addToPlan_4 : decode cX3_addToPlan 4 = .ok (.bipush 6, 2) := by decide +kernel
theorem dX3_addToPlan_6 : decode cX3_addToPlan 6 = .ok (.if_icmp .lt 5, 3) := by decide +kernel
theorem dX3_addToPlan_9 : decode cX3_addToPlan 9 = .ok (.iconst 0, 1) := by decide +kernel
theorem dX3_addToPlan_10 : decode cX3_addToPlan 10 = .ok (.ireturn, 1) := by decide +kernel
theorem dX3_addToPlan_11 : decode cX3_addToPlan 11 = .ok (.aload_n 0, 1) := by decide +kernel
theorem dX3_addToPlan_12 : decode cX3_addToPlan 12 = .ok (.getfield 30, 3) := by decide +kernel
theorem dX3_addToPlan_15 : decode cX3_addToPlan 15 = .ok (.aload_n 0, 1) := by decide +kernel
theorem dX3_addToPlan_16 : decode cX3_addToPlan 16 = .ok (.getfield 49, 3) := by decide +kernel
theorem dX3_addToPlan_19 : decode cX3_addToPlan 19 = .ok (.iload_n 1, 1) := by decide +kernel
theorem dX3_addToPlan_20 : decode cX3_addToPlan 20 = .ok (.iastore, 1) := by decide +kernel
theorem dX3_addToPlan_21 : decode cX3_addToPlan 21 = .ok (.aload_n 0, 1) := by decide +kernel
theorem dX3_addToPlan_22 : decode cX3_addToPlan 22 = .ok (.dup, 1) := by decide +kernel
theorem dX3_addToPlan_23 : decode cX3_addToPlan 23 = .ok (.getfield 49, 3) := by decide +kernel
theorem dX3_addToPlan_26 : decode cX3_addToPlan 26 = .ok (.iconst 1, 1) := by decide +kernel
theorem dX3_addToPlan_27 : decode cX3_addToPlan 27 = .ok (.iadd, 1) := by decide +kernel
theorem dX3_addToPlan_28 : decode cX3_addToPlan 28 = .ok (.putfield 49, 3) := by decide +kernel
theorem dX3_addToPlan_31 : decode cX3_addToPlan 31 = .ok (.iconst 1, 1) := by decide +kernel
theorem dX3_addToPlan_32 : decode cX3_addToPlan 32 = .ok (.ireturn, 1) := by decide +kernel
theorem dX3_addSeen_0 : decode cX3_addSeen 0 = .ok (.aload_n 0, 1) := by decide +kernel
theorem dX3_addSeen_1 : decode cX3_addSeen 1 = .ok (.getfield 52, 3) := by decide +kernel
theorem dX3_addSeen_4 : decode cX3_addSeen 4 = .ok (.bipush 6, 2) := by decide +kernel
theorem dX3_addSeen_6 : decode cX3_addSeen 6 = .ok (.if_icmp .lt 5, 3) := by decide +kernel
theorem dX3_addSeen_9 : decode cX3_addSeen 9 = .ok (.iconst 0, 1) := by decide +kernel
theorem dX3_addSeen_10 : decode cX3_addSeen 10 = .ok (.ireturn, 1) := by decide +kernel
theorem dX3_addSeen_11 : decode cX3_addSeen 11 = .ok (.aload_n 0, 1) := by decide +kernel
theorem dX3_addSeen_12 : decode cX3_addSeen 12 = .ok (.getfield 33, 3) := by decide +kernel
theorem dX3_addSeen_15 : decode cX3_addSeen 15 = .ok (.aload_n 0, 1) := by decide +kernel
theorem dX3_addSeen_16 : decode cX3_addSeen 16 = .ok (.getfield 52, 3) := by decide +kernel
theorem dX3_addSeen_19 : decode cX3_addSeen 19 = .ok (.iload_n 1, 1) := by decide +kernel
theorem dX3_addSeen_20 : decode cX3_addSeen 20 = .ok (.iastore, 1) := by decide +kernel
theorem dX3_addSeen_21 : decode cX3_addSeen 21 = .ok (.iconst 1, 1) := by decide +kernel
theorem dX3_addSeen_22 : decode cX3_addSeen 22 = .ok (.aload_n 0, 1) := by decide +kernel
theorem dX3_addSeen_23 : decode cX3_addSeen 23 = .ok (.getfield 52, 3) := by decide +kernel
theorem dX3_addSeen_26 : decode cX3_addSeen 26 = .ok (.ishl, 1) := by decide +kernel
theorem dX3_addSeen_27 : decode cX3_addSeen 27 = .ok (.istore_n 3, 1) := by decide +kernel
theorem dX3_addSeen_28 : decode cX3_addSeen 28 = .ok (.aload_n 0, 1) := by decide +kernel
theorem dX3_addSeen_29 : decode cX3_addSeen 29 = .ok (.iload_n 2, 1) := by decide +kernel
theorem dX3_addSeen_30 : decode cX3_addSeen 30 = .ok (.ifCond .eq 12, 3) := by decide +kernel
theorem dX3_addSeen_33 : decode cX3_addSeen 33 = .ok (.aload_n 0, 1) := by decide +kernel
theorem dX3_addSeen_34 : decode cX3_addSeen 34 = .ok (.getfield 61, 3) := by decide +kernel
theorem dX3_addSeen_37 : decode cX3_addSeen 37 = .ok (.iload_n 3, 1) := by decide +kernel
theorem dX3_addSeen_38 : decode cX3_addSeen 38 = .ok (.ior, 1) := by decide +kernel
theorem dX3_addSeen_39 : decode cX3_addSeen 39 = .ok (.goto 11, 3) := by decide +kernel
theorem dX3_addSeen_42 : decode cX3_addSeen 42 = .ok (.aload_n 0, 1) := by decide +kernel
theorem dX3_addSeen_43 : decode cX3_addSeen 43 = .ok (.getfield 61, 3) := by decide +kernel
theorem dX3_addSeen_46 : decode cX3_addSeen 46 = .ok (.iload_n 3, 1) := by decide +kernel
theorem dX3_addSeen_47 : decode cX3_addSeen 47 = .ok (.iconst (-1), 1) := by decide +kernel
theorem dX3_addSeen_48 : decode cX3_addSeen 48 = .ok (.ixor, 1) := by decide +kernel
theorem dX3_addSeen_49 : decode cX3_addSeen 49 = .ok (.iand, 1) := by decide +kernel
theorem dX3_addSeen_50 : decode cX3_addSeen 50 = .ok (.putfield 61, 3) := by decide +kernel
theorem dX3_addSeen_53 : decode cX3_addSeen 53 = .ok (.aload_n 0, 1) := by decide +kernel
theorem dX3_addSeen_54 : decode cX3_addSeen 54 = .ok (.dup, 1) := by decide +kernel
theorem dX3_addSeen_55 : decode cX3_addSeen 55 = .ok (.getfield 52, 3) := by decide +kernel
theorem dX3_addSeen_58 : decode cX3_addSeen 58 = .ok (.iconst 1, 1) := by decide +kernel
theorem dX3_addSeen_59 : decode cX3_addSeen 59 = .ok (.iadd, 1) := by decide +kernel
theorem dX3_addSeen_60 : decode cX3_addSeen 60 = .ok (.putfield 52, 3) := by decide +kernel
theorem dX3_addSeen_63 : decode cX3_addSeen 63 = .ok (.iconst 1, 1) := by decide +kernel
theorem dX3_addSeen_64 : decode cX3_addSeen 64 = .ok (.ireturn, 1) := by decide +kernel
theorem dX4_init_0 : decode cX4_init 0 = .ok (.aload_n 0, 1) := by decide +kernel
theorem dX4_init_1 : decode cX4_init 1 = .ok (.invokespecial 3, 3) := by decide +kernel
theorem dX4_init_4 : decode cX4_init 4 = .ok (.aload_n 0, 1) := by decide +kernel
theorem dX4_init_5 : decode cX4_init 5 = .ok (.sipush 160, 3) := by decide +kernel
theorem dX4_init_8 : decode cX4_init 8 = .ok (.newarray .byte, 2) := by decide +kernel
theorem dX4_init_10 : decode cX4_init 10 = .ok (.putfield 9, 3) := by decide +kernel
theorem dX4_init_13 : decode cX4_init 13 = .ok (.return_, 1) := by decide +kernel
theorem dX4_append_0 : decode cX4_append 0 = .ok (.aload_n 0, 1) := by decide +kernel
theorem dX4_append_1 : decode cX4_append 1 = .ok (.getfield 15, 3) := by decide +kernel
theorem dX4_append_4 : decode cX4_append 4 = .ok (.sipush 160, 3) := by decide +kernel
theorem dX4_append_7 : decode cX4_append 7 = .ok (.if_icmp .lt 5, 3) := by decide +kernel
theorem dX4_append_10 : decode cX4_append 10 = .ok (.iconst 0, 1) := by decide +kernel
theorem dX4_append_11 : decode cX4_append 11 = .ok (.ireturn, 1) := by decide +kernel
theorem dX4_append_12 : decode cX4_append 12 = .ok (.aload_n 0, 1) := by decide +kernel
theorem dX4_append_13 : decode cX4_append 13 = .ok (.getfield 9, 3) := by decide +kernel
theorem dX4_append_16 : decode cX4_append 16 = .ok (.aload_n 0, 1) := by decide +kernel
theorem dX4_append_17 : decode cX4_append 17 = .ok (.getfield 15, 3) := by decide +kernel
theorem dX4_append_20 : decode cX4_append 20 = .ok (.iload_n 1, 1) := by decide +kernel
theorem dX4_append_21 : decode cX4_append 21 = .ok (.i2b, 1) := by decide +kernel
theorem dX4_append_22 : decode cX4_append 22 = .ok (.bastore, 1) := by decide +kernel
theorem dX4_append_23 : decode cX4_append 23 = .ok (.aload_n 0, 1) := by decide +kernel
theorem dX4_append_24 : decode cX4_append 24 = .ok (.dup, 1) := by decide +kernel
theorem dX4_append_25 : decode cX4_append 25 = .ok (.getfield 15, 3) := by decide +kernel
theorem dX4_append_28 : decode cX4_append 28 = .ok (.iconst 1, 1) := by decide +kernel
theorem dX4_append_29 : decode cX4_append 29 = .ok (.iadd, 1) := by decide +kernel
theorem dX4_append_30 : decode cX4_append 30 = .ok (.putfield 15, 3) := by decide +kernel
theorem dX4_append_33 : decode cX4_append 33 = .ok (.iconst 1, 1) := by decide +kernel
theorem dX4_append_34 : decode cX4_append 34 = .ok (.ireturn, 1) := by decide +kernel
theorem dX4_tell_0 : decode cX4_tell 0 = .ok (.aload_n 1, 1) := by decide +kernel
theorem dX4_tell_1 : decode cX4_tell 1 = .ok (.invokevirtual 19, 3) := by decide +kernel
theorem dX4_tell_4 : decode cX4_tell 4 = .ok (.aload_n 0, 1) := by decide +kernel
theorem dX4_tell_5 : decode cX4_tell 5 = .ok (.iconst 0, 1) := by decide +kernel
theorem dX4_tell_6 : decode cX4_tell 6 = .ok (.putfield 24, 3) := by decide +kernel
theorem dX4_tell_9 : decode cX4_tell 9 = .ok (.aload_n 0, 1) := by decide +kernel
theorem dX4_tell_10 : decode cX4_tell 10 = .ok (.iconst 0, 1) := by decide +kernel
theorem dX4_tell_11 : decode cX4_tell 11 = .ok (.putfield 27, 3) := by decide +kernel
theorem dX4_tell_14 : decode cX4_tell 14 = .ok (.aload_n 0, 1) := by decide +kernel
theorem dX4_tell_15 : decode cX4_tell 15 = .ok (.iconst 0, 1) := by decide +kernel
theorem dX4_tell_16 : decode cX4_tell 16 = .ok (.putfield 30, 3) := by decide +kernel
theorem dX4_tell_19 : decode cX4_tell 19 = .ok (.aload_n 0, 1) := by decide +kernel
theorem dX4_tell_20 : decode cX4_tell 20 = .ok (.iconst 0, 1) := by decide +kernel
theorem dX4_tell_21 : decode cX4_tell 21 = .ok (.putfield 33, 3) := by decide +kernel
theorem dX4_tell_24 : decode cX4_tell 24 = .ok (.aload_n 0, 1) := by decide +kernel
theorem dX4_tell_25 : decode cX4_tell 25 = .ok (.iconst 0, 1) := by decide +kernel
theorem dX4_tell_26 : decode cX4_tell 26 = .ok (.putfield 37, 3) := by decide +kernel
theorem dX4_tell_29 : decode cX4_tell 29 = .ok (.iconst 0, 1) := by decide +kernel
theorem dX4_tell_30 : decode cX4_tell 30 = .ok (.istore_n 2, 1) := by decide +kernel
theorem dX4_tell_31 : decode cX4_tell 31 = .ok (.iconst 0, 1) := by decide +kernel
theorem dX4_tell_32 : decode cX4_tell 32 = .ok (.istore_n 3, 1) := by decide +kernel
theorem dX4_tell_33 : decode cX4_tell 33 = .ok (.iload_n 3, 1) := by decide +kernel
theorem dX4_tell_34 : decode cX4_tell 34 = .ok (.sipush 160, 3) := by decide +kernel
theorem dX4_tell_37 : decode cX4_tell 37 = .ok (.if_icmp .gt 37, 3) := by decide +kernel
theorem dX4_tell_40 : decode cX4_tell 40 = .ok (.aload_n 0, 1) := by decide +kernel
theorem dX4_tell_41 : decode cX4_tell 41 = .ok (.invokevirtual 40, 3) := by decide +kernel
theorem dX4_tell_44 : decode cX4_tell 44 = .ok (.ifCond .eq 30, 3) := by decide +kernel
theorem dX4_tell_47 : decode cX4_tell 47 = .ok (.aload_n 0, 1) := by decide +kernel
theorem dX4_tell_48 : decode cX4_tell 48 = .ok (.getfield 44, 3) := by decide +kernel
theorem dX4_tell_51 : decode cX4_tell 51 = .ok (.ifCond .eq 23, 3) := by decide +kernel
theorem dX4_tell_54 : decode cX4_tell 54 = .ok (.aload_n 0, 1) := by decide +kernel
theorem dX4_tell_55 : decode cX4_tell 55 = .ok (.aload_n 1, 1) := by decide +kernel
theorem dX4_tell_56 : decode cX4_tell 56 = .ok (.invokevirtual 47, 3) := by decide +kernel
theorem dX4_tell_59 : decode cX4_tell 59 = .ok (.ifCond .ne 6, 3) := by decide +kernel
theorem dX4_tell_62 : decode cX4_tell 62 = .ok (.goto 12, 3) := by decide +kernel
theorem dX4_tell_65 : decode cX4_tell 65 = .ok (.iinc 2 1, 3) := by decide +kernel
theorem dX4_tell_68 : decode cX4_tell 68 = .ok (.iinc 3 1, 3) := by decide +kernel
theorem dX4_tell_71 : decode cX4_tell 71 = .ok (.goto (-38), 3) := by decide +kernel
theorem dX4_tell_74 : decode cX4_tell 74 = .ok (.aload_n 0, 1) := by decide +kernel
theorem dX4_tell_75 : decode cX4_tell 75 = .ok (.getfield 24, 3) := by decide +kernel
theorem dX4_tell_78 : decode cX4_tell 78 = .ok (.ifCond .ne 8, 3) := by decide +kernel
theorem dX4_tell_81 : decode cX4_tell 81 = .ok (.aload_n 0, 1) := by decide +kernel
theorem dX4_tell_82 : decode cX4_tell 82 = .ok (.aload_n 1, 1) := by decide +kernel
theorem dX4_tell_83 : decode cX4_tell 83 = .ok (.invokevirtual 51, 3) := by decide +kernel
theorem dX4_tell_86 : decode cX4_tell 86 = .ok (.aload_n 0, 1) := by decide +kernel
theorem dX4_tell_87 : decode cX4_tell 87 = .ok (.iconst 0, 1) := by decide +kernel
theorem dX4_tell_88 : decode cX4_tell 88 = .ok (.putfield 15, 3) := by decide +kernel
theorem dX4_tell_91 : decode cX4_tell 91 = .ok (.iload_n 2, 1) := by decide +kernel
theorem dX4_tell_92 : decode cX4_tell 92 = .ok (.ireturn, 1) := by decide +kernel
theorem dX4_refuse_0 : decode cX4_refuse 0 = .ok (.aload_n 0, 1) := by decide +kernel
theorem dX4_refuse_1 : decode cX4_refuse 1 = .ok (.iload_n 1, 1) := by decide +kernel
theorem dX4_refuse_2 : decode cX4_refuse 2 = .ok (.putfield 24, 3) := by decide +kernel
theorem dX4_refuse_5 : decode cX4_refuse 5 = .ok (.aload_n 0, 1) := by decide +kernel
theorem dX4_refuse_6 : decode cX4_refuse 6 = .ok (.iload_n 2, 1) := by decide +kernel
theorem dX4_refuse_7 : decode cX4_refuse 7 = .ok (.putfield 27, 3) := by decide +kernel
theorem dX4_refuse_10 : decode cX4_refuse 10 = .ok (.iconst 0, 1) := by decide +kernel
theorem dX4_refuse_11 : decode cX4_refuse 11 = .ok (.ireturn, 1) := by decide +kernel
theorem dX4_close_0 : decode cX4_close 0 = .ok (.aload_n 0, 1) := by decide +kernel
theorem dX4_close_1 : decode cX4_close 1 = .ok (.getfield 33, 3) := by decide +kernel
theorem dX4_close_4 : decode cX4_close 4 = .ok (.ifCond .ne 25, 3) := by decide +kernel
theorem dX4_close_7 : decode cX4_close 7 = .ok (.aload_n 1, 1) := by decide +kernel
theorem dX4_close_8 : decode cX4_close 8 = .ok (.aload_n 1, 1) := by decide +kernel
theorem dX4_close_9 : decode cX4_close 9 = .ok (.getfield 55, 3) := by decide +kernel
theorem dX4_close_12 : decode cX4_close 12 = .ok (.ifCond .ne 8, 3) := by decide +kernel
theorem dX4_close_15 : decode cX4_close 15 = .ok (.bipush (-4), 2) := by decide +kernel
theorem dX4_close_17 : decode cX4_close 17 = .ok (.goto 9, 3) := by decide +kernel
theorem dX4_close_20 : decode cX4_close 20 = .ok (.aload_n 1, 1) := by decide +kernel
theorem dX4_close_21 : decode cX4_close 21 = .ok (.getfield 55, 3) := by decide +kernel
theorem dX4_close_24 : decode cX4_close 24 = .ok (.iconst 1, 1) := by decide +kernel
theorem dX4_close_25 : decode cX4_close 25 = .ok (.isub, 1) := by decide +kernel
theorem dX4_close_26 : decode cX4_close 26 = .ok (.putfield 58, 3) := by decide +kernel
theorem dX4_close_29 : decode cX4_close 29 = .ok (.aload_n 1, 1) := by decide +kernel
theorem dX4_close_30 : decode cX4_close 30 = .ok (.aload_n 1, 1) := by decide +kernel
theorem dX4_close_31 : decode cX4_close 31 = .ok (.getfield 61, 3) := by decide +kernel
theorem dX4_close_34 : decode cX4_close 34 = .ok (.invokevirtual 64, 3) := by decide +kernel
theorem dX4_close_37 : decode cX4_close 37 = .ok (.ifCond .eq 25, 3) := by decide +kernel
theorem dX4_close_40 : decode cX4_close 40 = .ok (.aload_n 0, 1) := by decide +kernel
theorem dX4_close_41 : decode cX4_close 41 = .ok (.getfield 33, 3) := by decide +kernel
theorem dX4_close_44 : decode cX4_close 44 = .ok (.ifCond .eq 14, 3) := by decide +kernel
theorem dX4_close_47 : decode cX4_close 47 = .ok (.aload_n 1, 1) := by decide +kernel
theorem dX4_close_48 : decode cX4_close 48 = .ok (.aload_n 1, 1) := by decide +kernel
theorem dX4_close_49 : decode cX4_close 49 = .ok (.getfield 58, 3) := by decide +kernel
theorem dX4_close_52 : decode cX4_close 52 = .ok (.invokevirtual 68, 3) := by decide +kernel
theorem dX4_close_55 : decode cX4_close 55 = .ok (.ifCond .eq 7, 3) := by decide +kernel
theorem dX4_close_58 : decode cX4_close 58 = .ok (.iconst 1, 1) := by decide +kernel
theorem dX4_close_59 : decode cX4_close 59 = .ok (.goto 4, 3) := by decide +kernel
theorem dX4_close_62 : decode cX4_close 62 = .ok (.iconst 0, 1) := by decide +kernel
theorem dX4_close_63 : decode cX4_close 63 = .ok (.istore_n 2, 1) := by decide +kernel
theorem dX4_close_64 : decode cX4_close 64 = .ok (.iconst 0, 1) := by decide +kernel
theorem dX4_close_65 : decode cX4_close 65 = .ok (.istore_n 3, 1) := by decide +kernel
theorem dX4_close_66 : decode cX4_close 66 = .ok (.iload_n 3, 1) := by decide +kernel
theorem dX4_close_67 : decode cX4_close 67 = .ok (.aload_n 1, 1) := by decide +kernel
theorem dX4_close_68 : decode cX4_close 68 = .ok (.getfield 71, 3) := by decide +kernel
theorem dX4_close_71 : decode cX4_close 71 = .ok (.if_icmp .ge 32, 3) := by decide +kernel
theorem dX4_close_74 : decode cX4_close 74 = .ok (.iload_n 2, 1) := by decide +kernel
theorem dX4_close_75 : decode cX4_close 75 = .ok (.ifCond .eq 20, 3) := by decide +kernel
theorem dX4_close_78 : decode cX4_close 78 = .ok (.aload_n 1, 1) := by decide +kernel
theorem dX4_close_79 : decode cX4_close 79 = .ok (.aload_n 1, 1) := by decide +kernel
theorem dX4_close_80 : decode cX4_close 80 = .ok (.getfield 74, 3) := by decide +kernel
theorem dX4_close_83 : decode cX4_close 83 = .ok (.iload_n 3, 1) := by decide +kernel
theorem dX4_close_84 : decode cX4_close 84 = .ok (.iaload, 1) := by decide +kernel
theorem dX4_close_85 : decode cX4_close 85 = .ok (.invokevirtual 68, 3) := by decide +kernel
theorem dX4_close_88 : decode cX4_close 88 = .ok (.ifCond .eq 7, 3) := by decide +kernel
theorem dX4_close_91 : decode cX4_close 91 = .ok (.iconst 1, 1) := by decide +kernel
theorem dX4_close_92 : decode cX4_close 92 = .ok (.goto 4, 3) := by decide +kernel
theorem dX4_close_95 : decode cX4_close 95 = .ok (.iconst 0, 1) := by decide +kernel
theorem dX4_close_96 : decode cX4_close 96 = .ok (.istore_n 2, 1) := by decide +kernel
theorem dX4_close_97 : decode cX4_close 97 = .ok (.iinc 3 1, 3) := by decide +kernel
theorem dX4_close_100 : decode cX4_close 100 = .ok (.goto (-34), 3) := by decide +kernel
theorem dX4_close_103 : decode cX4_close 103 = .ok (.iload_n 2, 1) := by decide +kernel
theorem dX4_close_104 : decode cX4_close 104 = .ok (.ifCond .ne 14, 3) := by decide +kernel
theorem dX4_close_107 : decode cX4_close 107 = .ok (.aload_n 0, 1) := by decide +kernel
theorem dX4_close_108 : decode cX4_close 108 = .ok (.bipush 6, 2) := by decide +kernel
theorem dX4_close_110 : decode cX4_close 110 = .ok (.aload_n 0, 1) := by decide +kernel
theorem dX4_close_111 : decode cX4_close 111 = .ok (.getfield 15, 3) := by decide +kernel
theorem dX4_close_114 : decode cX4_close 114 = .ok (.invokevirtual 78, 3) := by decide +kernel
theorem dX4_close_117 : decode cX4_close 117 = .ok (.pop, 1) := by decide +kernel
theorem dX4_close_118 : decode cX4_close 118 = .ok (.return_, 1) := by decide +kernel
theorem dX4_readLine_0 : decode cX4_readLine 0 = .ok (.aload_n 0, 1) := by decide +kernel
theorem dX4_readLine_1 : decode cX4_readLine 1 = .ok (.ldc 82, 2) := by decide +kernel
theorem dX4_readLine_3 : decode cX4_readLine 3 = .ok (.invokevirtual 84, 3) := by decide +kernel
theorem dX4_readLine_6 : decode cX4_readLine 6 = .ok (.ifCond .eq 10, 3) := by decide +kernel
theorem dX4_readLine_9 : decode cX4_readLine 9 = .ok (.aload_n 0, 1) := by decide +kernel
theorem dX4_readLine_10 : decode cX4_readLine 10 = .ok (.aload_n 1, 1) := by decide +kernel
theorem dX4_readLine_11 : decode cX4_readLine 11 = .ok (.iconst 0, 1) := by decide +kernel
theorem dX4_readLine_12 : decode cX4_readLine 12 = .ok (.invokevirtual 88, 3) := by decide +kernel
theorem dX4_readLine_15 : decode cX4_readLine 15 = .ok (.ireturn, 1) := by decide +kernel
theorem dX4_readLine_16 : decode cX4_readLine 16 = .ok (.aload_n 0, 1) := by decide +kernel
theorem dX4_readLine_17 : decode cX4_readLine 17 = .ok (.ldc 92, 2) := by decide +kernel
theorem dX4_readLine_19 : decode cX4_readLine 19 = .ok (.invokevirtual 84, 3) := by decide +kernel
theorem dX4_readLine_22 : decode cX4_readLine 22 = .ok (.ifCond .eq 10, 3) := by decide +kernel
theorem dX4_readLine_25 : decode cX4_readLine 25 = .ok (.aload_n 0, 1) := by decide +kernel
theorem dX4_readLine_26 : decode cX4_readLine 26 = .ok (.aload_n 1, 1) := by decide +kernel
theorem dX4_readLine_27 : decode cX4_readLine 27 = .ok (.iconst 1, 1) := by decide +kernel
theorem dX4_readLine_28 : decode cX4_readLine 28 = .ok (.invokevirtual 88, 3) := by decide +kernel
theorem dX4_readLine_31 : decode cX4_readLine 31 = .ok (.ireturn, 1) := by decide +kernel
theorem dX4_readLine_32 : decode cX4_readLine 32 = .ok (.aload_n 0, 1) := by decide +kernel
theorem dX4_readLine_33 : decode cX4_readLine 33 = .ok (.ldc 94, 2) := by decide +kernel
theorem dX4_readLine_35 : decode cX4_readLine 35 = .ok (.invokevirtual 84, 3) := by decide +kernel
theorem dX4_readLine_38 : decode cX4_readLine 38 = .ok (.ifCond .eq 10, 3) := by decide +kernel
theorem dX4_readLine_41 : decode cX4_readLine 41 = .ok (.aload_n 0, 1) := by decide +kernel
theorem dX4_readLine_42 : decode cX4_readLine 42 = .ok (.aload_n 1, 1) := by decide +kernel
theorem dX4_readLine_43 : decode cX4_readLine 43 = .ok (.iconst 2, 1) := by decide +kernel
theorem dX4_readLine_44 : decode cX4_readLine 44 = .ok (.invokevirtual 88, 3) := by decide +kernel
theorem dX4_readLine_47 : decode cX4_readLine 47 = .ok (.ireturn, 1) := by decide +kernel
theorem dX4_readLine_48 : decode cX4_readLine 48 = .ok (.aload_n 0, 1) := by decide +kernel
theorem dX4_readLine_49 : decode cX4_readLine 49 = .ok (.ldc 96, 2) := by decide +kernel
theorem dX4_readLine_51 : decode cX4_readLine 51 = .ok (.invokevirtual 84, 3) := by decide +kernel
theorem dX4_readLine_54 : decode cX4_readLine 54 = .ok (.ifCond .eq 9, 3) := by decide +kernel
theorem dX4_readLine_57 : decode cX4_readLine 57 = .ok (.aload_n 0, 1) := by decide +kernel
theorem dX4_readLine_58 : decode cX4_readLine 58 = .ok (.aload_n 1, 1) := by decide +kernel
theorem dX4_readLine_59 : decode cX4_readLine 59 = .ok (.invokevirtual 97, 3) := by decide +kernel
theorem dX4_readLine_62 : decode cX4_readLine 62 = .ok (.ireturn, 1) := by decide +kernel
theorem dX4_readLine_63 : decode cX4_readLine 63 = .ok (.aload_n 0, 1) := by decide +kernel
theorem dX4_readLine_64 : decode cX4_readLine 64 = .ok (.ldc 100, 2) := by decide +kernel
theorem dX4_readLine_66 : decode cX4_readLine 66 = .ok (.invokevirtual 84, 3) := by decide +kernel
theorem dX4_readLine_69 : decode cX4_readLine 69 = .ok (.ifCond .eq 9, 3) := by decide +kernel
theorem dX4_readLine_72 : decode cX4_readLine 72 = .ok (.aload_n 0, 1) := by decide +kernel
theorem dX4_readLine_73 : decode cX4_readLine 73 = .ok (.aload_n 1, 1) := by decide +kernel
theorem dX4_readLine_74 : decode cX4_readLine 74 = .ok (.invokevirtual 101, 3) := by decide +kernel
theorem dX4_readLine_77 : decode cX4_readLine 77 = .ok (.ireturn, 1) := by decide +kernel
theorem dX4_readLine_78 : decode cX4_readLine 78 = .ok (.aload_n 0, 1) := by decide +kernel
theorem dX4_readLine_79 : decode cX4_readLine 79 = .ok (.ldc 104, 2) := by decide +kernel
theorem dX4_readLine_81 : decode cX4_readLine 81 = .ok (.invokevirtual 84, 3) := by decide +kernel
theorem dX4_readLine_84 : decode cX4_readLine 84 = .ok (.ifCond .eq 9, 3) := by decide +kernel
theorem dX4_readLine_87 : decode cX4_readLine 87 = .ok (.aload_n 0, 1) := by decide +kernel
theorem dX4_readLine_88 : decode cX4_readLine 88 = .ok (.aload_n 1, 1) := by decide +kernel
theorem dX4_readLine_89 : decode cX4_readLine 89 = .ok (.invokevirtual 105, 3) := by decide +kernel
theorem dX4_readLine_92 : decode cX4_readLine 92 = .ok (.ireturn, 1) := by decide +kernel
theorem dX4_readLine_93 : decode cX4_readLine 93 = .ok (.aload_n 0, 1) := by decide +kernel
theorem dX4_readLine_94 : decode cX4_readLine 94 = .ok (.ldc 108, 2) := by decide +kernel
theorem dX4_readLine_96 : decode cX4_readLine 96 = .ok (.invokevirtual 84, 3) := by decide +kernel
theorem dX4_readLine_99 : decode cX4_readLine 99 = .ok (.ifCond .eq 9, 3) := by decide +kernel
theorem dX4_readLine_102 : decode cX4_readLine 102 = .ok (.aload_n 0, 1) := by decide +kernel
theorem dX4_readLine_103 : decode cX4_readLine 103 = .ok (.aload_n 1, 1) := by decide +kernel
theorem dX4_readLine_104 : decode cX4_readLine 104 = .ok (.invokevirtual 110, 3) := by decide +kernel
theorem dX4_readLine_107 : decode cX4_readLine 107 = .ok (.ireturn, 1) := by decide +kernel
theorem dX4_readLine_108 : decode cX4_readLine 108 = .ok (.aload_n 0, 1) := by decide +kernel
theorem dX4_readLine_109 : decode cX4_readLine 109 = .ok (.iconst 2, 1) := by decide +kernel
theorem dX4_readLine_110 : decode cX4_readLine 110 = .ok (.aload_n 0, 1) := by decide +kernel
theorem dX4_readLine_111 : decode cX4_readLine 111 = .ok (.getfield 113, 3) := by decide +kernel
theorem dX4_readLine_114 : decode cX4_readLine 114 = .ok (.invokevirtual 78, 3) := by decide +kernel
theorem dX4_readLine_117 : decode cX4_readLine 117 = .ok (.ireturn, 1) := by decide +kernel
theorem dX4_readClaim_0 : decode cX4_readClaim 0 = .ok (.aload_n 1, 1) := by decide +kernel
theorem dX4_readClaim_1 : decode cX4_readClaim 1 = .ok (.getfield 55, 3) := by decide +kernel
theorem dX4_readClaim_4 : decode cX4_readClaim 4 = .ok (.istore_n 3, 1) := by decide +kernel
theorem dX4_readClaim_5 : decode cX4_readClaim 5 = .ok (.iload_n 3, 1) := by decide +kernel
theorem dX4_readClaim_6 : decode cX4_readClaim 6 = .ok (.bipush 8, 2) := by decide +kernel
theorem dX4_readClaim_8 : decode cX4_readClaim 8 = .ok (.if_icmp .lt 13, 3) := by decide +kernel
theorem dX4_readClaim_11 : decode cX4_readClaim 11 = .ok (.aload_n 0, 1) := by decide +kernel
theorem dX4_readClaim_12 : decode cX4_readClaim 12 = .ok (.iconst 5, 1) := by decide +kernel
theorem dX4_readClaim_13 : decode cX4_readClaim 13 = .ok (.aload_n 0, 1) := by decide +kernel
theorem dX4_readClaim_14 : decode cX4_readClaim 14 = .ok (.getfield 113, 3) := by decide +kernel
theorem dX4_readClaim_17 : decode cX4_readClaim 17 = .ok (.invokevirtual 78, 3) := by decide +kernel
theorem dX4_readClaim_20 : decode cX4_readClaim 20 = .ok (.ireturn, 1) := by decide +kernel
theorem dX4_readClaim_21 : decode cX4_readClaim 21 = .ok (.aload_n 0, 1) := by decide +kernel
theorem dX4_readClaim_22 : decode cX4_readClaim 22 = .ok (.iconst 0, 1) := by decide +kernel
theorem dX4_readClaim_23 : decode cX4_readClaim 23 = .ok (.bipush 9, 2) := by decide +kernel
theorem dX4_readClaim_25 : decode cX4_readClaim 25 = .ok (.invokevirtual 116, 3) := by decide +kernel
theorem dX4_readClaim_28 : decode cX4_readClaim 28 = .ok (.ifCond .ne 5, 3) := by decide +kernel
theorem dX4_readClaim_31 : decode cX4_readClaim 31 = .ok (.iconst 0, 1) := by decide +kernel
theorem dX4_readClaim_32 : decode cX4_readClaim 32 = .ok (.ireturn, 1) := by decide +kernel
theorem dX4_readClaim_33 : decode cX4_readClaim 33 = .ok (.aload_n 1, 1) := by decide +kernel
theorem dX4_readClaim_34 : decode cX4_readClaim 34 = .ok (.getfield 119, 3) := by decide +kernel
theorem dX4_readClaim_37 : decode cX4_readClaim 37 = .ok (.iload_n 3, 1) := by decide +kernel
theorem dX4_readClaim_38 : decode cX4_readClaim 38 = .ok (.aload_n 0, 1) := by decide +kernel
theorem dX4_readClaim_39 : decode cX4_readClaim 39 = .ok (.getfield 122, 3) := by decide +kernel
theorem dX4_readClaim_42 : decode cX4_readClaim 42 = .ok (.iastore, 1) := by decide +kernel
theorem dX4_readClaim_43 : decode cX4_readClaim 43 = .ok (.aload_n 0, 1) := by decide +kernel
theorem dX4_readClaim_44 : decode cX4_readClaim 44 = .ok (.aload_n 0, 1) := by decide +kernel
theorem dX4_readClaim_45 : decode cX4_readClaim 45 = .ok (.getfield 122, 3) := by decide +kernel
theorem dX4_readClaim_48 : decode cX4_readClaim 48 = .ok (.bipush 9, 2) := by decide +kernel
theorem dX4_readClaim_50 : decode cX4_readClaim 50 = .ok (.invokevirtual 116, 3) := by decide +kernel
theorem dX4_readClaim_53 : decode cX4_readClaim 53 = .ok (.ifCond .ne 5, 3) := by decide +kernel
theorem dX4_readClaim_56 : decode cX4_readClaim 56 = .ok (.iconst 0, 1) := by decide +kernel
theorem dX4_readClaim_57 : decode cX4_readClaim 57 = .ok (.ireturn, 1) := by decide +kernel
theorem dX4_readClaim_58 : decode cX4_readClaim 58 = .ok (.aload_n 1, 1) := by decide +kernel
theorem dX4_readClaim_59 : decode cX4_readClaim 59 = .ok (.getfield 125, 3) := by decide +kernel
theorem dX4_readClaim_62 : decode cX4_readClaim 62 = .ok (.iload_n 3, 1) := by decide +kernel
theorem dX4_readClaim_63 : decode cX4_readClaim 63 = .ok (.aload_n 0, 1) := by decide +kernel
theorem dX4_readClaim_64 : decode cX4_readClaim 64 = .ok (.getfield 122, 3) := by decide +kernel
theorem dX4_readClaim_67 : decode cX4_readClaim 67 = .ok (.iastore, 1) := by decide +kernel
theorem dX4_readClaim_68 : decode cX4_readClaim 68 = .ok (.aload_n 0, 1) := by decide +kernel
theorem dX4_readClaim_69 : decode cX4_readClaim 69 = .ok (.iconst 0, 1) := by decide +kernel
theorem dX4_readClaim_70 : decode cX4_readClaim 70 = .ok (.bipush 9, 2) := by decide +kernel
theorem dX4_readClaim_72 : decode cX4_readClaim 72 = .ok (.invokevirtual 116, 3) := by decide +kernel
theorem dX4_readClaim_75 : decode cX4_readClaim 75 = .ok (.ifCond .ne 5, 3) := by decide +kernel
theorem dX4_readClaim_78 : decode cX4_readClaim 78 = .ok (.iconst 0, 1) := by decide +kernel
theorem dX4_readClaim_79 : decode cX4_readClaim 79 = .ok (.ireturn, 1) := by decide +kernel
theorem dX4_readClaim_80 : decode cX4_readClaim 80 = .ok (.aload_n 1, 1) := by decide +kernel
theorem dX4_readClaim_81 : decode cX4_readClaim 81 = .ok (.getfield 128, 3) := by decide +kernel
theorem dX4_readClaim_84 : decode cX4_readClaim 84 = .ok (.iload_n 3, 1) := by decide +kernel
theorem dX4_readClaim_85 : decode cX4_readClaim 85 = .ok (.aload_n 0, 1) := by decide +kernel
theorem dX4_readClaim_86 : decode cX4_readClaim 86 = .ok (.getfield 122, 3) := by decide +kernel
theorem dX4_readClaim_89 : decode cX4_readClaim 89 = .ok (.iastore, 1) := by decide +kernel
theorem dX4_readClaim_90 : decode cX4_readClaim 90 = .ok (.aload_n 1, 1) := by decide +kernel
theorem dX4_readClaim_91 : decode cX4_readClaim 91 = .ok (.getfield 131, 3) := by decide +kernel
theorem dX4_readClaim_94 : decode cX4_readClaim 94 = .ok (.iload_n 3, 1) := by decide +kernel
theorem dX4_readClaim_95 : decode cX4_readClaim 95 = .ok (.iload_n 2, 1) := by decide +kernel
theorem dX4_readClaim_96 : decode cX4_readClaim 96 = .ok (.iastore, 1) := by decide +kernel
theorem dX4_readClaim_97 : decode cX4_readClaim 97 = .ok (.aload_n 1, 1) := by decide +kernel
theorem dX4_readClaim_98 : decode cX4_readClaim 98 = .ok (.getfield 134, 3) := by decide +kernel
theorem dX4_readClaim_101 : decode cX4_readClaim 101 = .ok (.iload_n 3, 1) := by decide +kernel
theorem dX4_readClaim_102 : decode cX4_readClaim 102 = .ok (.iconst 0, 1) := by decide +kernel
theorem dX4_readClaim_103 : decode cX4_readClaim 103 = .ok (.iastore, 1) := by decide +kernel
theorem dX4_readClaim_104 : decode cX4_readClaim 104 = .ok (.aload_n 1, 1) := by decide +kernel
theorem dX4_readClaim_105 : decode cX4_readClaim 105 = .ok (.getfield 137, 3) := by decide +kernel
theorem dX4_readClaim_108 : decode cX4_readClaim 108 = .ok (.iload_n 3, 1) := by decide +kernel
theorem dX4_readClaim_109 : decode cX4_readClaim 109 = .ok (.iconst 0, 1) := by decide +kernel
theorem dX4_readClaim_110 : decode cX4_readClaim 110 = .ok (.iastore, 1) := by decide +kernel
theorem dX4_readClaim_111 : decode cX4_readClaim 111 = .ok (.aload_n 1, 1) := by decide +kernel
theorem dX4_readClaim_112 : decode cX4_readClaim 112 = .ok (.dup, 1) := by decide +kernel
theorem dX4_readClaim_113 : decode cX4_readClaim 113 = .ok (.getfield 55, 3) := by decide +kernel
theorem dX4_readClaim_116 : decode cX4_readClaim 116 = .ok (.iconst 1, 1) := by decide +kernel
theorem dX4_readClaim_117 : decode cX4_readClaim 117 = .ok (.iadd, 1) := by decide +kernel
theorem dX4_readClaim_118 : decode cX4_readClaim 118 = .ok (.putfield 55, 3) := by decide +kernel
theorem dX4_readClaim_121 : decode cX4_readClaim 121 = .ok (.aload_n 0, 1) := by decide +kernel
theorem dX4_readClaim_122 : decode cX4_readClaim 122 = .ok (.aload_n 1, 1) := by decide +kernel
theorem dX4_readClaim_123 : decode cX4_readClaim 123 = .ok (.iload_n 3, 1) := by decide +kernel
theorem dX4_readClaim_124 : decode cX4_readClaim 124 = .ok (.invokevirtual 140, 3) := by decide +kernel
theorem dX4_readClaim_127 : decode cX4_readClaim 127 = .ok (.ireturn, 1) := by decide +kernel
theorem dX4_readGrounds_0 : decode cX4_readGrounds 0 = .ok (.iconst 0, 1) := by decide +kernel
theorem dX4_readGrounds_1 : decode cX4_readGrounds 1 = .ok (.istore_n 3, 1) := by decide +kernel
theorem dX4_readGrounds_2 : decode cX4_readGrounds 2 = .ok (.iconst 0, 1) := by decide +kernel
theorem dX4_readGrounds_3 : decode cX4_readGrounds 3 = .ok (.istore 4, 2) := by decide +kernel
theorem dX4_readGrounds_5 : decode cX4_readGrounds 5 = .ok (.iload 4, 2) := by decide +kernel
theorem dX4_readGrounds_7 : decode cX4_readGrounds 7 = .ok (.sipush 160, 3) := by decide +kernel
theorem dX4_readGrounds_10 : decode cX4_readGrounds 10 = .ok (.if_icmp .gt 79, 3) := by decide +kernel
theorem dX4_readGrounds_13 : decode cX4_readGrounds 13 = .ok (.aload_n 0, 1) := by decide +kernel
theorem dX4_readGrounds_14 : decode cX4_readGrounds 14 = .ok (.invokevirtual 40, 3) := by decide +kernel
theorem dX4_readGrounds_17 : decode cX4_readGrounds 17 = .ok (.ifCond .ne 5, 3) := by decide +kernel
theorem dX4_readGrounds_20 : decode cX4_readGrounds 20 = .ok (.iconst 0, 1) := by decide +kernel
theorem dX4_readGrounds_21 : decode cX4_readGrounds 21 = .ok (.ireturn, 1) := by decide +kernel
theorem dX4_readGrounds_22 : decode cX4_readGrounds 22 = .ok (.aload_n 0, 1) := by decide +kernel
theorem dX4_readGrounds_23 : decode cX4_readGrounds 23 = .ok (.getfield 44, 3) := by decide +kernel
theorem dX4_readGrounds_26 : decode cX4_readGrounds 26 = .ok (.iconst 2, 1) := by decide +kernel
theorem dX4_readGrounds_27 : decode cX4_readGrounds 27 = .ok (.if_icmp .ne 15, 3) := by decide +kernel
theorem dX4_readGrounds_30 : decode cX4_readGrounds 30 = .ok (.aload_n 0, 1) := by decide +kernel
theorem dX4_readGrounds_31 : decode cX4_readGrounds 31 = .ok (.aload_n 1, 1) := by decide +kernel
theorem dX4_readGrounds_32 : decode cX4_readGrounds 32 = .ok (.iload_n 2, 1) := by decide +kernel
theorem dX4_readGrounds_33 : decode cX4_readGrounds 33 = .ok (.iload_n 3, 1) := by decide +kernel
theorem dX4_readGrounds_34 : decode cX4_readGrounds 34 = .ok (.invokevirtual 143, 3) := by decide +kernel
theorem dX4_readGrounds_37 : decode cX4_readGrounds 37 = .ok (.ifCond .ne 46, 3) := by decide +kernel
theorem dX4_readGrounds_40 : decode cX4_readGrounds 40 = .ok (.iconst 0, 1) := by decide +kernel
theorem dX4_readGrounds_41 : decode cX4_readGrounds 41 = .ok (.ireturn, 1) := by decide +kernel
theorem dX4_readGrounds_42 : decode cX4_readGrounds 42 = .ok (.iload_n 3, 1) := by decide +kernel
theorem dX4_readGrounds_43 : decode cX4_readGrounds 43 = .ok (.ifCond .ne 17, 3) := by decide +kernel
theorem dX4_readGrounds_46 : decode cX4_readGrounds 46 = .ok (.aload_n 0, 1) := by decide +kernel
theorem dX4_readGrounds_47 : decode cX4_readGrounds 47 = .ok (.ldc 147, 2) := by decide +kernel
theorem dX4_readGrounds_49 : decode cX4_readGrounds 49 = .ok (.invokevirtual 84, 3) := by decide +kernel
theorem dX4_readGrounds_52 : decode cX4_readGrounds 52 = .ok (.ifCond .eq 8, 3) := by decide +kernel
theorem dX4_readGrounds_55 : decode cX4_readGrounds 55 = .ok (.iconst 1, 1) := by decide +kernel
theorem dX4_readGrounds_56 : decode cX4_readGrounds 56 = .ok (.istore_n 3, 1) := by decide +kernel
theorem dX4_readGrounds_57 : decode cX4_readGrounds 57 = .ok (.goto 26, 3) := by decide +kernel
theorem dX4_readGrounds_60 : decode cX4_readGrounds 60 = .ok (.aload_n 0, 1) := by decide +kernel
theorem dX4_readGrounds_61 : decode cX4_readGrounds 61 = .ok (.getfield 44, 3) := by decide +kernel
theorem dX4_readGrounds_64 : decode cX4_readGrounds 64 = .ok (.iconst 3, 1) := by decide +kernel
theorem dX4_readGrounds_65 : decode cX4_readGrounds 65 = .ok (.if_icmp .ne 24, 3) := by decide +kernel
theorem dX4_readGrounds_68 : decode cX4_readGrounds 68 = .ok (.iload_n 3, 1) := by decide +kernel
theorem dX4_readGrounds_69 : decode cX4_readGrounds 69 = .ok (.ifCond .eq 12, 3) := by decide +kernel
theorem dX4_readGrounds_72 : decode cX4_readGrounds 72 = .ok (.aload_n 1, 1) := by decide +kernel
theorem dX4_readGrounds_73 : decode cX4_readGrounds 73 = .ok (.getfield 137, 3) := by decide +kernel
theorem dX4_readGrounds_76 : decode cX4_readGrounds 76 = .ok (.iload_n 2, 1) := by decide +kernel
theorem dX4_readGrounds_77 : decode cX4_readGrounds 77 = .ok (.iaload, 1) := by decide +kernel
theorem dX4_readGrounds_78 : decode cX4_readGrounds 78 = .ok (.ifCond .eq 11, 3) := by decide +kernel
theorem dX4_readGrounds_81 : decode cX4_readGrounds 81 = .ok (.iconst 1, 1) := by decide +kernel
theorem dX4_readGrounds_82 : decode cX4_readGrounds 82 = .ok (.ireturn, 1) := by decide +kernel
theorem dX4_readGrounds_83 : decode cX4_readGrounds 83 = .ok (.iinc 4 1, 3) := by decide +kernel
theorem dX4_readGrounds_86 : decode cX4_readGrounds 86 = .ok (.goto (-81), 3) := by decide +kernel
theorem dX4_readGrounds_89 : decode cX4_readGrounds 89 = .ok (.aload_n 0, 1) := by decide +kernel
theorem dX4_readGrounds_90 : decode cX4_readGrounds 90 = .ok (.iconst 2, 1) := by decide +kernel
theorem dX4_readGrounds_91 : decode cX4_readGrounds 91 = .ok (.aload_n 0, 1) := by decide +kernel
theorem dX4_readGrounds_92 : decode cX4_readGrounds 92 = .ok (.getfield 113, 3) := by decide +kernel
theorem dX4_readGrounds_95 : decode cX4_readGrounds 95 = .ok (.invokevirtual 78, 3) := by decide +kernel
theorem dX4_readGrounds_98 : decode cX4_readGrounds 98 = .ok (.ireturn, 1) := by decide +kernel
theorem dX4_takeGround_0 : decode cX4_takeGround 0 = .ok (.aload_n 0, 1) := by decide +kernel
theorem dX4_takeGround_1 : decode cX4_takeGround 1 = .ok (.getfield 122, 3) := by decide +kernel
theorem dX4_takeGround_4 : decode cX4_takeGround 4 = .ok (.iload_n 2, 1) := by decide +kernel
theorem dX4_takeGround_5 : decode cX4_takeGround 5 = .ok (.if_icmp .lt 13, 3) := by decide +kernel
theorem dX4_takeGround_8 : decode cX4_takeGround 8 = .ok (.aload_n 0, 1) := by decide +kernel
theorem dX4_takeGround_9 : decode cX4_takeGround 9 = .ok (.iconst 3, 1) := by decide +kernel
theorem dX4_takeGround_10 : decode cX4_takeGround 10 = .ok (.aload_n 0, 1) := by decide +kernel
theorem dX4_takeGround_11 : decode cX4_takeGround 11 = .ok (.getfield 113, 3) := by decide +kernel
theorem dX4_takeGround_14 : decode cX4_takeGround 14 = .ok (.invokevirtual 78, 3) := by decide +kernel
theorem dX4_takeGround_17 : decode cX4_takeGround 17 = .ok (.ireturn, 1) := by decide +kernel
theorem dX4_takeGround_18 : decode cX4_takeGround 18 = .ok (.iconst 1, 1) := by decide +kernel
theorem dX4_takeGround_19 : decode cX4_takeGround 19 = .ok (.aload_n 0, 1) := by decide +kernel
theorem dX4_takeGround_20 : decode cX4_takeGround 20 = .ok (.getfield 122, 3) := by decide +kernel
theorem dX4_takeGround_23 : decode cX4_takeGround 23 = .ok (.ishl, 1) := by decide +kernel
theorem dX4_takeGround_24 : decode cX4_takeGround 24 = .ok (.istore 4, 2) := by decide +kernel
theorem dX4_takeGround_26 : decode cX4_takeGround 26 = .ok (.aload_n 1, 1) := by decide +kernel
theorem dX4_takeGround_27 : decode cX4_takeGround 27 = .ok (.getfield 134, 3) := by decide +kernel
theorem dX4_takeGround_30 : decode cX4_takeGround 30 = .ok (.iload_n 2, 1) := by decide +kernel
theorem dX4_takeGround_31 : decode cX4_takeGround 31 = .ok (.iaload, 1) := by decide +kernel
theorem dX4_takeGround_32 : decode cX4_takeGround 32 = .ok (.aload_n 1, 1) := by decide +kernel
theorem dX4_takeGround_33 : decode cX4_takeGround 33 = .ok (.getfield 137, 3) := by decide +kernel
theorem dX4_takeGround_36 : decode cX4_takeGround 36 = .ok (.iload_n 2, 1) := by decide +kernel
theorem dX4_takeGround_37 : decode cX4_takeGround 37 = .ok (.iaload, 1) := by decide +kernel
theorem dX4_takeGround_38 : decode cX4_takeGround 38 = .ok (.ior, 1) := by decide +kernel
theorem dX4_takeGround_39 : decode cX4_takeGround 39 = .ok (.iload 4, 2) := by decide +kernel
theorem dX4_takeGround_41 : decode cX4_takeGround 41 = .ok (.iand, 1) := by decide +kernel
theorem dX4_takeGround_42 : decode cX4_takeGround 42 = .ok (.ifCond .eq 13, 3) := by decide +kernel
theorem dX4_takeGround_45 : decode cX4_takeGround 45 = .ok (.aload_n 0, 1) := by decide +kernel
theorem dX4_takeGround_46 : decode cX4_takeGround 46 = .ok (.iconst 4, 1) := by decide +kernel
theorem dX4_takeGround_47 : decode cX4_takeGround 47 = .ok (.aload_n 0, 1) := by decide +kernel
theorem dX4_takeGround_48 : decode cX4_takeGround 48 = .ok (.getfield 113, 3) := by decide +kernel
theorem dX4_takeGround_51 : decode cX4_takeGround 51 = .ok (.invokevirtual 78, 3) := by decide +kernel
theorem dX4_takeGround_54 : decode cX4_takeGround 54 = .ok (.ireturn, 1) := by decide +kernel
theorem dX4_takeGround_55 : decode cX4_takeGround 55 = .ok (.iload_n 3, 1) := by decide +kernel
theorem dX4_takeGround_56 : decode cX4_takeGround 56 = .ok (.ifCond .eq 17, 3) := by decide +kernel
theorem dX4_takeGround_59 : decode cX4_takeGround 59 = .ok (.aload_n 1, 1) := by decide +kernel
theorem dX4_takeGround_60 : decode cX4_takeGround 60 = .ok (.getfield 137, 3) := by decide +kernel
theorem dX4_takeGround_63 : decode cX4_takeGround 63 = .ok (.iload_n 2, 1) := by decide +kernel
theorem dX4_takeGround_64 : decode cX4_takeGround 64 = .ok (.dup2, 1) := by decide +kernel
theorem dX4_takeGround_65 : decode cX4_takeGround 65 = .ok (.iaload, 1) := by decide +kernel
theorem dX4_takeGround_66 : decode cX4_takeGround 66 = .ok (.iload 4, 2) := by decide +kernel
theorem dX4_takeGround_68 : decode cX4_takeGround 68 = .ok (.ior, 1) := by decide +kernel
theorem dX4_takeGround_69 : decode cX4_takeGround 69 = .ok (.iastore, 1) := by decide +kernel
theorem dX4_takeGround_70 : decode cX4_takeGround 70 = .ok (.goto 14, 3) := by decide +kernel
theorem dX4_takeGround_73 : decode cX4_takeGround 73 = .ok (.aload_n 1, 1) := by decide +kernel
theorem dX4_takeGround_74 : decode cX4_takeGround 74 = .ok (.getfield 134, 3) := by decide +kernel
theorem dX4_takeGround_77 : decode cX4_takeGround 77 = .ok (.iload_n 2, 1) := by decide +kernel
theorem dX4_takeGround_78 : decode cX4_takeGround 78 = .ok (.dup2, 1) := by decide +kernel
theorem dX4_takeGround_79 : decode cX4_takeGround 79 = .ok (.iaload, 1) := by decide +kernel
theorem dX4_takeGround_80 : decode cX4_takeGround 80 = .ok (.iload 4, 2) := by decide +kernel
theorem dX4_takeGround_82 : decode cX4_takeGround 82 = .ok (.ior, 1) := by decide +kernel
theorem dX4_takeGround_83 : decode cX4_takeGround 83 = .ok (.iastore, 1) := by decide +kernel
theorem dX4_takeGround_84 : decode cX4_takeGround 84 = .ok (.iconst 1, 1) := by decide +kernel
theorem dX4_takeGround_85 : decode cX4_takeGround 85 = .ok (.ireturn, 1) := by decide +kernel
theorem dX4_readEnd_0 : decode cX4_readEnd 0 = .ok (.aload_n 0, 1) := by decide +kernel
theorem dX4_readEnd_1 : decode cX4_readEnd 1 = .ok (.getfield 33, 3) := by decide +kernel
theorem dX4_readEnd_4 : decode cX4_readEnd 4 = .ok (.ifCond .eq 13, 3) := by decide +kernel
theorem dX4_readEnd_7 : decode cX4_readEnd 7 = .ok (.aload_n 0, 1) := by decide +kernel
theorem dX4_readEnd_8 : decode cX4_readEnd 8 = .ok (.iconst 4, 1) := by decide +kernel
theorem dX4_readEnd_9 : decode cX4_readEnd 9 = .ok (.aload_n 0, 1) := by decide +kernel
theorem dX4_readEnd_10 : decode cX4_readEnd 10 = .ok (.getfield 113, 3) := by decide +kernel
theorem dX4_readEnd_13 : decode cX4_readEnd 13 = .ok (.invokevirtual 78, 3) := by decide +kernel
theorem dX4_readEnd_16 : decode cX4_readEnd 16 = .ok (.ireturn, 1) := by decide +kernel
theorem dX4_readEnd_17 : decode cX4_readEnd 17 = .ok (.aload_n 0, 1) := by decide +kernel
theorem dX4_readEnd_18 : decode cX4_readEnd 18 = .ok (.iconst 0, 1) := by decide +kernel
theorem dX4_readEnd_19 : decode cX4_readEnd 19 = .ok (.bipush 7, 2) := by decide +kernel
theorem dX4_readEnd_21 : decode cX4_readEnd 21 = .ok (.invokevirtual 116, 3) := by decide +kernel
theorem dX4_readEnd_24 : decode cX4_readEnd 24 = .ok (.ifCond .ne 5, 3) := by decide +kernel
theorem dX4_readEnd_27 : decode cX4_readEnd 27 = .ok (.iconst 0, 1) := by decide +kernel
theorem dX4_readEnd_28 : decode cX4_readEnd 28 = .ok (.ireturn, 1) := by decide +kernel
theorem dX4_readEnd_29 : decode cX4_readEnd 29 = .ok (.aload_n 1, 1) := by decide +kernel
theorem dX4_readEnd_30 : decode cX4_readEnd 30 = .ok (.aload_n 0, 1) := by decide +kernel
theorem dX4_readEnd_31 : decode cX4_readEnd 31 = .ok (.getfield 122, 3) := by decide +kernel
theorem dX4_readEnd_34 : decode cX4_readEnd 34 = .ok (.putfield 58, 3) := by decide +kernel
theorem dX4_readEnd_37 : decode cX4_readEnd 37 = .ok (.aload_n 0, 1) := by decide +kernel
theorem dX4_readEnd_38 : decode cX4_readEnd 38 = .ok (.iconst 1, 1) := by decide +kernel
theorem dX4_readEnd_39 : decode cX4_readEnd 39 = .ok (.putfield 33, 3) := by decide +kernel
theorem dX4_readEnd_42 : decode cX4_readEnd 42 = .ok (.aload_n 0, 1) := by decide +kernel
theorem dX4_readEnd_43 : decode cX4_readEnd 43 = .ok (.invokevirtual 149, 3) := by decide +kernel
theorem dX4_readEnd_46 : decode cX4_readEnd 46 = .ok (.ireturn, 1) := by decide +kernel
theorem dX4_readPlan_0 : decode cX4_readPlan 0 = .ok (.aload_n 1, 1) := by decide +kernel
theorem dX4_readPlan_1 : decode cX4_readPlan 1 = .ok (.getfield 71, 3) := by decide +kernel
theorem dX4_readPlan_4 : decode cX4_readPlan 4 = .ok (.bipush 6, 2) := by decide +kernel
theorem dX4_readPlan_6 : decode cX4_readPlan 6 = .ok (.if_icmp .lt 13, 3) := by decide +kernel
theorem dX4_readPlan_9 : decode cX4_readPlan 9 = .ok (.aload_n 0, 1) := by decide +kernel
theorem dX4_readPlan_10 : decode cX4_readPlan 10 = .ok (.iconst 5, 1) := by decide +kernel
theorem dX4_readPlan_11 : decode cX4_readPlan 11 = .ok (.aload_n 0, 1) := by decide +kernel
theorem dX4_readPlan_12 : decode cX4_readPlan 12 = .ok (.getfield 113, 3) := by decide +kernel
theorem dX4_readPlan_15 : decode cX4_readPlan 15 = .ok (.invokevirtual 78, 3) := by decide +kernel
theorem dX4_readPlan_18 : decode cX4_readPlan 18 = .ok (.ireturn, 1) := by decide +kernel
theorem dX4_readPlan_19 : decode cX4_readPlan 19 = .ok (.aload_n 0, 1) := by decide +kernel
theorem dX4_readPlan_20 : decode cX4_readPlan 20 = .ok (.iconst 0, 1) := by decide +kernel
theorem dX4_readPlan_21 : decode cX4_readPlan 21 = .ok (.bipush 7, 2) := by decide +kernel
theorem dX4_readPlan_23 : decode cX4_readPlan 23 = .ok (.invokevirtual 116, 3) := by decide +kernel
theorem dX4_readPlan_26 : decode cX4_readPlan 26 = .ok (.ifCond .eq 25, 3) := by decide +kernel
theorem dX4_readPlan_29 : decode cX4_readPlan 29 = .ok (.aload_n 1, 1) := by decide +kernel
theorem dX4_readPlan_30 : decode cX4_readPlan 30 = .ok (.aload_n 0, 1) := by decide +kernel
theorem dX4_readPlan_31 : decode cX4_readPlan 31 = .ok (.getfield 122, 3) := by decide +kernel
theorem dX4_readPlan_34 : decode cX4_readPlan 34 = .ok (.invokevirtual 152, 3) := by decide +kernel
theorem dX4_readPlan_37 : decode cX4_readPlan 37 = .ok (.ifCond .eq 14, 3) := by decide +kernel
theorem dX4_readPlan_40 : decode cX4_readPlan 40 = .ok (.aload_n 0, 1) := by decide +kernel
theorem dX4_readPlan_41 : decode cX4_readPlan 41 = .ok (.invokevirtual 149, 3) := by decide +kernel
theorem dX4_readPlan_44 : decode cX4_readPlan 44 = .ok (.ifCond .eq 7, 3) := by decide +kernel
theorem dX4_readPlan_47 : decode cX4_readPlan 47 = .ok (.iconst 1, 1) := by decide +kernel
theorem dX4_readPlan_48 : decode cX4_readPlan 48 = .ok (.goto 4, 3) := by decide +kernel
theorem dX4_readPlan_51 : decode cX4_readPlan 51 = .ok (.iconst 0, 1) := by decide +kernel
theorem dX4_readPlan_52 : decode cX4_readPlan 52 = .ok (.ireturn, 1) := by decide +kernel
theorem dX4_readSaid_0 : decode cX4_readSaid 0 = .ok (.aload_n 0, 1) := by decide +kernel
theorem dX4_readSaid_1 : decode cX4_readSaid 1 = .ok (.iconst 0, 1) := by decide +kernel
theorem dX4_readSaid_2 : decode cX4_readSaid 2 = .ok (.bipush 7, 2) := by decide +kernel
theorem dX4_readSaid_4 : decode cX4_readSaid 4 = .ok (.invokevirtual 116, 3) := by decide +kernel
theorem dX4_readSaid_7 : decode cX4_readSaid 7 = .ok (.ifCond .ne 5, 3) := by decide +kernel
theorem dX4_readSaid_10 : decode cX4_readSaid 10 = .ok (.iconst 0, 1) := by decide +kernel
theorem dX4_readSaid_11 : decode cX4_readSaid 11 = .ok (.ireturn, 1) := by decide +kernel
theorem dX4_readSaid_12 : decode cX4_readSaid 12 = .ok (.aload_n 1, 1) := by decide +kernel
theorem dX4_readSaid_13 : decode cX4_readSaid 13 = .ok (.aload_n 0, 1) := by decide +kernel
theorem dX4_readSaid_14 : decode cX4_readSaid 14 = .ok (.getfield 122, 3) := by decide +kernel
theorem dX4_readSaid_17 : decode cX4_readSaid 17 = .ok (.invokevirtual 155, 3) := by decide +kernel
theorem dX4_readSaid_20 : decode cX4_readSaid 20 = .ok (.ifCond .eq 13, 3) := by decide +kernel
theorem dX4_readSaid_23 : decode cX4_readSaid 23 = .ok (.aload_n 0, 1) := by decide +kernel
theorem dX4_readSaid_24 : decode cX4_readSaid 24 = .ok (.iconst 4, 1) := by decide +kernel
theorem dX4_readSaid_25 : decode cX4_readSaid 25 = .ok (.aload_n 0, 1) := by decide +kernel
theorem dX4_readSaid_26 : decode cX4_readSaid 26 = .ok (.getfield 113, 3) := by decide +kernel
theorem dX4_readSaid_29 : decode cX4_readSaid 29 = .ok (.invokevirtual 78, 3) := by decide +kernel
theorem dX4_readSaid_32 : decode cX4_readSaid 32 = .ok (.ireturn, 1) := by decide +kernel
theorem dX4_readSaid_33 : decode cX4_readSaid 33 = .ok (.aload_n 1, 1) := by decide +kernel
theorem dX4_readSaid_34 : decode cX4_readSaid 34 = .ok (.dup, 1) := by decide +kernel
theorem dX4_readSaid_35 : decode cX4_readSaid 35 = .ok (.getfield 61, 3) := by decide +kernel
theorem dX4_readSaid_38 : decode cX4_readSaid 38 = .ok (.iconst 1, 1) := by decide +kernel
theorem dX4_readSaid_39 : decode cX4_readSaid 39 = .ok (.aload_n 0, 1) := by decide +kernel
theorem dX4_readSaid_40 : decode cX4_readSaid 40 = .ok (.getfield 122, 3) := by decide +kernel
theorem dX4_readSaid_43 : decode cX4_readSaid 43 = .ok (.ishl, 1) := by decide +kernel
theorem dX4_readSaid_44 : decode cX4_readSaid 44 = .ok (.ior, 1) := by decide +kernel
theorem dX4_readSaid_45 : decode cX4_readSaid 45 = .ok (.putfield 61, 3) := by decide +kernel
theorem dX4_readSaid_48 : decode cX4_readSaid 48 = .ok (.aload_n 0, 1) := by decide +kernel
theorem dX4_readSaid_49 : decode cX4_readSaid 49 = .ok (.invokevirtual 149, 3) := by decide +kernel
theorem dX4_readSaid_52 : decode cX4_readSaid 52 = .ok (.ireturn, 1) := by decide +kernel
theorem dX4_readDay_0 : decode cX4_readDay 0 = .ok (.aload_n 0, 1) := by decide +kernel
theorem dX4_readDay_1 : decode cX4_readDay 1 = .ok (.getfield 37, 3) := by decide +kernel
theorem dX4_readDay_4 : decode cX4_readDay 4 = .ok (.ifCond .eq 13, 3) := by decide +kernel
theorem dX4_readDay_7 : decode cX4_readDay 7 = .ok (.aload_n 0, 1) := by decide +kernel
theorem dX4_readDay_8 : decode cX4_readDay 8 = .ok (.iconst 4, 1) := by decide +kernel
theorem dX4_readDay_9 : decode cX4_readDay 9 = .ok (.aload_n 0, 1) := by decide +kernel
theorem dX4_readDay_10 : decode cX4_readDay 10 = .ok (.getfield 113, 3) := by decide +kernel
theorem dX4_readDay_13 : decode cX4_readDay 13 = .ok (.invokevirtual 78, 3) := by decide +kernel
theorem dX4_readDay_16 : decode cX4_readDay 16 = .ok (.ireturn, 1) := by decide +kernel
theorem dX4_readDay_17 : decode cX4_readDay 17 = .ok (.aload_n 0, 1) := by decide +kernel
theorem dX4_readDay_18 : decode cX4_readDay 18 = .ok (.iconst 0, 1) := by decide +kernel
theorem dX4_readDay_19 : decode cX4_readDay 19 = .ok (.bipush 9, 2) := by decide +kernel
theorem dX4_readDay_21 : decode cX4_readDay 21 = .ok (.invokevirtual 116, 3) := by decide +kernel
theorem dX4_readDay_24 : decode cX4_readDay 24 = .ok (.ifCond .ne 5, 3) := by decide +kernel
theorem dX4_readDay_27 : decode cX4_readDay 27 = .ok (.iconst 0, 1) := by decide +kernel
theorem dX4_readDay_28 : decode cX4_readDay 28 = .ok (.ireturn, 1) := by decide +kernel
theorem dX4_readDay_29 : decode cX4_readDay 29 = .ok (.aload_n 1, 1) := by decide +kernel
theorem dX4_readDay_30 : decode cX4_readDay 30 = .ok (.aload_n 0, 1) := by decide +kernel
theorem dX4_readDay_31 : decode cX4_readDay 31 = .ok (.getfield 122, 3) := by decide +kernel
theorem dX4_readDay_34 : decode cX4_readDay 34 = .ok (.putfield 158, 3) := by decide +kernel
theorem dX4_readDay_37 : decode cX4_readDay 37 = .ok (.aload_n 0, 1) := by decide +kernel
theorem dX4_readDay_38 : decode cX4_readDay 38 = .ok (.iconst 1, 1) := by decide +kernel
theorem dX4_readDay_39 : decode cX4_readDay 39 = .ok (.putfield 37, 3) := by decide +kernel
theorem dX4_readDay_42 : decode cX4_readDay 42 = .ok (.aload_n 0, 1) := by decide +kernel
theorem dX4_readDay_43 : decode cX4_readDay 43 = .ok (.invokevirtual 149, 3) := by decide +kernel
theorem dX4_readDay_46 : decode cX4_readDay 46 = .ok (.ireturn, 1) := by decide +kernel
theorem dX4_readNumber_0 : decode cX4_readNumber 0 = .ok (.aload_n 0, 1) := by decide +kernel
theorem dX4_readNumber_1 : decode cX4_readNumber 1 = .ok (.invokevirtual 40, 3) := by decide +kernel
theorem dX4_readNumber_4 : decode cX4_readNumber 4 = .ok (.ifCond .ne 5, 3) := by decide +kernel
theorem dX4_readNumber_7 : decode cX4_readNumber 7 = .ok (.iconst 0, 1) := by decide +kernel
theorem dX4_readNumber_8 : decode cX4_readNumber 8 = .ok (.ireturn, 1) := by decide +kernel
theorem dX4_readNumber_9 : decode cX4_readNumber 9 = .ok (.aload_n 0, 1) := by decide +kernel
theorem dX4_readNumber_10 : decode cX4_readNumber 10 = .ok (.getfield 44, 3) := by decide +kernel
theorem dX4_readNumber_13 : decode cX4_readNumber 13 = .ok (.iconst 2, 1) := by decide +kernel
theorem dX4_readNumber_14 : decode cX4_readNumber 14 = .ok (.if_icmp .eq 13, 3) := by decide +kernel
theorem dX4_readNumber_17 : decode cX4_readNumber 17 = .ok (.aload_n 0, 1) := by decide +kernel
theorem dX4_readNumber_18 : decode cX4_readNumber 18 = .ok (.iconst 2, 1) := by decide +kernel
theorem dX4_readNumber_19 : decode cX4_readNumber 19 = .ok (.aload_n 0, 1) := by decide +kernel
theorem dX4_readNumber_20 : decode cX4_readNumber 20 = .ok (.getfield 113, 3) := by decide +kernel
theorem dX4_readNumber_23 : decode cX4_readNumber 23 = .ok (.invokevirtual 78, 3) := by decide +kernel
theorem dX4_readNumber_26 : decode cX4_readNumber 26 = .ok (.ireturn, 1) := by decide +kernel
theorem dX4_readNumber_27 : decode cX4_readNumber 27 = .ok (.aload_n 0, 1) := by decide +kernel
theorem dX4_readNumber_28 : decode cX4_readNumber 28 = .ok (.getfield 122, 3) := by decide +kernel
theorem dX4_readNumber_31 : decode cX4_readNumber 31 = .ok (.iload_n 1, 1) := by decide +kernel
theorem dX4_readNumber_32 : decode cX4_readNumber 32 = .ok (.iload_n 2, 1) := by decide +kernel
theorem dX4_readNumber_33 : decode cX4_readNumber 33 = .ok (.invokestatic 160, 3) := by decide +kernel
theorem dX4_readNumber_36 : decode cX4_readNumber 36 = .ok (.ifCond .ne 15, 3) := by decide +kernel
theorem dX4_readNumber_39 : decode cX4_readNumber 39 = .ok (.aload_n 0, 1) := by decide +kernel
theorem dX4_readNumber_40 : decode cX4_readNumber 40 = .ok (.iconst 3, 1) := by decide +kernel
theorem dX4_readNumber_41 : decode cX4_readNumber 41 = .ok (.aload_n 0, 1) := by decide +kernel
theorem dX4_readNumber_42 : decode cX4_readNumber 42 = .ok (.getfield 113, 3) := by decide +kernel
theorem dX4_readNumber_45 : decode cX4_readNumber 45 = .ok (.invokevirtual 78, 3) := by decide +kernel
theorem dX4_readNumber_48 : decode cX4_readNumber 48 = .ok (.ifCond .eq 7, 3) := by decide +kernel
theorem dX4_readNumber_51 : decode cX4_readNumber 51 = .ok (.iconst 1, 1) := by decide +kernel
theorem dX4_readNumber_52 : decode cX4_readNumber 52 = .ok (.goto 4, 3) := by decide +kernel
theorem dX4_readNumber_55 : decode cX4_readNumber 55 = .ok (.iconst 0, 1) := by decide +kernel
theorem dX4_readNumber_56 : decode cX4_readNumber 56 = .ok (.ireturn, 1) := by decide +kernel
theorem dX4_readStop_0 : decode cX4_readStop 0 = .ok (.aload_n 0, 1) := by decide +kernel
theorem dX4_readStop_1 : decode cX4_readStop 1 = .ok (.invokevirtual 40, 3) := by decide +kernel
theorem dX4_readStop_4 : decode cX4_readStop 4 = .ok (.ifCond .eq 27, 3) := by decide +kernel
theorem dX4_readStop_7 : decode cX4_readStop 7 = .ok (.aload_n 0, 1) := by decide +kernel
theorem dX4_readStop_8 : decode cX4_readStop 8 = .ok (.getfield 44, 3) := by decide +kernel
theorem dX4_readStop_11 : decode cX4_readStop 11 = .ok (.iconst 3, 1) := by decide +kernel
theorem dX4_readStop_12 : decode cX4_readStop 12 = .ok (.if_icmp .eq 15, 3) := by decide +kernel
theorem dX4_readStop_15 : decode cX4_readStop 15 = .ok (.aload_n 0, 1) := by decide +kernel
theorem dX4_readStop_16 : decode cX4_readStop 16 = .ok (.iconst 2, 1) := by decide +kernel
theorem dX4_readStop_17 : decode cX4_readStop 17 = .ok (.aload_n 0, 1) := by decide +kernel
theorem dX4_readStop_18 : decode cX4_readStop 18 = .ok (.getfield 113, 3) := by decide +kernel
theorem dX4_readStop_21 : decode cX4_readStop 21 = .ok (.invokevirtual 78, 3) := by decide +kernel
theorem dX4_readStop_24 : decode cX4_readStop 24 = .ok (.ifCond .eq 7, 3) := by decide +kernel
theorem dX4_readStop_27 : decode cX4_readStop 27 = .ok (.iconst 1, 1) := by decide +kernel
theorem dX4_readStop_28 : decode cX4_readStop 28 = .ok (.goto 4, 3) := by decide +kernel
theorem dX4_readStop_31 : decode cX4_readStop 31 = .ok (.iconst 0, 1) := by decide +kernel
theorem dX4_readStop_32 : decode cX4_readStop 32 = .ok (.ireturn, 1) := by decide +kernel
theorem dX4_readToken_0 : decode cX4_readToken 0 = .ok (.aload_n 0, 1) := by decide +kernel
theorem dX4_readToken_1 : decode cX4_readToken 1 = .ok (.invokevirtual 164, 3) := by decide +kernel
theorem dX4_readToken_4 : decode cX4_readToken 4 = .ok (.aload_n 0, 1) := by decide +kernel
theorem dX4_readToken_5 : decode cX4_readToken 5 = .ok (.aload_n 0, 1) := by decide +kernel
theorem dX4_readToken_6 : decode cX4_readToken 6 = .ok (.aload_n 0, 1) := by decide +kernel
theorem dX4_readToken_7 : decode cX4_readToken 7 = .ok (.getfield 113, 3) := by decide +kernel
theorem dX4_readToken_10 : decode cX4_readToken 10 = .ok (.invokevirtual 167, 3) := by decide +kernel
theorem dX4_readToken_13 : decode cX4_readToken 13 = .ok (.putfield 44, 3) := by decide +kernel
theorem dX4_readToken_16 : decode cX4_readToken 16 = .ok (.aload_n 0, 1) := by decide +kernel
theorem dX4_readToken_17 : decode cX4_readToken 17 = .ok (.aload_n 0, 1) := by decide +kernel
theorem dX4_readToken_18 : decode cX4_readToken 18 = .ok (.getfield 44, 3) := by decide +kernel
theorem dX4_readToken_21 : decode cX4_readToken 21 = .ok (.ifCond .ne 10, 3) := by decide +kernel
theorem dX4_readToken_24 : decode cX4_readToken 24 = .ok (.aload_n 0, 1) := by decide +kernel
theorem dX4_readToken_25 : decode cX4_readToken 25 = .ok (.getfield 113, 3) := by decide +kernel
theorem dX4_readToken_28 : decode cX4_readToken 28 = .ok (.goto 9, 3) := by decide +kernel
theorem dX4_readToken_31 : decode cX4_readToken 31 = .ok (.aload_n 0, 1) := by decide +kernel
theorem dX4_readToken_32 : decode cX4_readToken 32 = .ok (.getfield 113, 3) := by decide +kernel
theorem dX4_readToken_35 : decode cX4_readToken 35 = .ok (.iconst 1, 1) := by decide +kernel
theorem dX4_readToken_36 : decode cX4_readToken 36 = .ok (.iadd, 1) := by decide +kernel
theorem dX4_readToken_37 : decode cX4_readToken 37 = .ok (.putfield 30, 3) := by decide +kernel
theorem dX4_readToken_40 : decode cX4_readToken 40 = .ok (.aload_n 0, 1) := by decide +kernel
theorem dX4_readToken_41 : decode cX4_readToken 41 = .ok (.getfield 44, 3) := by decide +kernel
theorem dX4_readToken_44 : decode cX4_readToken 44 = .ok (.iconst 1, 1) := by decide +kernel
theorem dX4_readToken_45 : decode cX4_readToken 45 = .ok (.if_icmp .eq 11, 3) := by decide +kernel
theorem dX4_readToken_48 : decode cX4_readToken 48 = .ok (.aload_n 0, 1) := by decide +kernel
theorem dX4_readToken_49 : decode cX4_readToken 49 = .ok (.getfield 44, 3) := by decide +kernel
theorem dX4_readToken_52 : decode cX4_readToken 52 = .ok (.iconst 2, 1) := by decide +kernel
theorem dX4_readToken_53 : decode cX4_readToken 53 = .ok (.if_icmp .ne 41, 3) := by decide +kernel
theorem dX4_readToken_56 : decode cX4_readToken 56 = .ok (.aload_n 0, 1) := by decide +kernel
theorem dX4_readToken_57 : decode cX4_readToken 57 = .ok (.getfield 30, 3) := by decide +kernel
theorem dX4_readToken_60 : decode cX4_readToken 60 = .ok (.istore_n 1, 1) := by decide +kernel
theorem dX4_readToken_61 : decode cX4_readToken 61 = .ok (.iload_n 1, 1) := by decide +kernel
theorem dX4_readToken_62 : decode cX4_readToken 62 = .ok (.aload_n 0, 1) := by decide +kernel
theorem dX4_readToken_63 : decode cX4_readToken 63 = .ok (.getfield 15, 3) := by decide +kernel
theorem dX4_readToken_66 : decode cX4_readToken 66 = .ok (.if_icmp .ge 28, 3) := by decide +kernel
theorem dX4_readToken_69 : decode cX4_readToken 69 = .ok (.aload_n 0, 1) := by decide +kernel
theorem dX4_readToken_70 : decode cX4_readToken 70 = .ok (.iload_n 1, 1) := by decide +kernel
theorem dX4_readToken_71 : decode cX4_readToken 71 = .ok (.invokevirtual 167, 3) := by decide +kernel
theorem dX4_readToken_74 : decode cX4_readToken 74 = .ok (.aload_n 0, 1) := by decide +kernel
theorem dX4_readToken_75 : decode cX4_readToken 75 = .ok (.getfield 44, 3) := by decide +kernel
theorem dX4_readToken_78 : decode cX4_readToken 78 = .ok (.if_icmp .ne 16, 3) := by decide +kernel
theorem dX4_readToken_81 : decode cX4_readToken 81 = .ok (.aload_n 0, 1) := by decide +kernel
theorem dX4_readToken_82 : decode cX4_readToken 82 = .ok (.iload_n 1, 1) := by decide +kernel
theorem dX4_readToken_83 : decode cX4_readToken 83 = .ok (.iconst 1, 1) := by decide +kernel
theorem dX4_readToken_84 : decode cX4_readToken 84 = .ok (.iadd, 1) := by decide +kernel
theorem dX4_readToken_85 : decode cX4_readToken 85 = .ok (.putfield 30, 3) := by decide +kernel
theorem dX4_readToken_88 : decode cX4_readToken 88 = .ok (.iinc 1 1, 3) := by decide +kernel
theorem dX4_readToken_91 : decode cX4_readToken 91 = .ok (.goto (-30), 3) := by decide +kernel
theorem dX4_readToken_94 : decode cX4_readToken 94 = .ok (.aload_n 0, 1) := by decide +kernel
theorem dX4_readToken_95 : decode cX4_readToken 95 = .ok (.getfield 44, 3) := by decide +kernel
theorem dX4_readToken_98 : decode cX4_readToken 98 = .ok (.iconst 2, 1) := by decide +kernel
theorem dX4_readToken_99 : decode cX4_readToken 99 = .ok (.if_icmp .ne 20, 3) := by decide +kernel
theorem dX4_readToken_102 : decode cX4_readToken 102 = .ok (.aload_n 0, 1) := by decide +kernel
theorem dX4_readToken_103 : decode cX4_readToken 103 = .ok (.getfield 30, 3) := by decide +kernel
theorem dX4_readToken_106 : decode cX4_readToken 106 = .ok (.aload_n 0, 1) := by decide +kernel
theorem dX4_readToken_107 : decode cX4_readToken 107 = .ok (.getfield 113, 3) := by decide +kernel
theorem dX4_readToken_110 : decode cX4_readToken 110 = .ok (.isub, 1) := by decide +kernel
theorem dX4_readToken_111 : decode cX4_readToken 111 = .ok (.iconst 2, 1) := by decide +kernel
theorem dX4_readToken_112 : decode cX4_readToken 112 = .ok (.if_icmp .le 7, 3) := by decide +kernel
theorem dX4_readToken_115 : decode cX4_readToken 115 = .ok (.iconst 1, 1) := by decide +kernel
theorem dX4_readToken_116 : decode cX4_readToken 116 = .ok (.goto 4, 3) := by decide +kernel
theorem dX4_readToken_119 : decode cX4_readToken 119 = .ok (.iconst 0, 1) := by decide +kernel
theorem dX4_readToken_120 : decode cX4_readToken 120 = .ok (.istore_n 1, 1) := by decide +kernel
theorem dX4_readToken_121 : decode cX4_readToken 121 = .ok (.aload_n 0, 1) := by decide +kernel
theorem dX4_readToken_122 : decode cX4_readToken 122 = .ok (.getfield 44, 3) := by decide +kernel
theorem dX4_readToken_125 : decode cX4_readToken 125 = .ok (.iconst 4, 1) := by decide +kernel
theorem dX4_readToken_126 : decode cX4_readToken 126 = .ok (.if_icmp .eq 7, 3) := by decide +kernel
theorem dX4_readToken_129 : decode cX4_readToken 129 = .ok (.iload_n 1, 1) := by decide +kernel
theorem dX4_readToken_130 : decode cX4_readToken 130 = .ok (.ifCond .eq 13, 3) := by decide +kernel
theorem dX4_readToken_133 : decode cX4_readToken 133 = .ok (.aload_n 0, 1) := by decide +kernel
theorem dX4_readToken_134 : decode cX4_readToken 134 = .ok (.iconst 1, 1) := by decide +kernel
theorem dX4_readToken_135 : decode cX4_readToken 135 = .ok (.aload_n 0, 1) := by decide +kernel
theorem dX4_readToken_136 : decode cX4_readToken 136 = .ok (.getfield 113, 3) := by decide +kernel
theorem dX4_readToken_139 : decode cX4_readToken 139 = .ok (.invokevirtual 78, 3) := by decide +kernel
theorem dX4_readToken_142 : decode cX4_readToken 142 = .ok (.ireturn, 1) := by decide +kernel
theorem dX4_readToken_143 : decode cX4_readToken 143 = .ok (.aload_n 0, 1) := by decide +kernel
theorem dX4_readToken_144 : decode cX4_readToken 144 = .ok (.getfield 44, 3) := by decide +kernel
theorem dX4_readToken_147 : decode cX4_readToken 147 = .ok (.iconst 2, 1) := by decide +kernel
theorem dX4_readToken_148 : decode cX4_readToken 148 = .ok (.if_icmp .ne 11, 3) := by decide +kernel
theorem dX4_readToken_151 : decode cX4_readToken 151 = .ok (.aload_n 0, 1) := by decide +kernel
theorem dX4_readToken_152 : decode cX4_readToken 152 = .ok (.aload_n 0, 1) := by decide +kernel
theorem dX4_readToken_153 : decode cX4_readToken 153 = .ok (.invokevirtual 171, 3) := by decide +kernel
theorem dX4_readToken_156 : decode cX4_readToken 156 = .ok (.putfield 122, 3) := by decide +kernel
theorem dX4_readToken_159 : decode cX4_readToken 159 = .ok (.iconst 1, 1) := by decide +kernel
theorem dX4_readToken_160 : decode cX4_readToken 160 = .ok (.ireturn, 1) := by decide +kernel
theorem dX4_skipBlanks_0 : decode cX4_skipBlanks 0 = .ok (.aload_n 0, 1) := by decide +kernel
theorem dX4_skipBlanks_1 : decode cX4_skipBlanks 1 = .ok (.aload_n 0, 1) := by decide +kernel
theorem dX4_skipBlanks_2 : decode cX4_skipBlanks 2 = .ok (.getfield 30, 3) := by decide +kernel
theorem dX4_skipBlanks_5 : decode cX4_skipBlanks 5 = .ok (.putfield 113, 3) := by decide +kernel
theorem dX4_skipBlanks_8 : decode cX4_skipBlanks 8 = .ok (.aload_n 0, 1) := by decide +kernel
theorem dX4_skipBlanks_9 : decode cX4_skipBlanks 9 = .ok (.getfield 30, 3) := by decide +kernel
theorem dX4_skipBlanks_12 : decode cX4_skipBlanks 12 = .ok (.istore_n 1, 1) := by decide +kernel
theorem dX4_skipBlanks_13 : decode cX4_skipBlanks 13 = .ok (.iload_n 1, 1) := by decide +kernel
theorem dX4_skipBlanks_14 : decode cX4_skipBlanks 14 = .ok (.aload_n 0, 1) := by decide +kernel
theorem dX4_skipBlanks_15 : decode cX4_skipBlanks 15 = .ok (.getfield 15, 3) := by decide +kernel
theorem dX4_skipBlanks_18 : decode cX4_skipBlanks 18 = .ok (.if_icmp .ge 27, 3) := by decide +kernel
theorem dX4_skipBlanks_21 : decode cX4_skipBlanks 21 = .ok (.aload_n 0, 1) := by decide +kernel
theorem dX4_skipBlanks_22 : decode cX4_skipBlanks 22 = .ok (.getfield 9, 3) := by decide +kernel
theorem dX4_skipBlanks_25 : decode cX4_skipBlanks 25 = .ok (.iload_n 1, 1) := by decide +kernel
theorem dX4_skipBlanks_26 : decode cX4_skipBlanks 26 = .ok (.baload, 1) := by decide +kernel
theorem dX4_skipBlanks_27 : decode cX4_skipBlanks 27 = .ok (.bipush 32, 2) := by decide +kernel
theorem dX4_skipBlanks_29 : decode cX4_skipBlanks 29 = .ok (.if_icmp .ne 16, 3) := by decide +kernel
theorem dX4_skipBlanks_32 : decode cX4_skipBlanks 32 = .ok (.aload_n 0, 1) := by decide +kernel
theorem dX4_skipBlanks_33 : decode cX4_skipBlanks 33 = .ok (.iload_n 1, 1) := by decide +kernel
theorem dX4_skipBlanks_34 : decode cX4_skipBlanks 34 = .ok (.iconst 1, 1) := by decide +kernel
theorem dX4_skipBlanks_35 : decode cX4_skipBlanks 35 = .ok (.iadd, 1) := by decide +kernel
theorem dX4_skipBlanks_36 : decode cX4_skipBlanks 36 = .ok (.putfield 113, 3) := by decide +kernel
theorem dX4_skipBlanks_39 : decode cX4_skipBlanks 39 = .ok (.iinc 1 1, 3) := by decide +kernel
theorem dX4_skipBlanks_42 : decode cX4_skipBlanks 42 = .ok (.goto (-29), 3) := by decide +kernel
theorem dX4_skipBlanks_45 : decode cX4_skipBlanks 45 = .ok (.return_, 1) := by decide +kernel
theorem dX4_kindAt_0 : decode cX4_kindAt 0 = .ok (.iload_n 1, 1) := by decide +kernel
theorem dX4_kindAt_1 : decode cX4_kindAt 1 = .ok (.ifCond .lt 11, 3) := by decide +kernel
theorem dX4_kindAt_4 : decode cX4_kindAt 4 = .ok (.iload_n 1, 1) := by decide +kernel
theorem dX4_kindAt_5 : decode cX4_kindAt 5 = .ok (.aload_n 0, 1) := by decide +kernel
theorem dX4_kindAt_6 : decode cX4_kindAt 6 = .ok (.getfield 15, 3) := by decide +kernel
theorem dX4_kindAt_9 : decode cX4_kindAt 9 = .ok (.if_icmp .lt 5, 3) := by decide +kernel
theorem dX4_kindAt_12 : decode cX4_kindAt 12 = .ok (.iconst 0, 1) := by decide +kernel
theorem dX4_kindAt_13 : decode cX4_kindAt 13 = .ok (.ireturn, 1) := by decide +kernel
theorem dX4_kindAt_14 : decode cX4_kindAt 14 = .ok (.aload_n 0, 1) := by decide +kernel
theorem dX4_kindAt_15 : decode cX4_kindAt 15 = .ok (.getfield 9, 3) := by decide +kernel
theorem dX4_kindAt_18 : decode cX4_kindAt 18 = .ok (.iload_n 1, 1) := by decide +kernel
theorem dX4_kindAt_19 : decode cX4_kindAt 19 = .ok (.baload, 1) := by decide +kernel
theorem dX4_kindAt_20 : decode cX4_kindAt 20 = .ok (.istore_n 2, 1) := by decide +kernel
theorem dX4_kindAt_21 : decode cX4_kindAt 21 = .ok (.iload_n 2, 1) := by decide +kernel
theorem dX4_kindAt_22 : decode cX4_kindAt 22 = .ok (.bipush 97, 2) := by decide +kernel
theorem dX4_kindAt_24 : decode cX4_kindAt 24 = .ok (.if_icmp .lt 11, 3) := by decide +kernel
theorem dX4_kindAt_27 : decode cX4_kindAt 27 = .ok (.iload_n 2, 1) := by decide +kernel
theorem dX4_kindAt_28 : decode cX4_kindAt 28 = .ok (.bipush 122, 2) := by decide +kernel
theorem dX4_kindAt_30 : decode cX4_kindAt 30 = .ok (.if_icmp .gt 5, 3) := by decide +kernel
theorem dX4_kindAt_33 : decode cX4_kindAt 33 = .ok (.iconst 1, 1) := by decide +kernel
theorem dX4_kindAt_34 : decode cX4_kindAt 34 = .ok (.ireturn, 1) := by decide +kernel
theorem dX4_kindAt_35 : decode cX4_kindAt 35 = .ok (.iload_n 2, 1) := by decide +kernel
theorem dX4_kindAt_36 : decode cX4_kindAt 36 = .ok (.bipush 48, 2) := by decide +kernel
theorem dX4_kindAt_38 : decode cX4_kindAt 38 = .ok (.if_icmp .lt 11, 3) := by decide +kernel
theorem dX4_kindAt_41 : decode cX4_kindAt 41 = .ok (.iload_n 2, 1) := by decide +kernel
theorem dX4_kindAt_42 : decode cX4_kindAt 42 = .ok (.bipush 57, 2) := by decide +kernel
theorem dX4_kindAt_44 : decode cX4_kindAt 44 = .ok (.if_icmp .gt 5, 3) := by decide +kernel
theorem dX4_kindAt_47 : decode cX4_kindAt 47 = .ok (.iconst 2, 1) := by decide +kernel
theorem dX4_kindAt_48 : decode cX4_kindAt 48 = .ok (.ireturn, 1) := by decide +kernel
theorem dX4_kindAt_49 : decode cX4_kindAt 49 = .ok (.iload_n 2, 1) := by decide +kernel
theorem dX4_kindAt_50 : decode cX4_kindAt 50 = .ok (.bipush 59, 2) := by decide +kernel
theorem dX4_kindAt_52 : decode cX4_kindAt 52 = .ok (.if_icmp .ne 7, 3) := by decide +kernel
theorem dX4_kindAt_55 : decode cX4_kindAt 55 = .ok (.iconst 3, 1) := by decide +kernel
theorem dX4_kindAt_56 : decode cX4_kindAt 56 = .ok (.goto 4, 3) := by decide +kernel
theorem dX4_kindAt_59 : decode cX4_kindAt 59 = .ok (.iconst 4, 1) := by decide +kernel
theorem dX4_kindAt_60 : decode cX4_kindAt 60 = .ok (.ireturn, 1) := by decide +kernel
theorem dX4_figures_0 : decode cX4_figures 0 = .ok (.iconst 0, 1) := by decide +kernel
theorem dX4_figures_1 : decode cX4_figures 1 = .ok (.istore_n 1, 1) := by decide +kernel
theorem dX4_figures_2 : decode cX4_figures 2 = .ok (.aload_n 0, 1) := by decide +kernel
theorem dX4_figures_3 : decode cX4_figures 3 = .ok (.getfield 113, 3) := by decide +kernel
theorem dX4_figures_6 : decode cX4_figures 6 = .ok (.istore_n 2, 1) := by decide +kernel
theorem dX4_figures_7 : decode cX4_figures 7 = .ok (.iload_n 2, 1) := by decide +kernel
theorem dX4_figures_8 : decode cX4_figures 8 = .ok (.aload_n 0, 1) := by decide +kernel
theorem dX4_figures_9 : decode cX4_figures 9 = .ok (.getfield 30, 3) := by decide +kernel
theorem dX4_figures_12 : decode cX4_figures 12 = .ok (.if_icmp .ge 24, 3) := by decide +kernel
theorem dX4_figures_15 : decode cX4_figures 15 = .ok (.iload_n 1, 1) := by decide +kernel
theorem dX4_figures_16 : decode cX4_figures 16 = .ok (.bipush 10, 2) := by decide +kernel
theorem dX4_figures_18 : decode cX4_figures 18 = .ok (.imul, 1) := by decide +kernel
theorem dX4_figures_19 : decode cX4_figures 19 = .ok (.aload_n 0, 1) := by decide +kernel
theorem dX4_figures_20 : decode cX4_figures 20 = .ok (.getfield 9, 3) := by decide +kernel
theorem dX4_figures_23 : decode cX4_figures 23 = .ok (.iload_n 2, 1) := by decide +kernel
theorem dX4_figures_24 : decode cX4_figures 24 = .ok (.baload, 1) := by decide +kernel
theorem dX4_figures_25 : decode cX4_figures 25 = .ok (.iadd, 1) := by decide +kernel
theorem dX4_figures_26 : decode cX4_figures 26 = .ok (.bipush 48, 2) := by decide +kernel
theorem dX4_figures_28 : decode cX4_figures 28 = .ok (.isub, 1) := by decide +kernel
theorem dX4_figures_29 : decode cX4_figures 29 = .ok (.istore_n 1, 1) := by decide +kernel
theorem dX4_figures_30 : decode cX4_figures 30 = .ok (.iinc 2 1, 3) := by decide +kernel
theorem dX4_figures_33 : decode cX4_figures 33 = .ok (.goto (-26), 3) := by decide +kernel
theorem dX4_figures_36 : decode cX4_figures 36 = .ok (.iload_n 1, 1) := by decide +kernel
theorem dX4_figures_37 : decode cX4_figures 37 = .ok (.ireturn, 1) := by decide +kernel
theorem dX4_isWord_0 : decode cX4_isWord 0 = .ok (.aload_n 0, 1) := by decide +kernel
theorem dX4_isWord_1 : decode cX4_isWord 1 = .ok (.getfield 44, 3) := by decide +kernel
theorem dX4_isWord_4 : decode cX4_isWord 4 = .ok (.iconst 1, 1) := by decide +kernel
theorem dX4_isWord_5 : decode cX4_isWord 5 = .ok (.if_icmp .ne 19, 3) := by decide +kernel
theorem dX4_isWord_8 : decode cX4_isWord 8 = .ok (.aload_n 0, 1) := by decide +kernel
theorem dX4_isWord_9 : decode cX4_isWord 9 = .ok (.getfield 30, 3) := by decide +kernel
theorem dX4_isWord_12 : decode cX4_isWord 12 = .ok (.aload_n 0, 1) := by decide +kernel
theorem dX4_isWord_13 : decode cX4_isWord 13 = .ok (.getfield 113, 3) := by decide +kernel
theorem dX4_isWord_16 : decode cX4_isWord 16 = .ok (.isub, 1) := by decide +kernel
theorem dX4_isWord_17 : decode cX4_isWord 17 = .ok (.aload_n 1, 1) := by decide +kernel
theorem dX4_isWord_18 : decode cX4_isWord 18 = .ok (.invokevirtual 175, 3) := by decide +kernel
theorem dX4_isWord_21 : decode cX4_isWord 21 = .ok (.if_icmp .eq 5, 3) := by decide +kernel
theorem dX4_isWord_24 : decode cX4_isWord 24 = .ok (.iconst 0, 1) := by decide +kernel
theorem dX4_isWord_25 : decode cX4_isWord 25 = .ok (.ireturn, 1) := by decide +kernel
theorem dX4_isWord_26 : decode cX4_isWord 26 = .ok (.aload_n 0, 1) := by decide +kernel
theorem dX4_isWord_27 : decode cX4_isWord 27 = .ok (.getfield 113, 3) := by decide +kernel
theorem dX4_isWord_30 : decode cX4_isWord 30 = .ok (.istore_n 2, 1) := by decide +kernel
theorem dX4_isWord_31 : decode cX4_isWord 31 = .ok (.iload_n 2, 1) := by decide +kernel
theorem dX4_isWord_32 : decode cX4_isWord 32 = .ok (.aload_n 0, 1) := by decide +kernel
theorem dX4_isWord_33 : decode cX4_isWord 33 = .ok (.getfield 30, 3) := by decide +kernel
theorem dX4_isWord_36 : decode cX4_isWord 36 = .ok (.if_icmp .ge 30, 3) := by decide +kernel
theorem dX4_isWord_39 : decode cX4_isWord 39 = .ok (.aload_n 0, 1) := by decide +kernel
theorem dX4_isWord_40 : decode cX4_isWord 40 = .ok (.getfield 9, 3) := by decide +kernel
theorem dX4_isWord_43 : decode cX4_isWord 43 = .ok (.iload_n 2, 1) := by decide +kernel
theorem dX4_isWord_44 : decode cX4_isWord 44 = .ok (.baload, 1) := by decide +kernel
theorem dX4_isWord_45 : decode cX4_isWord 45 = .ok (.aload_n 1, 1) := by decide +kernel
theorem dX4_isWord_46 : decode cX4_isWord 46 = .ok (.iload_n 2, 1) := by decide +kernel
theorem dX4_isWord_47 : decode cX4_isWord 47 = .ok (.aload_n 0, 1) := by decide +kernel
theorem dX4_isWord_48 : decode cX4_isWord 48 = .ok (.getfield 113, 3) := by decide +kernel
theorem dX4_isWord_51 : decode cX4_isWord 51 = .ok (.isub, 1) := by decide +kernel
theorem dX4_isWord_52 : decode cX4_isWord 52 = .ok (.invokevirtual 179, 3) := by decide +kernel
theorem dX4_isWord_55 : decode cX4_isWord 55 = .ok (.if_icmp .eq 5, 3) := by decide +kernel
theorem dX4_isWord_58 : decode cX4_isWord 58 = .ok (.iconst 0, 1) := by decide +kernel
theorem dX4_isWord_59 : decode cX4_isWord 59 = .ok (.ireturn, 1) := by decide +kernel
theorem dX4_isWord_60 : decode cX4_isWord 60 = .ok (.iinc 2 1, 3) := by decide +kernel
theorem dX4_isWord_63 : decode cX4_isWord 63 = .ok (.goto (-32), 3) := by decide +kernel
theorem dX4_isWord_66 : decode cX4_isWord 66 = .ok (.iconst 1, 1) := by decide +kernel
theorem dX4_isWord_67 : decode cX4_isWord 67 = .ok (.ireturn, 1) := by decide +kernel
theorem dX5_init_0 : decode cX5_init 0 = .ok (.aload_n 0, 1) := by decide +kernel
theorem dX5_init_1 : decode cX5_init 1 = .ok (.invokespecial 3, 3) := by decide +kernel
theorem dX5_init_4 : decode cX5_init 4 = .ok (.return_, 1) := by decide +kernel
theorem dX5_hold_0 : decode cX5_hold 0 = .ok (.aload_n 0, 1) := by decide +kernel
theorem dX5_hold_1 : decode cX5_hold 1 = .ok (.aload_n 1, 1) := by decide +kernel
theorem dX5_hold_2 : decode cX5_hold 2 = .ok (.getfield 9, 3) := by decide +kernel
theorem dX5_hold_5 : decode cX5_hold 5 = .ok (.putfield 15, 3) := by decide +kernel
theorem dX5_hold_8 : decode cX5_hold 8 = .ok (.aload_n 0, 1) := by decide +kernel
theorem dX5_hold_9 : decode cX5_hold 9 = .ok (.bipush (-4), 2) := by decide +kernel
theorem dX5_hold_11 : decode cX5_hold 11 = .ok (.putfield 18, 3) := by decide +kernel
theorem dX5_hold_14 : decode cX5_hold 14 = .ok (.aload_n 0, 1) := by decide +kernel
theorem dX5_hold_15 : decode cX5_hold 15 = .ok (.iconst 0, 1) := by decide +kernel
theorem dX5_hold_16 : decode cX5_hold 16 = .ok (.putfield 21, 3) := by decide +kernel
theorem dX5_hold_19 : decode cX5_hold 19 = .ok (.iconst 0, 1) := by decide +kernel
theorem dX5_hold_20 : decode cX5_hold 20 = .ok (.istore_n 3, 1) := by decide +kernel
theorem dX5_hold_21 : decode cX5_hold 21 = .ok (.iload_n 3, 1) := by decide +kernel
theorem dX5_hold_22 : decode cX5_hold 22 = .ok (.aload_n 1, 1) := by decide +kernel
theorem dX5_hold_23 : decode cX5_hold 23 = .ok (.getfield 24, 3) := by decide +kernel
theorem dX5_hold_26 : decode cX5_hold 26 = .ok (.if_icmp .ge 110, 3) := by decide +kernel
theorem dX5_hold_29 : decode cX5_hold 29 = .ok (.aload_n 1, 1) := by decide +kernel
theorem dX5_hold_30 : decode cX5_hold 30 = .ok (.getfield 27, 3) := by decide +kernel
theorem dX5_hold_33 : decode cX5_hold 33 = .ok (.iload_n 3, 1) := by decide +kernel
theorem dX5_hold_34 : decode cX5_hold 34 = .ok (.iaload, 1) := by decide +kernel
theorem dX5_hold_35 : decode cX5_hold 35 = .ok (.istore 4, 2) := by decide +kernel
theorem dX5_hold_37 : decode cX5_hold 37 = .ok (.iload_n 2, 1) := by decide +kernel
theorem dX5_hold_38 : decode cX5_hold 38 = .ok (.iload_n 3, 1) := by decide +kernel
theorem dX5_hold_39 : decode cX5_hold 39 = .ok (.ishr, 1) := by decide +kernel
theorem dX5_hold_40 : decode cX5_hold 40 = .ok (.iconst 1, 1) := by decide +kernel
theorem dX5_hold_41 : decode cX5_hold 41 = .ok (.iand, 1) := by decide +kernel
theorem dX5_hold_42 : decode cX5_hold 42 = .ok (.iconst 1, 1) := by decide +kernel
theorem dX5_hold_43 : decode cX5_hold 43 = .ok (.if_icmp .ne 7, 3) := by decide +kernel
theorem dX5_hold_46 : decode cX5_hold 46 = .ok (.iconst 1, 1) := by decide +kernel
theorem dX5_hold_47 : decode cX5_hold 47 = .ok (.goto 4, 3) := by decide +kernel
theorem dX5_hold_50 : decode cX5_hold 50 = .ok (.iconst 0, 1) := by decide +kernel
theorem dX5_hold_51 : decode cX5_hold 51 = .ok (.istore 5, 2) := by decide +kernel
theorem dX5_hold_53 : decode cX5_hold 53 = .ok (.iload 5, 2) := by decide +kernel
theorem dX5_hold_55 : decode cX5_hold 55 = .ok (.ifCond .ne 46, 3) := by decide +kernel
theorem dX5_hold_58 : decode cX5_hold 58 = .ok (.aload_n 1, 1) := by decide +kernel
theorem dX5_hold_59 : decode cX5_hold 59 = .ok (.iload 4, 2) := by decide +kernel
theorem dX5_hold_61 : decode cX5_hold 61 = .ok (.aload_n 1, 1) := by decide +kernel
theorem dX5_hold_62 : decode cX5_hold 62 = .ok (.getfield 31, 3) := by decide +kernel
theorem dX5_hold_65 : decode cX5_hold 65 = .ok (.iload_n 3, 1) := by decide +kernel
theorem dX5_hold_66 : decode cX5_hold 66 = .ok (.iadd, 1) := by decide +kernel
theorem dX5_hold_67 : decode cX5_hold 67 = .ok (.invokevirtual 34, 3) := by decide +kernel
theorem dX5_hold_70 : decode cX5_hold 70 = .ok (.ifCond .eq 31, 3) := by decide +kernel
theorem dX5_hold_73 : decode cX5_hold 73 = .ok (.aload_n 0, 1) := by decide +kernel
theorem dX5_hold_74 : decode cX5_hold 74 = .ok (.getfield 15, 3) := by decide +kernel
theorem dX5_hold_77 : decode cX5_hold 77 = .ok (.iload 4, 2) := by decide +kernel
theorem dX5_hold_79 : decode cX5_hold 79 = .ok (.ishr, 1) := by decide +kernel
theorem dX5_hold_80 : decode cX5_hold 80 = .ok (.iconst 1, 1) := by decide +kernel
theorem dX5_hold_81 : decode cX5_hold 81 = .ok (.iand, 1) := by decide +kernel
theorem dX5_hold_82 : decode cX5_hold 82 = .ok (.ifCond .ne 19, 3) := by decide +kernel
theorem dX5_hold_85 : decode cX5_hold 85 = .ok (.aload_n 0, 1) := by decide +kernel
theorem dX5_hold_86 : decode cX5_hold 86 = .ok (.dup, 1) := by decide +kernel
theorem dX5_hold_87 : decode cX5_hold 87 = .ok (.getfield 15, 3) := by decide +kernel
theorem dX5_hold_90 : decode cX5_hold 90 = .ok (.iconst 1, 1) := by decide +kernel
theorem dX5_hold_91 : decode cX5_hold 91 = .ok (.iload 4, 2) := by decide +kernel
theorem dX5_hold_93 : decode cX5_hold 93 = .ok (.ishl, 1) := by decide +kernel
theorem dX5_hold_94 : decode cX5_hold 94 = .ok (.ior, 1) := by decide +kernel
theorem dX5_hold_95 : decode cX5_hold 95 = .ok (.putfield 15, 3) := by decide +kernel
theorem dX5_hold_98 : decode cX5_hold 98 = .ok (.goto 32, 3) := by decide +kernel
theorem dX5_hold_101 : decode cX5_hold 101 = .ok (.aload_n 0, 1) := by decide +kernel
theorem dX5_hold_102 : decode cX5_hold 102 = .ok (.aload_n 0, 1) := by decide +kernel
theorem dX5_hold_103 : decode cX5_hold 103 = .ok (.getfield 21, 3) := by decide +kernel
theorem dX5_hold_106 : decode cX5_hold 106 = .ok (.ifCond .ne 7, 3) := by decide +kernel
theorem dX5_hold_109 : decode cX5_hold 109 = .ok (.iload_n 3, 1) := by decide +kernel
theorem dX5_hold_110 : decode cX5_hold 110 = .ok (.goto 7, 3) := by decide +kernel
theorem dX5_hold_113 : decode cX5_hold 113 = .ok (.aload_n 0, 1) := by decide +kernel
theorem dX5_hold_114 : decode cX5_hold 114 = .ok (.getfield 18, 3) := by decide +kernel
theorem dX5_hold_117 : decode cX5_hold 117 = .ok (.putfield 18, 3) := by decide +kernel
theorem dX5_hold_120 : decode cX5_hold 120 = .ok (.aload_n 0, 1) := by decide +kernel
theorem dX5_hold_121 : decode cX5_hold 121 = .ok (.dup, 1) := by decide +kernel
theorem dX5_hold_122 : decode cX5_hold 122 = .ok (.getfield 21, 3) := by decide +kernel
theorem dX5_hold_125 : decode cX5_hold 125 = .ok (.iconst 1, 1) := by decide +kernel
theorem dX5_hold_126 : decode cX5_hold 126 = .ok (.iadd, 1) := by decide +kernel
theorem dX5_hold_127 : decode cX5_hold 127 = .ok (.putfield 21, 3) := by decide +kernel
theorem dX5_hold_130 : decode cX5_hold 130 = .ok (.iinc 3 1, 3) := by decide +kernel
theorem dX5_hold_133 : decode cX5_hold 133 = .ok (.goto (-112), 3) := by decide +kernel
theorem dX5_hold_136 : decode cX5_hold 136 = .ok (.return_, 1) := by decide +kernel
theorem dX6_init_0 : decode cX6_init 0 = .ok (.aload_n 0, 1) := by decide +kernel
theorem dX6_init_1 : decode cX6_init 1 = .ok (.invokespecial 1, 3) := by decide +kernel
theorem dX6_init_4 : decode cX6_init 4 = .ok (.aload_n 0, 1) := by decide +kernel
theorem dX6_init_5 : decode cX6_init 5 = .ok (.new 7, 3) := by decide +kernel
theorem dX6_init_8 : decode cX6_init 8 = .ok (.dup, 1) := by decide +kernel
theorem dX6_init_9 : decode cX6_init 9 = .ok (.invokespecial 9, 3) := by decide +kernel
theorem dX6_init_12 : decode cX6_init 12 = .ok (.putfield 10, 3) := by decide +kernel
theorem dX6_init_15 : decode cX6_init 15 = .ok (.aload_n 0, 1) := by decide +kernel
theorem dX6_init_16 : decode cX6_init 16 = .ok (.new 7, 3) := by decide +kernel
theorem dX6_init_19 : decode cX6_init 19 = .ok (.dup, 1) := by decide +kernel
theorem dX6_init_20 : decode cX6_init 20 = .ok (.invokespecial 9, 3) := by decide +kernel
theorem dX6_init_23 : decode cX6_init 23 = .ok (.putfield 16, 3) := by decide +kernel
theorem dX6_init_26 : decode cX6_init 26 = .ok (.aload_n 0, 1) := by decide +kernel
theorem dX6_init_27 : decode cX6_init 27 = .ok (.iconst 2, 1) := by decide +kernel
theorem dX6_init_28 : decode cX6_init 28 = .ok (.anewarray 7, 3) := by decide +kernel
theorem dX6_init_31 : decode cX6_init 31 = .ok (.putfield 19, 3) := by decide +kernel
theorem dX6_init_34 : decode cX6_init 34 = .ok (.aload_n 0, 1) := by decide +kernel
theorem dX6_init_35 : decode cX6_init 35 = .ok (.iconst 2, 1) := by decide +kernel
theorem dX6_init_36 : decode cX6_init 36 = .ok (.newarray .boolean, 2) := by decide +kernel
theorem dX6_init_38 : decode cX6_init 38 = .ok (.putfield 23, 3) := by decide +kernel
theorem dX6_init_41 : decode cX6_init 41 = .ok (.iconst 0, 1) := by decide +kernel
theorem dX6_init_42 : decode cX6_init 42 = .ok (.istore_n 1, 1) := by decide +kernel
theorem dX6_init_43 : decode cX6_init 43 = .ok (.iload_n 1, 1) := by decide +kernel
theorem dX6_init_44 : decode cX6_init 44 = .ok (.iconst 2, 1) := by decide +kernel
theorem dX6_init_45 : decode cX6_init 45 = .ok (.if_icmp .ge 22, 3) := by decide +kernel
theorem dX6_init_48 : decode cX6_init 48 = .ok (.aload_n 0, 1) := by decide +kernel
theorem dX6_init_49 : decode cX6_init 49 = .ok (.getfield 19, 3) := by decide +kernel
theorem dX6_init_52 : decode cX6_init 52 = .ok (.iload_n 1, 1) := by decide +kernel
theorem dX6_init_53 : decode cX6_init 53 = .ok (.new 7, 3) := by decide +kernel
theorem dX6_init_56 : decode cX6_init 56 = .ok (.dup, 1) := by decide +kernel
theorem dX6_init_57 : decode cX6_init 57 = .ok (.invokespecial 9, 3) := by decide +kernel
theorem dX6_init_60 : decode cX6_init 60 = .ok (.aastore, 1) := by decide +kernel
theorem dX6_init_61 : decode cX6_init 61 = .ok (.iinc 1 1, 3) := by decide +kernel
theorem dX6_init_64 : decode cX6_init 64 = .ok (.goto (-21), 3) := by decide +kernel
theorem dX6_init_67 : decode cX6_init 67 = .ok (.aload_n 0, 1) := by decide +kernel
theorem dX6_init_68 : decode cX6_init 68 = .ok (.new 27, 3) := by decide +kernel
theorem dX6_init_71 : decode cX6_init 71 = .ok (.dup, 1) := by decide +kernel
theorem dX6_init_72 : decode cX6_init 72 = .ok (.invokespecial 29, 3) := by decide +kernel
theorem dX6_init_75 : decode cX6_init 75 = .ok (.putfield 30, 3) := by decide +kernel
theorem dX6_init_78 : decode cX6_init 78 = .ok (.aload_n 0, 1) := by decide +kernel
theorem dX6_init_79 : decode cX6_init 79 = .ok (.iconst 4, 1) := by decide +kernel
theorem dX6_init_80 : decode cX6_init 80 = .ok (.anewarray 34, 3) := by decide +kernel
theorem dX6_init_83 : decode cX6_init 83 = .ok (.putfield 36, 3) := by decide +kernel
theorem dX6_init_86 : decode cX6_init 86 = .ok (.iconst 0, 1) := by decide +kernel
theorem dX6_init_87 : decode cX6_init 87 = .ok (.istore_n 1, 1) := by decide +kernel
theorem dX6_init_88 : decode cX6_init 88 = .ok (.iload_n 1, 1) := by decide +kernel
theorem dX6_init_89 : decode cX6_init 89 = .ok (.iconst 4, 1) := by decide +kernel
theorem dX6_init_90 : decode cX6_init 90 = .ok (.if_icmp .ge 22, 3) := by decide +kernel
theorem dX6_init_93 : decode cX6_init 93 = .ok (.aload_n 0, 1) := by decide +kernel
theorem dX6_init_94 : decode cX6_init 94 = .ok (.getfield 36, 3) := by decide +kernel
theorem dX6_init_97 : decode cX6_init 97 = .ok (.iload_n 1, 1) := by decide +kernel
theorem dX6_init_98 : decode cX6_init 98 = .ok (.new 34, 3) := by decide +kernel
theorem dX6_init_101 : decode cX6_init 101 = .ok (.dup, 1) := by decide +kernel
theorem dX6_init_102 : decode cX6_init 102 = .ok (.invokespecial 40, 3) := by decide +kernel
theorem dX6_init_105 : decode cX6_init 105 = .ok (.aastore, 1) := by decide +kernel
theorem dX6_init_106 : decode cX6_init 106 = .ok (.iinc 1 1, 3) := by decide +kernel
theorem dX6_init_109 : decode cX6_init 109 = .ok (.goto (-21), 3) := by decide +kernel
theorem dX6_init_112 : decode cX6_init 112 = .ok (.aload_n 0, 1) := by decide +kernel
theorem dX6_init_113 : decode cX6_init 113 = .ok (.new 41, 3) := by decide +kernel
theorem dX6_init_116 : decode cX6_init 116 = .ok (.dup, 1) := by decide +kernel
theorem dX6_init_117 : decode cX6_init 117 = .ok (.invokespecial 43, 3) := by decide +kernel
theorem dX6_init_120 : decode cX6_init 120 = .ok (.putfield 44, 3) := by decide +kernel
theorem dX6_init_123 : decode cX6_init 123 = .ok (.aload_n 0, 1) := by decide +kernel
theorem dX6_init_124 : decode cX6_init 124 = .ok (.new 48, 3) := by decide +kernel
theorem dX6_init_127 : decode cX6_init 127 = .ok (.dup, 1) := by decide +kernel
theorem dX6_init_128 : decode cX6_init 128 = .ok (.invokespecial 50, 3) := by decide +kernel
theorem dX6_init_131 : decode cX6_init 131 = .ok (.putfield 51, 3) := by decide +kernel
theorem dX6_init_134 : decode cX6_init 134 = .ok (.aload_n 0, 1) := by decide +kernel
theorem dX6_init_135 : decode cX6_init 135 = .ok (.new 55, 3) := by decide +kernel
theorem dX6_init_138 : decode cX6_init 138 = .ok (.dup, 1) := by decide +kernel
theorem dX6_init_139 : decode cX6_init 139 = .ok (.invokespecial 57, 3) := by decide +kernel
theorem dX6_init_142 : decode cX6_init 142 = .ok (.putfield 58, 3) := by decide +kernel
theorem dX6_init_145 : decode cX6_init 145 = .ok (.aload_n 0, 1) := by decide +kernel
theorem dX6_init_146 : decode cX6_init 146 = .ok (.bipush 8, 2) := by decide +kernel
theorem dX6_init_148 : decode cX6_init 148 = .ok (.newarray .int, 2) := by decide +kernel
theorem dX6_init_150 : decode cX6_init 150 = .ok (.putfield 62, 3) := by decide +kernel
theorem dX6_init_153 : decode cX6_init 153 = .ok (.return_, 1) := by decide +kernel
theorem dX6_feed_0 : decode cX6_feed 0 = .ok (.iload_n 1, 1) := by decide +kernel
theorem dX6_feed_1 : decode cX6_feed 1 = .ok (.iconst 0, 1) := by decide +kernel
theorem dX6_feed_2 : decode cX6_feed 2 = .ok (.bipush 127, 2) := by decide +kernel
theorem dX6_feed_4 : decode cX6_feed 4 = .ok (.invokestatic 66, 3) := by decide +kernel
theorem dX6_feed_7 : decode cX6_feed 7 = .ok (.ifCond .ne 5, 3) := by decide +kernel
theorem dX6_feed_10 : decode cX6_feed 10 = .ok (.iconst (-1), 1) := by decide +kernel
theorem dX6_feed_11 : decode cX6_feed 11 = .ok (.ireturn, 1) := by decide +kernel
theorem dX6_feed_12 : decode cX6_feed 12 = .ok (.aload_n 0, 1) := by decide +kernel
theorem dX6_feed_13 : decode cX6_feed 13 = .ok (.getfield 30, 3) := by decide +kernel
theorem dX6_feed_16 : decode cX6_feed 16 = .ok (.iload_n 1, 1) := by decide +kernel
theorem dX6_feed_17 : decode cX6_feed 17 = .ok (.invokevirtual 70, 3) := by decide +kernel
theorem dX6_feed_20 : decode cX6_feed 20 = .ok (.ifCond .eq 13, 3) := by decide +kernel
theorem dX6_feed_23 : decode cX6_feed 23 = .ok (.aload_n 0, 1) := by decide +kernel
theorem dX6_feed_24 : decode cX6_feed 24 = .ok (.getfield 30, 3) := by decide +kernel
theorem dX6_feed_27 : decode cX6_feed 27 = .ok (.getfield 74, 3) := by decide +kernel
theorem dX6_feed_30 : decode cX6_feed 30 = .ok (.goto 5, 3) := by decide +kernel
theorem dX6_feed_33 : decode cX6_feed 33 = .ok (.bipush (-3), 2) := by decide +kernel
theorem dX6_feed_35 : decode cX6_feed 35 = .ok (.ireturn, 1) := by decide +kernel
theorem dX6_end_0 : decode cX6_end 0 = .ok (.iload_n 1, 1) := by decide +kernel
theorem dX6_end_1 : decode cX6_end 1 = .ok (.iconst 0, 1) := by decide +kernel
theorem dX6_end_2 : decode cX6_end 2 = .ok (.aload_n 0, 1) := by decide +kernel
theorem dX6_end_3 : decode cX6_end 3 = .ok (.getfield 30, 3) := by decide +kernel
theorem dX6_end_6 : decode cX6_end 6 = .ok (.getfield 74, 3) := by decide +kernel
theorem dX6_end_9 : decode cX6_end 9 = .ok (.invokestatic 66, 3) := by decide +kernel
theorem dX6_end_12 : decode cX6_end 12 = .ok (.ifCond .ne 5, 3) := by decide +kernel
theorem dX6_end_15 : decode cX6_end 15 = .ok (.iconst (-1), 1) := by decide +kernel
theorem dX6_end_16 : decode cX6_end 16 = .ok (.ireturn, 1) := by decide +kernel
theorem dX6_end_17 : decode cX6_end 17 = .ok (.aload_n 0, 1) := by decide +kernel
theorem dX6_end_18 : decode cX6_end 18 = .ok (.getfield 30, 3) := by decide +kernel
theorem dX6_end_21 : decode cX6_end 21 = .ok (.getfield 74, 3) := by decide +kernel
theorem dX6_end_24 : decode cX6_end 24 = .ok (.istore_n 2, 1) := by decide +kernel
theorem dX6_end_25 : decode cX6_end 25 = .ok (.aload_n 0, 1) := by decide +kernel
theorem dX6_end_26 : decode cX6_end 26 = .ok (.getfield 30, 3) := by decide +kernel
theorem dX6_end_29 : decode cX6_end 29 = .ok (.iload_n 1, 1) := by decide +kernel
theorem dX6_end_30 : decode cX6_end 30 = .ok (.putfield 74, 3) := by decide +kernel
theorem dX6_end_33 : decode cX6_end 33 = .ok (.iload_n 2, 1) := by decide +kernel
theorem dX6_end_34 : decode cX6_end 34 = .ok (.ireturn, 1) := by decide +kernel
theorem dX6_text_0 : decode cX6_text 0 = .ok (.aload_n 0, 1) := by decide +kernel
theorem dX6_text_1 : decode cX6_text 1 = .ok (.getfield 30, 3) := by decide +kernel
theorem dX6_text_4 : decode cX6_text 4 = .ok (.aload_n 0, 1) := by decide +kernel
theorem dX6_text_5 : decode cX6_text 5 = .ok (.getfield 16, 3) := by decide +kernel
theorem dX6_text_8 : decode cX6_text 8 = .ok (.invokevirtual 78, 3) := by decide +kernel
theorem dX6_text_11 : decode cX6_text 11 = .ok (.istore_n 1, 1) := by decide +kernel
theorem dX6_text_12 : decode cX6_text 12 = .ok (.aload_n 0, 1) := by decide +kernel
theorem dX6_text_13 : decode cX6_text 13 = .ok (.aload_n 0, 1) := by decide +kernel
theorem dX6_text_14 : decode cX6_text 14 = .ok (.getfield 30, 3) := by decide +kernel
theorem dX6_text_17 : decode cX6_text 17 = .ok (.getfield 82, 3) := by decide +kernel
theorem dX6_text_20 : decode cX6_text 20 = .ok (.putfield 85, 3) := by decide +kernel
theorem dX6_text_23 : decode cX6_text 23 = .ok (.aload_n 0, 1) := by decide +kernel
theorem dX6_text_24 : decode cX6_text 24 = .ok (.getfield 85, 3) := by decide +kernel
theorem dX6_text_27 : decode cX6_text 27 = .ok (.ifCond .eq 14, 3) := by decide +kernel
theorem dX6_text_30 : decode cX6_text 30 = .ok (.bipush (-10), 2) := by decide +kernel
theorem dX6_text_32 : decode cX6_text 32 = .ok (.aload_n 0, 1) := by decide +kernel
theorem dX6_text_33 : decode cX6_text 33 = .ok (.getfield 30, 3) := by decide +kernel
theorem dX6_text_36 : decode cX6_text 36 = .ok (.getfield 88, 3) := by decide +kernel
theorem dX6_text_39 : decode cX6_text 39 = .ok (.isub, 1) := by decide +kernel
theorem dX6_text_40 : decode cX6_text 40 = .ok (.ireturn, 1) := by decide +kernel
theorem dX6_text_41 : decode cX6_text 41 = .ok (.aload_n 0, 1) := by decide +kernel
theorem dX6_text_42 : decode cX6_text 42 = .ok (.getfield 10, 3) := by decide +kernel
theorem dX6_text_45 : decode cX6_text 45 = .ok (.aload_n 0, 1) := by decide +kernel
theorem dX6_text_46 : decode cX6_text 46 = .ok (.getfield 16, 3) := by decide +kernel
theorem dX6_text_49 : decode cX6_text 49 = .ok (.invokevirtual 91, 3) := by decide +kernel
theorem dX6_text_52 : decode cX6_text 52 = .ok (.iconst 0, 1) := by decide +kernel
theorem dX6_text_53 : decode cX6_text 53 = .ok (.istore_n 2, 1) := by decide +kernel
theorem dX6_text_54 : decode cX6_text 54 = .ok (.iload_n 2, 1) := by decide +kernel
theorem dX6_text_55 : decode cX6_text 55 = .ok (.iconst 2, 1) := by decide +kernel
theorem dX6_text_56 : decode cX6_text 56 = .ok (.if_icmp .ge 16, 3) := by decide +kernel
theorem dX6_text_59 : decode cX6_text 59 = .ok (.aload_n 0, 1) := by decide +kernel
theorem dX6_text_60 : decode cX6_text 60 = .ok (.getfield 23, 3) := by decide +kernel
theorem dX6_text_63 : decode cX6_text 63 = .ok (.iload_n 2, 1) := by decide +kernel
theorem dX6_text_64 : decode cX6_text 64 = .ok (.iconst 0, 1) := by decide +kernel
theorem dX6_text_65 : decode cX6_text 65 = .ok (.bastore, 1) := by decide +kernel
theorem dX6_text_66 : decode cX6_text 66 = .ok (.iinc 2 1, 3) := by decide +kernel
theorem dX6_text_69 : decode cX6_text 69 = .ok (.goto (-15), 3) := by decide +kernel
theorem dX6_text_72 : decode cX6_text 72 = .ok (.iload_n 1, 1) := by decide +kernel
theorem dX6_text_73 : decode cX6_text 73 = .ok (.ireturn, 1) := by decide +kernel
theorem dX6_fault_0 : decode cX6_fault 0 = .ok (.aload_n 0, 1) := by decide +kernel
theorem dX6_fault_1 : decode cX6_fault 1 = .ok (.getfield 85, 3) := by decide +kernel
theorem dX6_fault_4 : decode cX6_fault 4 = .ok (.ireturn, 1) := by decide +kernel
theorem dX6_rule_0 : decode cX6_rule 0 = .ok (.iload_n 1, 1) := by decide +kernel
theorem dX6_rule_1 : decode cX6_rule 1 = .ok (.tableswitch 109 0 5 #[39, 47, 70, 78, 86, 101], 39) := by decide +kernel
theorem dX6_rule_40 : decode cX6_rule 40 = .ok (.aload_n 0, 1) := by decide +kernel
theorem dX6_rule_41 : decode cX6_rule 41 = .ok (.getfield 10, 3) := by decide +kernel
theorem dX6_rule_44 : decode cX6_rule 44 = .ok (.getfield 95, 3) := by decide +kernel
theorem dX6_rule_47 : decode cX6_rule 47 = .ok (.ireturn, 1) := by decide +kernel
theorem dX6_rule_48 : decode cX6_rule 48 = .ok (.aload_n 0, 1) := by decide +kernel
theorem dX6_rule_49 : decode cX6_rule 49 = .ok (.getfield 10, 3) := by decide +kernel
theorem dX6_rule_52 : decode cX6_rule 52 = .ok (.getfield 95, 3) := by decide +kernel
theorem dX6_rule_55 : decode cX6_rule 55 = .ok (.ifCond .ne 8, 3) := by decide +kernel
theorem dX6_rule_58 : decode cX6_rule 58 = .ok (.bipush (-4), 2) := by decide +kernel
theorem dX6_rule_60 : decode cX6_rule 60 = .ok (.goto 10, 3) := by decide +kernel
theorem dX6_rule_63 : decode cX6_rule 63 = .ok (.aload_n 0, 1) := by decide +kernel
theorem dX6_rule_64 : decode cX6_rule 64 = .ok (.getfield 10, 3) := by decide +kernel
theorem dX6_rule_67 : decode cX6_rule 67 = .ok (.getfield 98, 3) := by decide +kernel
theorem dX6_rule_70 : decode cX6_rule 70 = .ok (.ireturn, 1) := by decide +kernel
theorem dX6_rule_71 : decode cX6_rule 71 = .ok (.aload_n 0, 1) := by decide +kernel
theorem dX6_rule_72 : decode cX6_rule 72 = .ok (.getfield 10, 3) := by decide +kernel
theorem dX6_rule_75 : decode cX6_rule 75 = .ok (.getfield 101, 3) := by decide +kernel
theorem dX6_rule_78 : decode cX6_rule 78 = .ok (.ireturn, 1) := by decide +kernel
theorem dX6_rule_79 : decode cX6_rule 79 = .ok (.aload_n 0, 1) := by decide +kernel
theorem dX6_rule_80 : decode cX6_rule 80 = .ok (.getfield 10, 3) := by decide +kernel
theorem dX6_rule_83 : decode cX6_rule 83 = .ok (.getfield 104, 3) := by decide +kernel
theorem dX6_rule_86 : decode cX6_rule 86 = .ok (.ireturn, 1) := by decide +kernel
theorem dX6_rule_87 : decode cX6_rule 87 = .ok (.aload_n 0, 1) := by decide +kernel
theorem dX6_rule_88 : decode cX6_rule 88 = .ok (.getfield 10, 3) := by decide +kernel
theorem dX6_rule_91 : decode cX6_rule 91 = .ok (.aload_n 0, 1) := by decide +kernel
theorem dX6_rule_92 : decode cX6_rule 92 = .ok (.getfield 10, 3) := by decide +kernel
theorem dX6_rule_95 : decode cX6_rule 95 = .ok (.getfield 104, 3) := by decide +kernel
theorem dX6_rule_98 : decode cX6_rule 98 = .ok (.invokevirtual 107, 3) := by decide +kernel
theorem dX6_rule_101 : decode cX6_rule 101 = .ok (.ireturn, 1) := by decide +kernel
theorem dX6_rule_102 : decode cX6_rule 102 = .ok (.aload_n 0, 1) := by decide +kernel
theorem dX6_rule_103 : decode cX6_rule 103 = .ok (.getfield 10, 3) := by decide +kernel
theorem dX6_rule_106 : decode cX6_rule 106 = .ok (.getfield 111, 3) := by decide +kernel
theorem dX6_rule_109 : decode cX6_rule 109 = .ok (.ireturn, 1) := by decide +kernel
theorem dX6_rule_110 : decode cX6_rule 110 = .ok (.iconst (-1), 1) := by decide +kernel
theorem dX6_rule_111 : decode cX6_rule 111 = .ok (.ireturn, 1) := by decide +kernel
theorem dX6_claim_0 : decode cX6_claim 0 = .ok (.aload_n 0, 1) := by decide +kernel
theorem dX6_claim_1 : decode cX6_claim 1 = .ok (.getfield 10, 3) := by decide +kernel
theorem dX6_claim_4 : decode cX6_claim 4 = .ok (.iload_n 1, 1) := by decide +kernel
theorem dX6_claim_5 : decode cX6_claim 5 = .ok (.invokevirtual 114, 3) := by decide +kernel
theorem dX6_claim_8 : decode cX6_claim 8 = .ok (.ifCond .ne 5, 3) := by decide +kernel
theorem dX6_claim_11 : decode cX6_claim 11 = .ok (.iconst (-1), 1) := by decide +kernel
theorem dX6_claim_12 : decode cX6_claim 12 = .ok (.ireturn, 1) := by decide +kernel
theorem dX6_claim_13 : decode cX6_claim 13 = .ok (.iload_n 2, 1) := by decide +kernel
theorem dX6_claim_14 : decode cX6_claim 14 = .ok (.tableswitch 121 0 6 #[42, 52, 62, 72, 82, 92, 102], 42) := by decide +kernel
theorem dX6_claim_56 : decode cX6_claim 56 = .ok (.aload_n 0, 1) := by decide +kernel
theorem dX6_claim_57 : decode cX6_claim 57 = .ok (.getfield 10, 3) := by decide +kernel
theorem dX6_claim_60 : decode cX6_claim 60 = .ok (.getfield 117, 3) := by decide +kernel
theorem dX6_claim_63 : decode cX6_claim 63 = .ok (.iload_n 1, 1) := by decide +kernel
theorem dX6_claim_64 : decode cX6_claim 64 = .ok (.iaload, 1) := by decide +kernel
theorem dX6_claim_65 : decode cX6_claim 65 = .ok (.ireturn, 1) := by decide +kernel
theorem dX6_claim_66 : decode cX6_claim 66 = .ok (.aload_n 0, 1) := by decide +kernel
theorem dX6_claim_67 : decode cX6_claim 67 = .ok (.getfield 10, 3) := by decide +kernel
theorem dX6_claim_70 : decode cX6_claim 70 = .ok (.getfield 120, 3) := by decide +kernel
theorem dX6_claim_73 : decode cX6_claim 73 = .ok (.iload_n 1, 1) := by decide +kernel
theorem dX6_claim_74 : decode cX6_claim 74 = .ok (.iaload, 1) := by decide +kernel
theorem dX6_claim_75 : decode cX6_claim 75 = .ok (.ireturn, 1) := by decide +kernel
theorem dX6_claim_76 : decode cX6_claim 76 = .ok (.aload_n 0, 1) := by decide +kernel
theorem dX6_claim_77 : decode cX6_claim 77 = .ok (.getfield 10, 3) := by decide +kernel
theorem dX6_claim_80 : decode cX6_claim 80 = .ok (.getfield 123, 3) := by decide +kernel
theorem dX6_claim_83 : decode cX6_claim 83 = .ok (.iload_n 1, 1) := by decide +kernel
theorem dX6_claim_84 : decode cX6_claim 84 = .ok (.iaload, 1) := by decide +kernel
theorem dX6_claim_85 : decode cX6_claim 85 = .ok (.ireturn, 1) := by decide +kernel
theorem dX6_claim_86 : decode cX6_claim 86 = .ok (.aload_n 0, 1) := by decide +kernel
theorem dX6_claim_87 : decode cX6_claim 87 = .ok (.getfield 10, 3) := by decide +kernel
theorem dX6_claim_90 : decode cX6_claim 90 = .ok (.getfield 126, 3) := by decide +kernel
theorem dX6_claim_93 : decode cX6_claim 93 = .ok (.iload_n 1, 1) := by decide +kernel
theorem dX6_claim_94 : decode cX6_claim 94 = .ok (.iaload, 1) := by decide +kernel
theorem dX6_claim_95 : decode cX6_claim 95 = .ok (.ireturn, 1) := by decide +kernel
theorem dX6_claim_96 : decode cX6_claim 96 = .ok (.aload_n 0, 1) := by decide +kernel
theorem dX6_claim_97 : decode cX6_claim 97 = .ok (.getfield 10, 3) := by decide +kernel
theorem dX6_claim_100 : decode cX6_claim 100 = .ok (.getfield 129, 3) := by decide +kernel
theorem dX6_claim_103 : decode cX6_claim 103 = .ok (.iload_n 1, 1) := by decide +kernel
theorem dX6_claim_104 : decode cX6_claim 104 = .ok (.iaload, 1) := by decide +kernel
theorem dX6_claim_105 : decode cX6_claim 105 = .ok (.ireturn, 1) := by decide +kernel
theorem dX6_claim_106 : decode cX6_claim 106 = .ok (.aload_n 0, 1) := by decide +kernel
theorem dX6_claim_107 : decode cX6_claim 107 = .ok (.getfield 10, 3) := by decide +kernel
theorem dX6_claim_110 : decode cX6_claim 110 = .ok (.getfield 132, 3) := by decide +kernel
theorem dX6_claim_113 : decode cX6_claim 113 = .ok (.iload_n 1, 1) := by decide +kernel
theorem dX6_claim_114 : decode cX6_claim 114 = .ok (.iaload, 1) := by decide +kernel
theorem dX6_claim_115 : decode cX6_claim 115 = .ok (.ireturn, 1) := by decide +kernel
theorem dX6_claim_116 : decode cX6_claim 116 = .ok (.aload_n 0, 1) := by decide +kernel
theorem dX6_claim_117 : decode cX6_claim 117 = .ok (.getfield 10, 3) := by decide +kernel
theorem dX6_claim_120 : decode cX6_claim 120 = .ok (.aload_n 0, 1) := by decide +kernel
theorem dX6_claim_121 : decode cX6_claim 121 = .ok (.getfield 10, 3) := by decide +kernel
theorem dX6_claim_124 : decode cX6_claim 124 = .ok (.getfield 104, 3) := by decide +kernel
theorem dX6_claim_127 : decode cX6_claim 127 = .ok (.invokevirtual 107, 3) := by decide +kernel
theorem dX6_claim_130 : decode cX6_claim 130 = .ok (.iload_n 1, 1) := by decide +kernel
theorem dX6_claim_131 : decode cX6_claim 131 = .ok (.ishr, 1) := by decide +kernel
theorem dX6_claim_132 : decode cX6_claim 132 = .ok (.iconst 1, 1) := by decide +kernel
theorem dX6_claim_133 : decode cX6_claim 133 = .ok (.iand, 1) := by decide +kernel
theorem dX6_claim_134 : decode cX6_claim 134 = .ok (.ireturn, 1) := by decide +kernel
theorem dX6_claim_135 : decode cX6_claim 135 = .ok (.iconst (-1), 1) := by decide +kernel
theorem dX6_claim_136 : decode cX6_claim 136 = .ok (.ireturn, 1) := by decide +kernel
theorem dX6_plan_0 : decode cX6_plan 0 = .ok (.iload_n 1, 1) := by decide +kernel
theorem dX6_plan_1 : decode cX6_plan 1 = .ok (.iconst 0, 1) := by decide +kernel
theorem dX6_plan_2 : decode cX6_plan 2 = .ok (.aload_n 0, 1) := by decide +kernel
theorem dX6_plan_3 : decode cX6_plan 3 = .ok (.getfield 10, 3) := by decide +kernel
theorem dX6_plan_6 : decode cX6_plan 6 = .ok (.getfield 111, 3) := by decide +kernel
theorem dX6_plan_9 : decode cX6_plan 9 = .ok (.iconst 1, 1) := by decide +kernel
theorem dX6_plan_10 : decode cX6_plan 10 = .ok (.isub, 1) := by decide +kernel
theorem dX6_plan_11 : decode cX6_plan 11 = .ok (.invokestatic 66, 3) := by decide +kernel
theorem dX6_plan_14 : decode cX6_plan 14 = .ok (.ifCond .eq 15, 3) := by decide +kernel
theorem dX6_plan_17 : decode cX6_plan 17 = .ok (.aload_n 0, 1) := by decide +kernel
theorem dX6_plan_18 : decode cX6_plan 18 = .ok (.getfield 10, 3) := by decide +kernel
theorem dX6_plan_21 : decode cX6_plan 21 = .ok (.getfield 135, 3) := by decide +kernel
theorem dX6_plan_24 : decode cX6_plan 24 = .ok (.iload_n 1, 1) := by decide +kernel
theorem dX6_plan_25 : decode cX6_plan 25 = .ok (.iaload, 1) := by decide +kernel
theorem dX6_plan_26 : decode cX6_plan 26 = .ok (.goto 4, 3) := by decide +kernel
theorem dX6_plan_29 : decode cX6_plan 29 = .ok (.iconst (-1), 1) := by decide +kernel
theorem dX6_plan_30 : decode cX6_plan 30 = .ok (.ireturn, 1) := by decide +kernel
theorem dX6_say_0 : decode cX6_say 0 = .ok (.aload_n 0, 1) := by decide +kernel
theorem dX6_say_1 : decode cX6_say 1 = .ok (.getfield 10, 3) := by decide +kernel
theorem dX6_say_4 : decode cX6_say 4 = .ok (.iload_n 1, 1) := by decide +kernel
theorem dX6_say_5 : decode cX6_say 5 = .ok (.invokevirtual 114, 3) := by decide +kernel
theorem dX6_say_8 : decode cX6_say 8 = .ok (.ifCond .ne 5, 3) := by decide +kernel
theorem dX6_say_11 : decode cX6_say 11 = .ok (.iconst (-1), 1) := by decide +kernel
theorem dX6_say_12 : decode cX6_say 12 = .ok (.ireturn, 1) := by decide +kernel
theorem dX6_say_13 : decode cX6_say 13 = .ok (.aload_n 0, 1) := by decide +kernel
theorem dX6_say_14 : decode cX6_say 14 = .ok (.getfield 10, 3) := by decide +kernel
theorem dX6_say_17 : decode cX6_say 17 = .ok (.iload_n 1, 1) := by decide +kernel
theorem dX6_say_18 : decode cX6_say 18 = .ok (.invokevirtual 138, 3) := by decide +kernel
theorem dX6_say_21 : decode cX6_say 21 = .ok (.ifCond .ne 21, 3) := by decide +kernel
theorem dX6_say_24 : decode cX6_say 24 = .ok (.aload_n 0, 1) := by decide +kernel
theorem dX6_say_25 : decode cX6_say 25 = .ok (.getfield 10, 3) := by decide +kernel
theorem dX6_say_28 : decode cX6_say 28 = .ok (.iload_n 1, 1) := by decide +kernel
theorem dX6_say_29 : decode cX6_say 29 = .ok (.aload_n 0, 1) := by decide +kernel
theorem dX6_say_30 : decode cX6_say 30 = .ok (.getfield 10, 3) := by decide +kernel
theorem dX6_say_33 : decode cX6_say 33 = .ok (.getfield 101, 3) := by decide +kernel
theorem dX6_say_36 : decode cX6_say 36 = .ok (.invokevirtual 141, 3) := by decide +kernel
theorem dX6_say_39 : decode cX6_say 39 = .ok (.ifCond .ne 6, 3) := by decide +kernel
theorem dX6_say_42 : decode cX6_say 42 = .ok (.bipush (-2), 2) := by decide +kernel
theorem dX6_say_44 : decode cX6_say 44 = .ok (.ireturn, 1) := by decide +kernel
theorem dX6_say_45 : decode cX6_say 45 = .ok (.aload_n 0, 1) := by decide +kernel
theorem dX6_say_46 : decode cX6_say 46 = .ok (.getfield 10, 3) := by decide +kernel
theorem dX6_say_49 : decode cX6_say 49 = .ok (.dup, 1) := by decide +kernel
theorem dX6_say_50 : decode cX6_say 50 = .ok (.getfield 104, 3) := by decide +kernel
theorem dX6_say_53 : decode cX6_say 53 = .ok (.iconst 1, 1) := by decide +kernel
theorem dX6_say_54 : decode cX6_say 54 = .ok (.iload_n 1, 1) := by decide +kernel
theorem dX6_say_55 : decode cX6_say 55 = .ok (.ishl, 1) := by decide +kernel
theorem dX6_say_56 : decode cX6_say 56 = .ok (.ior, 1) := by decide +kernel
theorem dX6_say_57 : decode cX6_say 57 = .ok (.putfield 104, 3) := by decide +kernel
theorem dX6_say_60 : decode cX6_say 60 = .ok (.aload_n 0, 1) := by decide +kernel
theorem dX6_say_61 : decode cX6_say 61 = .ok (.getfield 10, 3) := by decide +kernel
theorem dX6_say_64 : decode cX6_say 64 = .ok (.aload_n 0, 1) := by decide +kernel
theorem dX6_say_65 : decode cX6_say 65 = .ok (.getfield 10, 3) := by decide +kernel
theorem dX6_say_68 : decode cX6_say 68 = .ok (.getfield 104, 3) := by decide +kernel
theorem dX6_say_71 : decode cX6_say 71 = .ok (.invokevirtual 107, 3) := by decide +kernel
theorem dX6_say_74 : decode cX6_say 74 = .ok (.invokestatic 145, 3) := by decide +kernel
theorem dX6_say_77 : decode cX6_say 77 = .ok (.ireturn, 1) := by decide +kernel
theorem dX6_drop_0 : decode cX6_drop 0 = .ok (.aload_n 0, 1) := by decide +kernel
theorem dX6_drop_1 : decode cX6_drop 1 = .ok (.getfield 10, 3) := by decide +kernel
theorem dX6_drop_4 : decode cX6_drop 4 = .ok (.iload_n 1, 1) := by decide +kernel
theorem dX6_drop_5 : decode cX6_drop 5 = .ok (.invokevirtual 114, 3) := by decide +kernel
theorem dX6_drop_8 : decode cX6_drop 8 = .ok (.ifCond .ne 5, 3) := by decide +kernel
theorem dX6_drop_11 : decode cX6_drop 11 = .ok (.iconst (-1), 1) := by decide +kernel
theorem dX6_drop_12 : decode cX6_drop 12 = .ok (.ireturn, 1) := by decide +kernel
theorem dX6_drop_13 : decode cX6_drop 13 = .ok (.aload_n 0, 1) := by decide +kernel
theorem dX6_drop_14 : decode cX6_drop 14 = .ok (.getfield 10, 3) := by decide +kernel
theorem dX6_drop_17 : decode cX6_drop 17 = .ok (.iload_n 1, 1) := by decide +kernel
theorem dX6_drop_18 : decode cX6_drop 18 = .ok (.invokevirtual 138, 3) := by decide +kernel
theorem dX6_drop_21 : decode cX6_drop 21 = .ok (.ifCond .ne 6, 3) := by decide +kernel
theorem dX6_drop_24 : decode cX6_drop 24 = .ok (.bipush (-2), 2) := by decide +kernel
theorem dX6_drop_26 : decode cX6_drop 26 = .ok (.ireturn, 1) := by decide +kernel
theorem dX6_drop_27 : decode cX6_drop 27 = .ok (.aload_n 0, 1) := by decide +kernel
theorem dX6_drop_28 : decode cX6_drop 28 = .ok (.getfield 10, 3) := by decide +kernel
theorem dX6_drop_31 : decode cX6_drop 31 = .ok (.dup, 1) := by decide +kernel
theorem dX6_drop_32 : decode cX6_drop 32 = .ok (.getfield 104, 3) := by decide +kernel
theorem dX6_drop_35 : decode cX6_drop 35 = .ok (.iconst 1, 1) := by decide +kernel
theorem dX6_drop_36 : decode cX6_drop 36 = .ok (.iload_n 1, 1) := by decide +kernel
theorem dX6_drop_37 : decode cX6_drop 37 = .ok (.ishl, 1) := by decide +kernel
theorem dX6_drop_38 : decode cX6_drop 38 = .ok (.iconst (-1), 1) := by decide +kernel
theorem dX6_drop_39 : decode cX6_drop 39 = .ok (.ixor, 1) := by decide +kernel
theorem dX6_drop_40 : decode cX6_drop 40 = .ok (.iand, 1) := by decide +kernel
theorem dX6_drop_41 : decode cX6_drop 41 = .ok (.putfield 104, 3) := by decide +kernel
theorem dX6_drop_44 : decode cX6_drop 44 = .ok (.aload_n 0, 1) := by decide +kernel
theorem dX6_drop_45 : decode cX6_drop 45 = .ok (.getfield 10, 3) := by decide +kernel
theorem dX6_drop_48 : decode cX6_drop 48 = .ok (.aload_n 0, 1) := by decide +kernel
theorem dX6_drop_49 : decode cX6_drop 49 = .ok (.getfield 10, 3) := by decide +kernel
theorem dX6_drop_52 : decode cX6_drop 52 = .ok (.getfield 104, 3) := by decide +kernel
theorem dX6_drop_55 : decode cX6_drop 55 = .ok (.invokevirtual 107, 3) := by decide +kernel
theorem dX6_drop_58 : decode cX6_drop 58 = .ok (.invokestatic 145, 3) := by decide +kernel
theorem dX6_drop_61 : decode cX6_drop 61 = .ok (.ireturn, 1) := by decide +kernel
theorem dX6_day_0 : decode cX6_day 0 = .ok (.iload_n 1, 1) := by decide +kernel
theorem dX6_day_1 : decode cX6_day 1 = .ok (.iconst 0, 1) := by decide +kernel
theorem dX6_day_2 : decode cX6_day 2 = .ok (.bipush 9, 2) := by decide +kernel
theorem dX6_day_4 : decode cX6_day 4 = .ok (.invokestatic 66, 3) := by decide +kernel
theorem dX6_day_7 : decode cX6_day 7 = .ok (.ifCond .ne 5, 3) := by decide +kernel
theorem dX6_day_10 : decode cX6_day 10 = .ok (.iconst (-1), 1) := by decide +kernel
theorem dX6_day_11 : decode cX6_day 11 = .ok (.ireturn, 1) := by decide +kernel
theorem dX6_day_12 : decode cX6_day 12 = .ok (.aload_n 0, 1) := by decide +kernel
theorem dX6_day_13 : decode cX6_day 13 = .ok (.getfield 10, 3) := by decide +kernel
theorem dX6_day_16 : decode cX6_day 16 = .ok (.getfield 101, 3) := by decide +kernel
theorem dX6_day_19 : decode cX6_day 19 = .ok (.istore_n 2, 1) := by decide +kernel
theorem dX6_day_20 : decode cX6_day 20 = .ok (.aload_n 0, 1) := by decide +kernel
theorem dX6_day_21 : decode cX6_day 21 = .ok (.getfield 10, 3) := by decide +kernel
theorem dX6_day_24 : decode cX6_day 24 = .ok (.iload_n 1, 1) := by decide +kernel
theorem dX6_day_25 : decode cX6_day 25 = .ok (.putfield 101, 3) := by decide +kernel
theorem dX6_day_28 : decode cX6_day 28 = .ok (.iload_n 2, 1) := by decide +kernel
theorem dX6_day_29 : decode cX6_day 29 = .ok (.ireturn, 1) := by decide +kernel
theorem dX6_aim_0 : decode cX6_aim 0 = .ok (.aload_n 0, 1) := by decide +kernel
theorem dX6_aim_1 : decode cX6_aim 1 = .ok (.getfield 10, 3) := by decide +kernel
theorem dX6_aim_4 : decode cX6_aim 4 = .ok (.iload_n 1, 1) := by decide +kernel
theorem dX6_aim_5 : decode cX6_aim 5 = .ok (.invokevirtual 114, 3) := by decide +kernel
theorem dX6_aim_8 : decode cX6_aim 8 = .ok (.ifCond .ne 5, 3) := by decide +kernel
theorem dX6_aim_11 : decode cX6_aim 11 = .ok (.iconst (-1), 1) := by decide +kernel
theorem dX6_aim_12 : decode cX6_aim 12 = .ok (.ireturn, 1) := by decide +kernel
theorem dX6_aim_13 : decode cX6_aim 13 = .ok (.aload_n 0, 1) := by decide +kernel
theorem dX6_aim_14 : decode cX6_aim 14 = .ok (.getfield 10, 3) := by decide +kernel
theorem dX6_aim_17 : decode cX6_aim 17 = .ok (.getfield 98, 3) := by decide +kernel
theorem dX6_aim_20 : decode cX6_aim 20 = .ok (.istore_n 2, 1) := by decide +kernel
theorem dX6_aim_21 : decode cX6_aim 21 = .ok (.aload_n 0, 1) := by decide +kernel
theorem dX6_aim_22 : decode cX6_aim 22 = .ok (.getfield 10, 3) := by decide +kernel
theorem dX6_aim_25 : decode cX6_aim 25 = .ok (.iload_n 1, 1) := by decide +kernel
theorem dX6_aim_26 : decode cX6_aim 26 = .ok (.putfield 98, 3) := by decide +kernel
theorem dX6_aim_29 : decode cX6_aim 29 = .ok (.iload_n 2, 1) := by decide +kernel
theorem dX6_aim_30 : decode cX6_aim 30 = .ok (.ireturn, 1) := by decide +kernel
theorem dX6_leans_0 : decode cX6_leans 0 = .ok (.aload_n 0, 1) := by decide +kernel
theorem dX6_leans_1 : decode cX6_leans 1 = .ok (.getfield 10, 3) := by decide +kernel
theorem dX6_leans_4 : decode cX6_leans 4 = .ok (.iload_n 1, 1) := by decide +kernel
theorem dX6_leans_5 : decode cX6_leans 5 = .ok (.invokevirtual 114, 3) := by decide +kernel
theorem dX6_leans_8 : decode cX6_leans 8 = .ok (.ifCond .eq 26, 3) := by decide +kernel
theorem dX6_leans_11 : decode cX6_leans 11 = .ok (.aload_n 0, 1) := by decide +kernel
theorem dX6_leans_12 : decode cX6_leans 12 = .ok (.getfield 10, 3) := by decide +kernel
theorem dX6_leans_15 : decode cX6_leans 15 = .ok (.getfield 129, 3) := by decide +kernel
theorem dX6_leans_18 : decode cX6_leans 18 = .ok (.aload_n 0, 1) := by decide +kernel
theorem dX6_leans_19 : decode cX6_leans 19 = .ok (.getfield 10, 3) := by decide +kernel
theorem dX6_leans_22 : decode cX6_leans 22 = .ok (.getfield 132, 3) := by decide +kernel
theorem dX6_leans_25 : decode cX6_leans 25 = .ok (.iload_n 1, 1) := by decide +kernel
theorem dX6_leans_26 : decode cX6_leans 26 = .ok (.iload_n 2, 1) := by decide +kernel
theorem dX6_leans_27 : decode cX6_leans 27 = .ok (.iload_n 3, 1) := by decide +kernel
theorem dX6_leans_28 : decode cX6_leans 28 = .ok (.invokestatic 150, 3) := by decide +kernel
theorem dX6_leans_31 : decode cX6_leans 31 = .ok (.goto 4, 3) := by decide +kernel
theorem dX6_leans_34 : decode cX6_leans 34 = .ok (.iconst (-1), 1) := by decide +kernel
theorem dX6_leans_35 : decode cX6_leans 35 = .ok (.ireturn, 1) := by decide +kernel
theorem dX6_falls_0 : decode cX6_falls 0 = .ok (.aload_n 0, 1) := by decide +kernel
theorem dX6_falls_1 : decode cX6_falls 1 = .ok (.getfield 10, 3) := by decide +kernel
theorem dX6_falls_4 : decode cX6_falls 4 = .ok (.iload_n 1, 1) := by decide +kernel
theorem dX6_falls_5 : decode cX6_falls 5 = .ok (.invokevirtual 114, 3) := by decide +kernel
theorem dX6_falls_8 : decode cX6_falls 8 = .ok (.ifCond .eq 26, 3) := by decide +kernel
theorem dX6_falls_11 : decode cX6_falls 11 = .ok (.aload_n 0, 1) := by decide +kernel
theorem dX6_falls_12 : decode cX6_falls 12 = .ok (.getfield 10, 3) := by decide +kernel
theorem dX6_falls_15 : decode cX6_falls 15 = .ok (.getfield 132, 3) := by decide +kernel
theorem dX6_falls_18 : decode cX6_falls 18 = .ok (.aload_n 0, 1) := by decide +kernel
theorem dX6_falls_19 : decode cX6_falls 19 = .ok (.getfield 10, 3) := by decide +kernel
theorem dX6_falls_22 : decode cX6_falls 22 = .ok (.getfield 129, 3) := by decide +kernel
theorem dX6_falls_25 : decode cX6_falls 25 = .ok (.iload_n 1, 1) := by decide +kernel
theorem dX6_falls_26 : decode cX6_falls 26 = .ok (.iload_n 2, 1) := by decide +kernel
theorem dX6_falls_27 : decode cX6_falls 27 = .ok (.iload_n 3, 1) := by decide +kernel
theorem dX6_falls_28 : decode cX6_falls 28 = .ok (.invokestatic 150, 3) := by decide +kernel
theorem dX6_falls_31 : decode cX6_falls 31 = .ok (.goto 4, 3) := by decide +kernel
theorem dX6_falls_34 : decode cX6_falls 34 = .ok (.iconst (-1), 1) := by decide +kernel
theorem dX6_falls_35 : decode cX6_falls 35 = .ok (.ireturn, 1) := by decide +kernel
theorem dX6_yards_0 : decode cX6_yards 0 = .ok (.aload_n 0, 1) := by decide +kernel
theorem dX6_yards_1 : decode cX6_yards 1 = .ok (.getfield 10, 3) := by decide +kernel
theorem dX6_yards_4 : decode cX6_yards 4 = .ok (.iload_n 1, 1) := by decide +kernel
theorem dX6_yards_5 : decode cX6_yards 5 = .ok (.invokevirtual 114, 3) := by decide +kernel
theorem dX6_yards_8 : decode cX6_yards 8 = .ok (.ifCond .eq 13, 3) := by decide +kernel
theorem dX6_yards_11 : decode cX6_yards 11 = .ok (.iload_n 2, 1) := by decide +kernel
theorem dX6_yards_12 : decode cX6_yards 12 = .ok (.iconst 0, 1) := by decide +kernel
theorem dX6_yards_13 : decode cX6_yards 13 = .ok (.bipush 9, 2) := by decide +kernel
theorem dX6_yards_15 : decode cX6_yards 15 = .ok (.invokestatic 66, 3) := by decide +kernel
theorem dX6_yards_18 : decode cX6_yards 18 = .ok (.ifCond .ne 5, 3) := by decide +kernel
theorem dX6_yards_21 : decode cX6_yards 21 = .ok (.iconst (-1), 1) := by decide +kernel
theorem dX6_yards_22 : decode cX6_yards 22 = .ok (.ireturn, 1) := by decide +kernel
theorem dX6_yards_23 : decode cX6_yards 23 = .ok (.aload_n 0, 1) := by decide +kernel
theorem dX6_yards_24 : decode cX6_yards 24 = .ok (.getfield 10, 3) := by decide +kernel
theorem dX6_yards_27 : decode cX6_yards 27 = .ok (.getfield 126, 3) := by decide +kernel
theorem dX6_yards_30 : decode cX6_yards 30 = .ok (.iload_n 1, 1) := by decide +kernel
theorem dX6_yards_31 : decode cX6_yards 31 = .ok (.iaload, 1) := by decide +kernel
theorem dX6_yards_32 : decode cX6_yards 32 = .ok (.istore_n 3, 1) := by decide +kernel
theorem dX6_yards_33 : decode cX6_yards 33 = .ok (.aload_n 0, 1) := by decide +kernel
theorem dX6_yards_34 : decode cX6_yards 34 = .ok (.getfield 10, 3) := by decide +kernel
theorem dX6_yards_37 : decode cX6_yards 37 = .ok (.getfield 126, 3) := by decide +kernel
theorem dX6_yards_40 : decode cX6_yards 40 = .ok (.iload_n 1, 1) := by decide +kernel
theorem dX6_yards_41 : decode cX6_yards 41 = .ok (.iload_n 2, 1) := by decide +kernel
theorem dX6_yards_42 : decode cX6_yards 42 = .ok (.iastore, 1) := by decide +kernel
theorem dX6_yards_43 : decode cX6_yards 43 = .ok (.iload_n 3, 1) := by decide +kernel
theorem dX6_yards_44 : decode cX6_yards 44 = .ok (.ireturn, 1) := by decide +kernel
theorem dX6_plans_0 : decode cX6_plans 0 = .ok (.aload_n 0, 1) := by decide +kernel
theorem dX6_plans_1 : decode cX6_plans 1 = .ok (.getfield 10, 3) := by decide +kernel
theorem dX6_plans_4 : decode cX6_plans 4 = .ok (.iload_n 1, 1) := by decide +kernel
theorem dX6_plans_5 : decode cX6_plans 5 = .ok (.invokevirtual 114, 3) := by decide +kernel
theorem dX6_plans_8 : decode cX6_plans 8 = .ok (.ifCond .ne 5, 3) := by decide +kernel
theorem dX6_plans_11 : decode cX6_plans 11 = .ok (.iconst (-1), 1) := by decide +kernel
theorem dX6_plans_12 : decode cX6_plans 12 = .ok (.ireturn, 1) := by decide +kernel
theorem dX6_plans_13 : decode cX6_plans 13 = .ok (.aload_n 0, 1) := by decide +kernel
theorem dX6_plans_14 : decode cX6_plans 14 = .ok (.getfield 10, 3) := by decide +kernel
theorem dX6_plans_17 : decode cX6_plans 17 = .ok (.iload_n 1, 1) := by decide +kernel
theorem dX6_plans_18 : decode cX6_plans 18 = .ok (.invokevirtual 154, 3) := by decide +kernel
theorem dX6_plans_21 : decode cX6_plans 21 = .ok (.ifCond .eq 13, 3) := by decide +kernel
theorem dX6_plans_24 : decode cX6_plans 24 = .ok (.aload_n 0, 1) := by decide +kernel
theorem dX6_plans_25 : decode cX6_plans 25 = .ok (.getfield 10, 3) := by decide +kernel
theorem dX6_plans_28 : decode cX6_plans 28 = .ok (.getfield 111, 3) := by decide +kernel
theorem dX6_plans_31 : decode cX6_plans 31 = .ok (.goto 5, 3) := by decide +kernel
theorem dX6_plans_34 : decode cX6_plans 34 = .ok (.bipush (-3), 2) := by decide +kernel
theorem dX6_plans_36 : decode cX6_plans 36 = .ok (.ireturn, 1) := by decide +kernel
theorem dX6_cut_0 : decode cX6_cut 0 = .ok (.iload_n 1, 1) := by decide +kernel
theorem dX6_cut_1 : decode cX6_cut 1 = .ok (.iconst 0, 1) := by decide +kernel
theorem dX6_cut_2 : decode cX6_cut 2 = .ok (.aload_n 0, 1) := by decide +kernel
theorem dX6_cut_3 : decode cX6_cut 3 = .ok (.getfield 10, 3) := by decide +kernel
theorem dX6_cut_6 : decode cX6_cut 6 = .ok (.getfield 111, 3) := by decide +kernel
theorem dX6_cut_9 : decode cX6_cut 9 = .ok (.invokestatic 66, 3) := by decide +kernel
theorem dX6_cut_12 : decode cX6_cut 12 = .ok (.ifCond .ne 5, 3) := by decide +kernel
theorem dX6_cut_15 : decode cX6_cut 15 = .ok (.iconst (-1), 1) := by decide +kernel
theorem dX6_cut_16 : decode cX6_cut 16 = .ok (.ireturn, 1) := by decide +kernel
theorem dX6_cut_17 : decode cX6_cut 17 = .ok (.aload_n 0, 1) := by decide +kernel
theorem dX6_cut_18 : decode cX6_cut 18 = .ok (.getfield 10, 3) := by decide +kernel
theorem dX6_cut_21 : decode cX6_cut 21 = .ok (.getfield 111, 3) := by decide +kernel
theorem dX6_cut_24 : decode cX6_cut 24 = .ok (.istore_n 2, 1) := by decide +kernel
theorem dX6_cut_25 : decode cX6_cut 25 = .ok (.aload_n 0, 1) := by decide +kernel
theorem dX6_cut_26 : decode cX6_cut 26 = .ok (.getfield 10, 3) := by decide +kernel
theorem dX6_cut_29 : decode cX6_cut 29 = .ok (.iload_n 1, 1) := by decide +kernel
theorem dX6_cut_30 : decode cX6_cut 30 = .ok (.putfield 111, 3) := by decide +kernel
theorem dX6_cut_33 : decode cX6_cut 33 = .ok (.iload_n 2, 1) := by decide +kernel
theorem dX6_cut_34 : decode cX6_cut 34 = .ok (.ireturn, 1) := by decide +kernel
theorem dX6_stands_0 : decode cX6_stands 0 = .ok (.aload_n 0, 1) := by decide +kernel
theorem dX6_stands_1 : decode cX6_stands 1 = .ok (.getfield 10, 3) := by decide +kernel
theorem dX6_stands_4 : decode cX6_stands 4 = .ok (.iload_n 1, 1) := by decide +kernel
theorem dX6_stands_5 : decode cX6_stands 5 = .ok (.invokevirtual 157, 3) := by decide +kernel
theorem dX6_stands_8 : decode cX6_stands 8 = .ok (.ifCond .eq 14, 3) := by decide +kernel
theorem dX6_stands_11 : decode cX6_stands 11 = .ok (.aload_n 0, 1) := by decide +kernel
theorem dX6_stands_12 : decode cX6_stands 12 = .ok (.getfield 10, 3) := by decide +kernel
theorem dX6_stands_15 : decode cX6_stands 15 = .ok (.iload_n 1, 1) := by decide +kernel
theorem dX6_stands_16 : decode cX6_stands 16 = .ok (.invokevirtual 107, 3) := by decide +kernel
theorem dX6_stands_19 : decode cX6_stands 19 = .ok (.goto 4, 3) := by decide +kernel
theorem dX6_stands_22 : decode cX6_stands 22 = .ok (.iconst (-1), 1) := by decide +kernel
theorem dX6_stands_23 : decode cX6_stands 23 = .ok (.ireturn, 1) := by decide +kernel
theorem dX6_sum_0 : decode cX6_sum 0 = .ok (.iload_n 1, 1) := by decide +kernel
theorem dX6_sum_1 : decode cX6_sum 1 = .ok (.iconst 0, 1) := by decide +kernel
theorem dX6_sum_2 : decode cX6_sum 2 = .ok (.iconst 2, 1) := by decide +kernel
theorem dX6_sum_3 : decode cX6_sum 3 = .ok (.invokestatic 66, 3) := by decide +kernel
theorem dX6_sum_6 : decode cX6_sum 6 = .ok (.ifCond .ne 5, 3) := by decide +kernel
theorem dX6_sum_9 : decode cX6_sum 9 = .ok (.iconst (-1), 1) := by decide +kernel
theorem dX6_sum_10 : decode cX6_sum 10 = .ok (.ireturn, 1) := by decide +kernel
theorem dX6_sum_11 : decode cX6_sum 11 = .ok (.aload_n 0, 1) := by decide +kernel
theorem dX6_sum_12 : decode cX6_sum 12 = .ok (.getfield 10, 3) := by decide +kernel
theorem dX6_sum_15 : decode cX6_sum 15 = .ok (.aload_n 0, 1) := by decide +kernel
theorem dX6_sum_16 : decode cX6_sum 16 = .ok (.getfield 10, 3) := by decide +kernel
theorem dX6_sum_19 : decode cX6_sum 19 = .ok (.getfield 104, 3) := by decide +kernel
theorem dX6_sum_22 : decode cX6_sum 22 = .ok (.invokevirtual 107, 3) := by decide +kernel
theorem dX6_sum_25 : decode cX6_sum 25 = .ok (.istore_n 2, 1) := by decide +kernel
theorem dX6_sum_26 : decode cX6_sum 26 = .ok (.iconst 0, 1) := by decide +kernel
theorem dX6_sum_27 : decode cX6_sum 27 = .ok (.istore_n 3, 1) := by decide +kernel
theorem dX6_sum_28 : decode cX6_sum 28 = .ok (.iconst 0, 1) := by decide +kernel
theorem dX6_sum_29 : decode cX6_sum 29 = .ok (.istore 4, 2) := by decide +kernel
theorem dX6_sum_31 : decode cX6_sum 31 = .ok (.iload 4, 2) := by decide +kernel
theorem dX6_sum_33 : decode cX6_sum 33 = .ok (.aload_n 0, 1) := by decide +kernel
theorem dX6_sum_34 : decode cX6_sum 34 = .ok (.getfield 10, 3) := by decide +kernel
theorem dX6_sum_37 : decode cX6_sum 37 = .ok (.getfield 95, 3) := by decide +kernel
theorem dX6_sum_40 : decode cX6_sum 40 = .ok (.if_icmp .ge 46, 3) := by decide +kernel
theorem dX6_sum_43 : decode cX6_sum 43 = .ok (.aload_n 0, 1) := by decide +kernel
theorem dX6_sum_44 : decode cX6_sum 44 = .ok (.getfield 10, 3) := by decide +kernel
theorem dX6_sum_47 : decode cX6_sum 47 = .ok (.getfield 117, 3) := by decide +kernel
theorem dX6_sum_50 : decode cX6_sum 50 = .ok (.iload 4, 2) := by decide +kernel
theorem dX6_sum_52 : decode cX6_sum 52 = .ok (.iaload, 1) := by decide +kernel
theorem dX6_sum_53 : decode cX6_sum 53 = .ok (.iload_n 1, 1) := by decide +kernel
theorem dX6_sum_54 : decode cX6_sum 54 = .ok (.if_icmp .ne 26, 3) := by decide +kernel
theorem dX6_sum_57 : decode cX6_sum 57 = .ok (.iload_n 2, 1) := by decide +kernel
theorem dX6_sum_58 : decode cX6_sum 58 = .ok (.iload 4, 2) := by decide +kernel
theorem dX6_sum_60 : decode cX6_sum 60 = .ok (.ishr, 1) := by decide +kernel
theorem dX6_sum_61 : decode cX6_sum 61 = .ok (.iconst 1, 1) := by decide +kernel
theorem dX6_sum_62 : decode cX6_sum 62 = .ok (.iand, 1) := by decide +kernel
theorem dX6_sum_63 : decode cX6_sum 63 = .ok (.iconst 1, 1) := by decide +kernel
theorem dX6_sum_64 : decode cX6_sum 64 = .ok (.if_icmp .ne 16, 3) := by decide +kernel
theorem dX6_sum_67 : decode cX6_sum 67 = .ok (.iload_n 3, 1) := by decide +kernel
theorem dX6_sum_68 : decode cX6_sum 68 = .ok (.aload_n 0, 1) := by decide +kernel
theorem dX6_sum_69 : decode cX6_sum 69 = .ok (.getfield 10, 3) := by decide +kernel
theorem dX6_sum_72 : decode cX6_sum 72 = .ok (.getfield 126, 3) := by decide +kernel
theorem dX6_sum_75 : decode cX6_sum 75 = .ok (.iload 4, 2) := by decide +kernel
theorem dX6_sum_77 : decode cX6_sum 77 = .ok (.iaload, 1) := by decide +kernel
theorem dX6_sum_78 : decode cX6_sum 78 = .ok (.iadd, 1) := by decide +kernel
theorem dX6_sum_79 : decode cX6_sum 79 = .ok (.istore_n 3, 1) := by decide +kernel
theorem dX6_sum_80 : decode cX6_sum 80 = .ok (.iinc 4 1, 3) := by decide +kernel
theorem dX6_sum_83 : decode cX6_sum 83 = .ok (.goto (-52), 3) := by decide +kernel
