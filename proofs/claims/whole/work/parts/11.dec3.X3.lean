theorem dX3_init_0 : decode cX3_init 0 = .ok (.aload_n 0, 1) := by decide +kernel
theorem dX3_init_1 : decode cX3_init 1 = .ok (.invokespecial 1, 3) := by decide +kernel
theorem dX3_init_4 : decode cX3_init 4 = .ok (.iload_n 1, 1) := by decide +kernel
theorem dX3_init_5 : decode cX3_init 5 = .ok (.invokestatic 7, 3) := by decide +kernel
theorem dX3_init_8 : decode cX3_init 8 = .ok (.istore 4, 2) := by decide +kernel
theorem dX3_init_10 : decode cX3_init 10 = .ok (.iload_n 2, 1) := by decide +kernel
theorem dX3_init_11 : decode cX3_init 11 = .ok (.invokestatic 7, 3) := by decide +kernel
theorem dX3_init_14 : decode cX3_init 14 = .ok (.istore 5, 2) := by decide +kernel
theorem dX3_init_16 : decode cX3_init 16 = .ok (.iload_n 3, 1) := by decide +kernel
theorem dX3_init_17 : decode cX3_init 17 = .ok (.invokestatic 7, 3) := by decide +kernel
theorem dX3_init_20 : decode cX3_init 20 = .ok (.istore 6, 2) := by decide +kernel
theorem dX3_init_22 : decode cX3_init 22 = .ok (.aload_n 0, 1) := by decide +kernel
theorem dX3_init_23 : decode cX3_init 23 = .ok (.bipush 6, 2) := by decide +kernel
theorem dX3_init_25 : decode cX3_init 25 = .ok (.anewarray 13, 3) := by decide +kernel
theorem dX3_init_28 : decode cX3_init 28 = .ok (.putfield 15, 3) := by decide +kernel
theorem dX3_init_31 : decode cX3_init 31 = .ok (.iconst 0, 1) := by decide +kernel
theorem dX3_init_32 : decode cX3_init 32 = .ok (.istore 7, 2) := by decide +kernel
theorem dX3_init_34 : decode cX3_init 34 = .ok (.iload 7, 2) := by decide +kernel
theorem dX3_init_36 : decode cX3_init 36 = .ok (.aload_n 0, 1) := by decide +kernel
theorem dX3_init_37 : decode cX3_init 37 = .ok (.getfield 15, 3) := by decide +kernel
theorem dX3_init_40 : decode cX3_init 40 = .ok (.arraylength, 1) := by decide +kernel
theorem dX3_init_41 : decode cX3_init 41 = .ok (.if_icmp .ge 23, 3) := by decide +kernel
theorem dX3_init_44 : decode cX3_init 44 = .ok (.aload_n 0, 1) := by decide +kernel
theorem dX3_init_45 : decode cX3_init 45 = .ok (.getfield 15, 3) := by decide +kernel
theorem dX3_init_48 : decode cX3_init 48 = .ok (.iload 7, 2) := by decide +kernel
theorem dX3_init_50 : decode cX3_init 50 = .ok (.new 13, 3) := by decide +kernel
theorem dX3_init_53 : decode cX3_init 53 = .ok (.dup, 1) := by decide +kernel
theorem dX3_init_54 : decode cX3_init 54 = .ok (.invokespecial 19, 3) := by decide +kernel
theorem dX3_init_57 : decode cX3_init 57 = .ok (.aastore, 1) := by decide +kernel
theorem dX3_init_58 : decode cX3_init 58 = .ok (.iinc 7 1, 3) := by decide +kernel
theorem dX3_init_61 : decode cX3_init 61 = .ok (.goto (-27), 3) := by decide +kernel
theorem dX3_init_64 : decode cX3_init 64 = .ok (.aload_n 0, 1) := by decide +kernel
theorem dX3_init_65 : decode cX3_init 65 = .ok (.new 20, 3) := by decide +kernel
theorem dX3_init_68 : decode cX3_init 68 = .ok (.dup, 1) := by decide +kernel
theorem dX3_init_69 : decode cX3_init 69 = .ok (.iload 4, 2) := by decide +kernel
theorem dX3_init_71 : decode cX3_init 71 = .ok (.iload 5, 2) := by decide +kernel
theorem dX3_init_73 : decode cX3_init 73 = .ok (.iload 6, 2) := by decide +kernel
theorem dX3_init_75 : decode cX3_init 75 = .ok (.invokespecial 22, 3) := by decide +kernel
theorem dX3_init_78 : decode cX3_init 78 = .ok (.putfield 25, 3) := by decide +kernel
theorem dX3_init_81 : decode cX3_init 81 = .ok (.aload_n 0, 1) := by decide +kernel
theorem dX3_init_82 : decode cX3_init 82 = .ok (.new 20, 3) := by decide +kernel
theorem dX3_init_85 : decode cX3_init 85 = .ok (.dup, 1) := by decide +kernel
theorem dX3_init_86 : decode cX3_init 86 = .ok (.iload 4, 2) := by decide +kernel
theorem dX3_init_88 : decode cX3_init 88 = .ok (.iload 5, 2) := by decide +kernel
theorem dX3_init_90 : decode cX3_init 90 = .ok (.iload 6, 2) := by decide +kernel
theorem dX3_init_92 : decode cX3_init 92 = .ok (.invokespecial 22, 3) := by decide +kernel
theorem dX3_init_95 : decode cX3_init 95 = .ok (.putfield 29, 3) := by decide +kernel
theorem dX3_init_98 : decode cX3_init 98 = .ok (.aload_n 0, 1) := by decide +kernel
theorem dX3_init_99 : decode cX3_init 99 = .ok (.bipush 6, 2) := by decide +kernel
theorem dX3_init_101 : decode cX3_init 101 = .ok (.newarray .int, 2) := by decide +kernel
theorem dX3_init_103 : decode cX3_init 103 = .ok (.putfield 32, 3) := by decide +kernel
theorem dX3_init_106 : decode cX3_init 106 = .ok (.return_, 1) := by decide +kernel
theorem dX3_piece_0 : decode cX3_piece 0 = .ok (.iload_n 1, 1) := by decide +kernel
theorem dX3_piece_1 : decode cX3_piece 1 = .ok (.invokestatic 36, 3) := by decide +kernel
theorem dX3_piece_4 : decode cX3_piece 4 = .ok (.ifCond .eq 17, 3) := by decide +kernel
theorem dX3_piece_7 : decode cX3_piece 7 = .ok (.iload_n 2, 1) := by decide +kernel
theorem dX3_piece_8 : decode cX3_piece 8 = .ok (.invokestatic 36, 3) := by decide +kernel
theorem dX3_piece_11 : decode cX3_piece 11 = .ok (.ifCond .eq 10, 3) := by decide +kernel
theorem dX3_piece_14 : decode cX3_piece 14 = .ok (.iload_n 3, 1) := by decide +kernel
theorem dX3_piece_15 : decode cX3_piece 15 = .ok (.invokestatic 36, 3) := by decide +kernel
theorem dX3_piece_18 : decode cX3_piece 18 = .ok (.ifCond .ne 13, 3) := by decide +kernel
theorem dX3_piece_21 : decode cX3_piece 21 = .ok (.new 40, 3) := by decide +kernel
theorem dX3_piece_24 : decode cX3_piece 24 = .ok (.dup, 1) := by decide +kernel
theorem dX3_piece_25 : decode cX3_piece 25 = .ok (.ldc 42, 2) := by decide +kernel
theorem dX3_piece_27 : decode cX3_piece 27 = .ok (.invokespecial 44, 3) := by decide +kernel
theorem dX3_piece_30 : decode cX3_piece 30 = .ok (.athrow, 1) := by decide +kernel
theorem dX3_piece_31 : decode cX3_piece 31 = .ok (.iload 4, 2) := by decide +kernel
theorem dX3_piece_33 : decode cX3_piece 33 = .ok (.ifCond .lt 10, 3) := by decide +kernel
theorem dX3_piece_36 : decode cX3_piece 36 = .ok (.iload 4, 2) := by decide +kernel
theorem dX3_piece_38 : decode cX3_piece 38 = .ok (.bipush 100, 2) := by decide +kernel
theorem dX3_piece_40 : decode cX3_piece 40 = .ok (.if_icmp .le 13, 3) := by decide +kernel
theorem dX3_piece_43 : decode cX3_piece 43 = .ok (.new 40, 3) := by decide +kernel
theorem dX3_piece_46 : decode cX3_piece 46 = .ok (.dup, 1) := by decide +kernel
theorem dX3_piece_47 : decode cX3_piece 47 = .ok (.ldc 47, 2) := by decide +kernel
theorem dX3_piece_49 : decode cX3_piece 49 = .ok (.invokespecial 44, 3) := by decide +kernel
theorem dX3_piece_52 : decode cX3_piece 52 = .ok (.athrow, 1) := by decide +kernel
theorem dX3_piece_53 : decode cX3_piece 53 = .ok (.aload_n 0, 1) := by decide +kernel
theorem dX3_piece_54 : decode cX3_piece 54 = .ok (.getfield 49, 3) := by decide +kernel
theorem dX3_piece_57 : decode cX3_piece 57 = .ok (.aload_n 0, 1) := by decide +kernel
theorem dX3_piece_58 : decode cX3_piece 58 = .ok (.getfield 15, 3) := by decide +kernel
theorem dX3_piece_61 : decode cX3_piece 61 = .ok (.arraylength, 1) := by decide +kernel
theorem dX3_piece_62 : decode cX3_piece 62 = .ok (.if_icmp .lt 13, 3) := by decide +kernel
theorem dX3_piece_65 : decode cX3_piece 65 = .ok (.new 53, 3) := by decide +kernel
theorem dX3_piece_68 : decode cX3_piece 68 = .ok (.dup, 1) := by decide +kernel
theorem dX3_piece_69 : decode cX3_piece 69 = .ok (.ldc 55, 2) := by decide +kernel
theorem dX3_piece_71 : decode cX3_piece 71 = .ok (.invokespecial 57, 3) := by decide +kernel
theorem dX3_piece_74 : decode cX3_piece 74 = .ok (.athrow, 1) := by decide +kernel
theorem dX3_piece_75 : decode cX3_piece 75 = .ok (.aload_n 0, 1) := by decide +kernel
theorem dX3_piece_76 : decode cX3_piece 76 = .ok (.getfield 49, 3) := by decide +kernel
theorem dX3_piece_79 : decode cX3_piece 79 = .ok (.istore 5, 2) := by decide +kernel
theorem dX3_piece_81 : decode cX3_piece 81 = .ok (.aload_n 0, 1) := by decide +kernel
theorem dX3_piece_82 : decode cX3_piece 82 = .ok (.getfield 15, 3) := by decide +kernel
theorem dX3_piece_85 : decode cX3_piece 85 = .ok (.iload 5, 2) := by decide +kernel
theorem dX3_piece_87 : decode cX3_piece 87 = .ok (.aaload, 1) := by decide +kernel
theorem dX3_piece_88 : decode cX3_piece 88 = .ok (.iload_n 1, 1) := by decide +kernel
theorem dX3_piece_89 : decode cX3_piece 89 = .ok (.iload_n 2, 1) := by decide +kernel
theorem dX3_piece_90 : decode cX3_piece 90 = .ok (.iload_n 3, 1) := by decide +kernel
theorem dX3_piece_91 : decode cX3_piece 91 = .ok (.iload 4, 2) := by decide +kernel
theorem dX3_piece_93 : decode cX3_piece 93 = .ok (.invokevirtual 58, 3) := by decide +kernel
theorem dX3_piece_96 : decode cX3_piece 96 = .ok (.aload_n 0, 1) := by decide +kernel
theorem dX3_piece_97 : decode cX3_piece 97 = .ok (.dup, 1) := by decide +kernel
theorem dX3_piece_98 : decode cX3_piece 98 = .ok (.getfield 49, 3) := by decide +kernel
theorem dX3_piece_101 : decode cX3_piece 101 = .ok (.iconst 1, 1) := by decide +kernel
theorem dX3_piece_102 : decode cX3_piece 102 = .ok (.iadd, 1) := by decide +kernel
theorem dX3_piece_103 : decode cX3_piece 103 = .ok (.putfield 49, 3) := by decide +kernel
theorem dX3_piece_106 : decode cX3_piece 106 = .ok (.iload 5, 2) := by decide +kernel
theorem dX3_piece_108 : decode cX3_piece 108 = .ok (.ireturn, 1) := by decide +kernel
theorem dX3_turn_0 : decode cX3_turn 0 = .ok (.aload_n 0, 1) := by decide +kernel
theorem dX3_turn_1 : decode cX3_turn 1 = .ok (.iload_n 1, 1) := by decide +kernel
theorem dX3_turn_2 : decode cX3_turn 2 = .ok (.invokevirtual 62, 3) := by decide +kernel
theorem dX3_turn_5 : decode cX3_turn 5 = .ok (.astore_n 3, 1) := by decide +kernel
theorem dX3_turn_6 : decode cX3_turn 6 = .ok (.iload_n 2, 1) := by decide +kernel
theorem dX3_turn_7 : decode cX3_turn 7 = .ok (.ifCond .lt 8, 3) := by decide +kernel
theorem dX3_turn_10 : decode cX3_turn 10 = .ok (.iload_n 2, 1) := by decide +kernel
theorem dX3_turn_11 : decode cX3_turn 11 = .ok (.iconst 3, 1) := by decide +kernel
theorem dX3_turn_12 : decode cX3_turn 12 = .ok (.if_icmp .le 13, 3) := by decide +kernel
theorem dX3_turn_15 : decode cX3_turn 15 = .ok (.new 40, 3) := by decide +kernel
theorem dX3_turn_18 : decode cX3_turn 18 = .ok (.dup, 1) := by decide +kernel
theorem dX3_turn_19 : decode cX3_turn 19 = .ok (.ldc 66, 2) := by decide +kernel
theorem dX3_turn_21 : decode cX3_turn 21 = .ok (.invokespecial 44, 3) := by decide +kernel
theorem dX3_turn_24 : decode cX3_turn 24 = .ok (.athrow, 1) := by decide +kernel
theorem dX3_turn_25 : decode cX3_turn 25 = .ok (.aload_n 3, 1) := by decide +kernel
theorem dX3_turn_26 : decode cX3_turn 26 = .ok (.iload_n 2, 1) := by decide +kernel
theorem dX3_turn_27 : decode cX3_turn 27 = .ok (.invokevirtual 68, 3) := by decide +kernel
theorem dX3_turn_30 : decode cX3_turn 30 = .ok (.aload_n 3, 1) := by decide +kernel
theorem dX3_turn_31 : decode cX3_turn 31 = .ok (.invokevirtual 72, 3) := by decide +kernel
theorem dX3_turn_34 : decode cX3_turn 34 = .ok (.ireturn, 1) := by decide +kernel
theorem dX3_limit_0 : decode cX3_limit 0 = .ok (.aload_n 0, 1) := by decide +kernel
theorem dX3_limit_1 : decode cX3_limit 1 = .ok (.iload_n 1, 1) := by decide +kernel
theorem dX3_limit_2 : decode cX3_limit 2 = .ok (.invokevirtual 62, 3) := by decide +kernel
theorem dX3_limit_5 : decode cX3_limit 5 = .ok (.astore_n 3, 1) := by decide +kernel
theorem dX3_limit_6 : decode cX3_limit 6 = .ok (.iload_n 2, 1) := by decide +kernel
theorem dX3_limit_7 : decode cX3_limit 7 = .ok (.iconst (-1), 1) := by decide +kernel
theorem dX3_limit_8 : decode cX3_limit 8 = .ok (.if_icmp .lt 10, 3) := by decide +kernel
theorem dX3_limit_11 : decode cX3_limit 11 = .ok (.iload_n 2, 1) := by decide +kernel
theorem dX3_limit_12 : decode cX3_limit 12 = .ok (.sipush 1000, 3) := by decide +kernel
theorem dX3_limit_15 : decode cX3_limit 15 = .ok (.if_icmp .le 13, 3) := by decide +kernel
theorem dX3_limit_18 : decode cX3_limit 18 = .ok (.new 40, 3) := by decide +kernel
theorem dX3_limit_21 : decode cX3_limit 21 = .ok (.dup, 1) := by decide +kernel
theorem dX3_limit_22 : decode cX3_limit 22 = .ok (.ldc 76, 2) := by decide +kernel
theorem dX3_limit_24 : decode cX3_limit 24 = .ok (.invokespecial 44, 3) := by decide +kernel
theorem dX3_limit_27 : decode cX3_limit 27 = .ok (.athrow, 1) := by decide +kernel
theorem dX3_limit_28 : decode cX3_limit 28 = .ok (.aload_n 3, 1) := by decide +kernel
theorem dX3_limit_29 : decode cX3_limit 29 = .ok (.iload_n 2, 1) := by decide +kernel
theorem dX3_limit_30 : decode cX3_limit 30 = .ok (.putfield 78, 3) := by decide +kernel
theorem dX3_limit_33 : decode cX3_limit 33 = .ok (.return_, 1) := by decide +kernel
theorem dX3_rank_0 : decode cX3_rank 0 = .ok (.aload_n 0, 1) := by decide +kernel
theorem dX3_rank_1 : decode cX3_rank 1 = .ok (.iload_n 1, 1) := by decide +kernel
theorem dX3_rank_2 : decode cX3_rank 2 = .ok (.invokevirtual 62, 3) := by decide +kernel
theorem dX3_rank_5 : decode cX3_rank 5 = .ok (.astore_n 3, 1) := by decide +kernel
theorem dX3_rank_6 : decode cX3_rank 6 = .ok (.iload_n 2, 1) := by decide +kernel
theorem dX3_rank_7 : decode cX3_rank 7 = .ok (.ifCond .lt 9, 3) := by decide +kernel
theorem dX3_rank_10 : decode cX3_rank 10 = .ok (.iload_n 2, 1) := by decide +kernel
theorem dX3_rank_11 : decode cX3_rank 11 = .ok (.bipush 9, 2) := by decide +kernel
theorem dX3_rank_13 : decode cX3_rank 13 = .ok (.if_icmp .le 13, 3) := by decide +kernel
theorem dX3_rank_16 : decode cX3_rank 16 = .ok (.new 40, 3) := by decide +kernel
theorem dX3_rank_19 : decode cX3_rank 19 = .ok (.dup, 1) := by decide +kernel
theorem dX3_rank_20 : decode cX3_rank 20 = .ok (.ldc 81, 2) := by decide +kernel
theorem dX3_rank_22 : decode cX3_rank 22 = .ok (.invokespecial 44, 3) := by decide +kernel
theorem dX3_rank_25 : decode cX3_rank 25 = .ok (.athrow, 1) := by decide +kernel
theorem dX3_rank_26 : decode cX3_rank 26 = .ok (.aload_n 3, 1) := by decide +kernel
theorem dX3_rank_27 : decode cX3_rank 27 = .ok (.iload_n 2, 1) := by decide +kernel
theorem dX3_rank_28 : decode cX3_rank 28 = .ok (.putfield 83, 3) := by decide +kernel
theorem dX3_rank_31 : decode cX3_rank 31 = .ok (.aload_n 3, 1) := by decide +kernel
theorem dX3_rank_32 : decode cX3_rank 32 = .ok (.invokevirtual 86, 3) := by decide +kernel
theorem dX3_rank_35 : decode cX3_rank 35 = .ok (.ifCond .eq 7, 3) := by decide +kernel
theorem dX3_rank_38 : decode cX3_rank 38 = .ok (.iconst (-1), 1) := by decide +kernel
theorem dX3_rank_39 : decode cX3_rank 39 = .ok (.goto 9, 3) := by decide +kernel
theorem dX3_rank_42 : decode cX3_rank 42 = .ok (.aload_n 0, 1) := by decide +kernel
theorem dX3_rank_43 : decode cX3_rank 43 = .ok (.aload_n 3, 1) := by decide +kernel
theorem dX3_rank_44 : decode cX3_rank 44 = .ok (.iload_n 1, 1) := by decide +kernel
theorem dX3_rank_45 : decode cX3_rank 45 = .ok (.invokevirtual 90, 3) := by decide +kernel
theorem dX3_rank_48 : decode cX3_rank 48 = .ok (.ireturn, 1) := by decide +kernel
theorem dX3_share_0 : decode cX3_share 0 = .ok (.iload_n 1, 1) := by decide +kernel
theorem dX3_share_1 : decode cX3_share 1 = .ok (.ifCond .lt 9, 3) := by decide +kernel
theorem dX3_share_4 : decode cX3_share 4 = .ok (.iload_n 1, 1) := by decide +kernel
theorem dX3_share_5 : decode cX3_share 5 = .ok (.bipush 100, 2) := by decide +kernel
theorem dX3_share_7 : decode cX3_share 7 = .ok (.if_icmp .le 13, 3) := by decide +kernel
theorem dX3_share_10 : decode cX3_share 10 = .ok (.new 40, 3) := by decide +kernel
theorem dX3_share_13 : decode cX3_share 13 = .ok (.dup, 1) := by decide +kernel
theorem dX3_share_14 : decode cX3_share 14 = .ok (.ldc 94, 2) := by decide +kernel
theorem dX3_share_16 : decode cX3_share 16 = .ok (.invokespecial 44, 3) := by decide +kernel
theorem dX3_share_19 : decode cX3_share 19 = .ok (.athrow, 1) := by decide +kernel
theorem dX3_share_20 : decode cX3_share 20 = .ok (.aload_n 0, 1) := by decide +kernel
theorem dX3_share_21 : decode cX3_share 21 = .ok (.iload_n 1, 1) := by decide +kernel
theorem dX3_share_22 : decode cX3_share 22 = .ok (.putfield 96, 3) := by decide +kernel
theorem dX3_share_25 : decode cX3_share 25 = .ok (.return_, 1) := by decide +kernel
theorem dX3_solve_0 : decode cX3_solve 0 = .ok (.iload_n 1, 1) := by decide +kernel
theorem dX3_solve_1 : decode cX3_solve 1 = .ok (.ifCond .lt 10, 3) := by decide +kernel
theorem dX3_solve_4 : decode cX3_solve 4 = .ok (.iload_n 1, 1) := by decide +kernel
theorem dX3_solve_5 : decode cX3_solve 5 = .ok (.sipush 3000, 3) := by decide +kernel
theorem dX3_solve_8 : decode cX3_solve 8 = .ok (.if_icmp .le 13, 3) := by decide +kernel
theorem dX3_solve_11 : decode cX3_solve 11 = .ok (.new 40, 3) := by decide +kernel
theorem dX3_solve_14 : decode cX3_solve 14 = .ok (.dup, 1) := by decide +kernel
theorem dX3_solve_15 : decode cX3_solve 15 = .ok (.ldc 99, 2) := by decide +kernel
theorem dX3_solve_17 : decode cX3_solve 17 = .ok (.invokespecial 44, 3) := by decide +kernel
theorem dX3_solve_20 : decode cX3_solve 20 = .ok (.athrow, 1) := by decide +kernel
theorem dX3_solve_21 : decode cX3_solve 21 = .ok (.aload_n 0, 1) := by decide +kernel
theorem dX3_solve_22 : decode cX3_solve 22 = .ok (.iload_n 1, 1) := by decide +kernel
theorem dX3_solve_23 : decode cX3_solve 23 = .ok (.invokevirtual 101, 3) := by decide +kernel
theorem dX3_solve_26 : decode cX3_solve 26 = .ok (.aload_n 0, 1) := by decide +kernel
theorem dX3_solve_27 : decode cX3_solve 27 = .ok (.iconst 0, 1) := by decide +kernel
theorem dX3_solve_28 : decode cX3_solve 28 = .ok (.invokevirtual 104, 3) := by decide +kernel
theorem dX3_solve_31 : decode cX3_solve 31 = .ok (.aload_n 0, 1) := by decide +kernel
theorem dX3_solve_32 : decode cX3_solve 32 = .ok (.aload_n 0, 1) := by decide +kernel
theorem dX3_solve_33 : decode cX3_solve 33 = .ok (.getfield 107, 3) := by decide +kernel
theorem dX3_solve_36 : decode cX3_solve 36 = .ok (.ifCond .ne 7, 3) := by decide +kernel
theorem dX3_solve_39 : decode cX3_solve 39 = .ok (.iconst 1, 1) := by decide +kernel
theorem dX3_solve_40 : decode cX3_solve 40 = .ok (.goto 4, 3) := by decide +kernel
theorem dX3_solve_43 : decode cX3_solve 43 = .ok (.iconst 0, 1) := by decide +kernel
theorem dX3_solve_44 : decode cX3_solve 44 = .ok (.putfield 111, 3) := by decide +kernel
theorem dX3_solve_47 : decode cX3_solve 47 = .ok (.aload_n 0, 1) := by decide +kernel
theorem dX3_solve_48 : decode cX3_solve 48 = .ok (.getfield 25, 3) := by decide +kernel
theorem dX3_solve_51 : decode cX3_solve 51 = .ok (.invokevirtual 114, 3) := by decide +kernel
theorem dX3_solve_54 : decode cX3_solve 54 = .ok (.ireturn, 1) := by decide +kernel
theorem dX3_exact_0 : decode cX3_exact 0 = .ok (.aload_n 0, 1) := by decide +kernel
theorem dX3_exact_1 : decode cX3_exact 1 = .ok (.getfield 111, 3) := by decide +kernel
theorem dX3_exact_4 : decode cX3_exact 4 = .ok (.ireturn, 1) := by decide +kernel
theorem dX3_steps_0 : decode cX3_steps 0 = .ok (.aload_n 0, 1) := by decide +kernel
theorem dX3_steps_1 : decode cX3_steps 1 = .ok (.getfield 117, 3) := by decide +kernel
theorem dX3_steps_4 : decode cX3_steps 4 = .ok (.ireturn, 1) := by decide +kernel
theorem dX3_bound_0 : decode cX3_bound 0 = .ok (.iconst 0, 1) := by decide +kernel
theorem dX3_bound_1 : decode cX3_bound 1 = .ok (.istore_n 1, 1) := by decide +kernel
theorem dX3_bound_2 : decode cX3_bound 2 = .ok (.iconst 0, 1) := by decide +kernel
theorem dX3_bound_3 : decode cX3_bound 3 = .ok (.istore_n 2, 1) := by decide +kernel
theorem dX3_bound_4 : decode cX3_bound 4 = .ok (.iload_n 2, 1) := by decide +kernel
theorem dX3_bound_5 : decode cX3_bound 5 = .ok (.aload_n 0, 1) := by decide +kernel
theorem dX3_bound_6 : decode cX3_bound 6 = .ok (.getfield 49, 3) := by decide +kernel
theorem dX3_bound_9 : decode cX3_bound 9 = .ok (.if_icmp .ge 46, 3) := by decide +kernel
theorem dX3_bound_12 : decode cX3_bound 12 = .ok (.aload_n 0, 1) := by decide +kernel
theorem dX3_bound_13 : decode cX3_bound 13 = .ok (.getfield 15, 3) := by decide +kernel
theorem dX3_bound_16 : decode cX3_bound 16 = .ok (.iload_n 2, 1) := by decide +kernel
theorem dX3_bound_17 : decode cX3_bound 17 = .ok (.aaload, 1) := by decide +kernel
theorem dX3_bound_18 : decode cX3_bound 18 = .ok (.invokevirtual 86, 3) := by decide +kernel
theorem dX3_bound_21 : decode cX3_bound 21 = .ok (.ifCond .ne 28, 3) := by decide +kernel
theorem dX3_bound_24 : decode cX3_bound 24 = .ok (.aload_n 0, 1) := by decide +kernel
theorem dX3_bound_25 : decode cX3_bound 25 = .ok (.aload_n 0, 1) := by decide +kernel
theorem dX3_bound_26 : decode cX3_bound 26 = .ok (.getfield 15, 3) := by decide +kernel
theorem dX3_bound_29 : decode cX3_bound 29 = .ok (.iload_n 2, 1) := by decide +kernel
theorem dX3_bound_30 : decode cX3_bound 30 = .ok (.aaload, 1) := by decide +kernel
theorem dX3_bound_31 : decode cX3_bound 31 = .ok (.invokevirtual 120, 3) := by decide +kernel
theorem dX3_bound_34 : decode cX3_bound 34 = .ok (.ifCond .eq 15, 3) := by decide +kernel
theorem dX3_bound_37 : decode cX3_bound 37 = .ok (.iload_n 1, 1) := by decide +kernel
theorem dX3_bound_38 : decode cX3_bound 38 = .ok (.aload_n 0, 1) := by decide +kernel
theorem dX3_bound_39 : decode cX3_bound 39 = .ok (.getfield 15, 3) := by decide +kernel
theorem dX3_bound_42 : decode cX3_bound 42 = .ok (.iload_n 2, 1) := by decide +kernel
theorem dX3_bound_43 : decode cX3_bound 43 = .ok (.aaload, 1) := by decide +kernel
theorem dX3_bound_44 : decode cX3_bound 44 = .ok (.invokevirtual 124, 3) := by decide +kernel
theorem dX3_bound_47 : decode cX3_bound 47 = .ok (.iadd, 1) := by decide +kernel
theorem dX3_bound_48 : decode cX3_bound 48 = .ok (.istore_n 1, 1) := by decide +kernel
theorem dX3_bound_49 : decode cX3_bound 49 = .ok (.iinc 2 1, 3) := by decide +kernel
theorem dX3_bound_52 : decode cX3_bound 52 = .ok (.goto (-48), 3) := by decide +kernel
theorem dX3_bound_55 : decode cX3_bound 55 = .ok (.aload_n 0, 1) := by decide +kernel
theorem dX3_bound_56 : decode cX3_bound 56 = .ok (.getfield 25, 3) := by decide +kernel
theorem dX3_bound_59 : decode cX3_bound 59 = .ok (.invokevirtual 125, 3) := by decide +kernel
theorem dX3_bound_62 : decode cX3_bound 62 = .ok (.iload_n 1, 1) := by decide +kernel
theorem dX3_bound_63 : decode cX3_bound 63 = .ok (.invokestatic 128, 3) := by decide +kernel
theorem dX3_bound_66 : decode cX3_bound 66 = .ok (.ireturn, 1) := by decide +kernel
theorem dX3_at_0 : decode cX3_at 0 = .ok (.aload_n 0, 1) := by decide +kernel
theorem dX3_at_1 : decode cX3_at 1 = .ok (.iload_n 1, 1) := by decide +kernel
theorem dX3_at_2 : decode cX3_at 2 = .ok (.invokevirtual 134, 3) := by decide +kernel
theorem dX3_at_5 : decode cX3_at 5 = .ok (.astore_n 3, 1) := by decide +kernel
theorem dX3_at_6 : decode cX3_at 6 = .ok (.iload_n 2, 1) := by decide +kernel
theorem dX3_at_7 : decode cX3_at 7 = .ok (.ifCond .lt 9, 3) := by decide +kernel
theorem dX3_at_10 : decode cX3_at 10 = .ok (.iload_n 2, 1) := by decide +kernel
theorem dX3_at_11 : decode cX3_at 11 = .ok (.bipush 6, 2) := by decide +kernel
theorem dX3_at_13 : decode cX3_at 13 = .ok (.if_icmp .le 13, 3) := by decide +kernel
theorem dX3_at_16 : decode cX3_at 16 = .ok (.new 40, 3) := by decide +kernel
theorem dX3_at_19 : decode cX3_at 19 = .ok (.dup, 1) := by decide +kernel
theorem dX3_at_20 : decode cX3_at 20 = .ok (.ldc 138, 2) := by decide +kernel
theorem dX3_at_22 : decode cX3_at 22 = .ok (.invokespecial 44, 3) := by decide +kernel
theorem dX3_at_25 : decode cX3_at 25 = .ok (.athrow, 1) := by decide +kernel
theorem dX3_at_26 : decode cX3_at 26 = .ok (.aload_n 3, 1) := by decide +kernel
theorem dX3_at_27 : decode cX3_at 27 = .ok (.getfield 140, 3) := by decide +kernel
theorem dX3_at_30 : decode cX3_at 30 = .ok (.ifCond .eq 11, 3) := by decide +kernel
theorem dX3_at_33 : decode cX3_at 33 = .ok (.aload_n 3, 1) := by decide +kernel
theorem dX3_at_34 : decode cX3_at 34 = .ok (.iload_n 2, 1) := by decide +kernel
theorem dX3_at_35 : decode cX3_at 35 = .ok (.invokevirtual 145, 3) := by decide +kernel
theorem dX3_at_38 : decode cX3_at 38 = .ok (.goto 4, 3) := by decide +kernel
theorem dX3_at_41 : decode cX3_at 41 = .ok (.iconst (-1), 1) := by decide +kernel
theorem dX3_at_42 : decode cX3_at 42 = .ok (.ireturn, 1) := by decide +kernel
theorem dX3_over_0 : decode cX3_over 0 = .ok (.aload_n 0, 1) := by decide +kernel
theorem dX3_over_1 : decode cX3_over 1 = .ok (.iload_n 1, 1) := by decide +kernel
theorem dX3_over_2 : decode cX3_over 2 = .ok (.invokevirtual 134, 3) := by decide +kernel
theorem dX3_over_5 : decode cX3_over 5 = .ok (.astore_n 3, 1) := by decide +kernel
theorem dX3_over_6 : decode cX3_over 6 = .ok (.aload_n 0, 1) := by decide +kernel
theorem dX3_over_7 : decode cX3_over 7 = .ok (.iload_n 2, 1) := by decide +kernel
theorem dX3_over_8 : decode cX3_over 8 = .ok (.invokevirtual 134, 3) := by decide +kernel
theorem dX3_over_11 : decode cX3_over 11 = .ok (.astore 4, 2) := by decide +kernel
theorem dX3_over_13 : decode cX3_over 13 = .ok (.iload_n 1, 1) := by decide +kernel
theorem dX3_over_14 : decode cX3_over 14 = .ok (.iload_n 2, 1) := by decide +kernel
theorem dX3_over_15 : decode cX3_over 15 = .ok (.if_icmp .eq 18, 3) := by decide +kernel
theorem dX3_over_18 : decode cX3_over 18 = .ok (.aload_n 3, 1) := by decide +kernel
theorem dX3_over_19 : decode cX3_over 19 = .ok (.getfield 140, 3) := by decide +kernel
theorem dX3_over_22 : decode cX3_over 22 = .ok (.ifCond .eq 11, 3) := by decide +kernel
theorem dX3_over_25 : decode cX3_over 25 = .ok (.aload 4, 2) := by decide +kernel
theorem dX3_over_27 : decode cX3_over 27 = .ok (.getfield 140, 3) := by decide +kernel
theorem dX3_over_30 : decode cX3_over 30 = .ok (.ifCond .ne 13, 3) := by decide +kernel
theorem dX3_over_33 : decode cX3_over 33 = .ok (.new 148, 3) := by decide +kernel
theorem dX3_over_36 : decode cX3_over 36 = .ok (.dup, 1) := by decide +kernel
theorem dX3_over_37 : decode cX3_over 37 = .ok (.ldc 150, 2) := by decide +kernel
theorem dX3_over_39 : decode cX3_over 39 = .ok (.invokespecial 152, 3) := by decide +kernel
theorem dX3_over_42 : decode cX3_over 42 = .ok (.athrow, 1) := by decide +kernel
theorem dX3_over_43 : decode cX3_over 43 = .ok (.aload_n 3, 1) := by decide +kernel
theorem dX3_over_44 : decode cX3_over 44 = .ok (.aload 4, 2) := by decide +kernel
theorem dX3_over_46 : decode cX3_over 46 = .ok (.invokevirtual 153, 3) := by decide +kernel
theorem dX3_over_49 : decode cX3_over 49 = .ok (.ireturn, 1) := by decide +kernel
theorem dX3_support_0 : decode cX3_support 0 = .ok (.aload_n 0, 1) := by decide +kernel
theorem dX3_support_1 : decode cX3_support 1 = .ok (.iload_n 1, 1) := by decide +kernel
theorem dX3_support_2 : decode cX3_support 2 = .ok (.invokevirtual 134, 3) := by decide +kernel
theorem dX3_support_5 : decode cX3_support 5 = .ok (.astore_n 2, 1) := by decide +kernel
theorem dX3_support_6 : decode cX3_support 6 = .ok (.aload_n 2, 1) := by decide +kernel
theorem dX3_support_7 : decode cX3_support 7 = .ok (.invokevirtual 157, 3) := by decide +kernel
theorem dX3_support_10 : decode cX3_support 10 = .ok (.istore_n 3, 1) := by decide +kernel
theorem dX3_support_11 : decode cX3_support 11 = .ok (.iload_n 3, 1) := by decide +kernel
theorem dX3_support_12 : decode cX3_support 12 = .ok (.ifCond .ne 13, 3) := by decide +kernel
theorem dX3_support_15 : decode cX3_support 15 = .ok (.new 160, 3) := by decide +kernel
theorem dX3_support_18 : decode cX3_support 18 = .ok (.dup, 1) := by decide +kernel
theorem dX3_support_19 : decode cX3_support 19 = .ok (.ldc 162, 2) := by decide +kernel
theorem dX3_support_21 : decode cX3_support 21 = .ok (.invokespecial 164, 3) := by decide +kernel
theorem dX3_support_24 : decode cX3_support 24 = .ok (.athrow, 1) := by decide +kernel
theorem dX3_support_25 : decode cX3_support 25 = .ok (.bipush 100, 2) := by decide +kernel
theorem dX3_support_27 : decode cX3_support 27 = .ok (.aload_n 0, 1) := by decide +kernel
theorem dX3_support_28 : decode cX3_support 28 = .ok (.getfield 25, 3) := by decide +kernel
theorem dX3_support_31 : decode cX3_support 31 = .ok (.aload_n 2, 1) := by decide +kernel
theorem dX3_support_32 : decode cX3_support 32 = .ok (.invokevirtual 165, 3) := by decide +kernel
theorem dX3_support_35 : decode cX3_support 35 = .ok (.imul, 1) := by decide +kernel
theorem dX3_support_36 : decode cX3_support 36 = .ok (.iload_n 3, 1) := by decide +kernel
theorem dX3_support_37 : decode cX3_support 37 = .ok (.idiv, 1) := by decide +kernel
theorem dX3_support_38 : decode cX3_support 38 = .ok (.ireturn, 1) := by decide +kernel
theorem dX3_bears_0 : decode cX3_bears 0 = .ok (.aload_n 0, 1) := by decide +kernel
theorem dX3_bears_1 : decode cX3_bears 1 = .ok (.iload_n 1, 1) := by decide +kernel
theorem dX3_bears_2 : decode cX3_bears 2 = .ok (.invokevirtual 134, 3) := by decide +kernel
theorem dX3_bears_5 : decode cX3_bears 5 = .ok (.astore_n 2, 1) := by decide +kernel
theorem dX3_bears_6 : decode cX3_bears 6 = .ok (.aload_n 2, 1) := by decide +kernel
theorem dX3_bears_7 : decode cX3_bears 7 = .ok (.getfield 140, 3) := by decide +kernel
theorem dX3_bears_10 : decode cX3_bears 10 = .ok (.ifCond .ne 13, 3) := by decide +kernel
theorem dX3_bears_13 : decode cX3_bears 13 = .ok (.new 148, 3) := by decide +kernel
theorem dX3_bears_16 : decode cX3_bears 16 = .ok (.dup, 1) := by decide +kernel
theorem dX3_bears_17 : decode cX3_bears 17 = .ok (.ldc 162, 2) := by decide +kernel
theorem dX3_bears_19 : decode cX3_bears 19 = .ok (.invokespecial 152, 3) := by decide +kernel
theorem dX3_bears_22 : decode cX3_bears 22 = .ok (.athrow, 1) := by decide +kernel
theorem dX3_bears_23 : decode cX3_bears 23 = .ok (.aload_n 0, 1) := by decide +kernel
theorem dX3_bears_24 : decode cX3_bears 24 = .ok (.getfield 25, 3) := by decide +kernel
theorem dX3_bears_27 : decode cX3_bears 27 = .ok (.invokevirtual 169, 3) := by decide +kernel
theorem dX3_bears_30 : decode cX3_bears 30 = .ok (.aload_n 0, 1) := by decide +kernel
theorem dX3_bears_31 : decode cX3_bears 31 = .ok (.getfield 25, 3) := by decide +kernel
theorem dX3_bears_34 : decode cX3_bears 34 = .ok (.aload_n 2, 1) := by decide +kernel
theorem dX3_bears_35 : decode cX3_bears 35 = .ok (.invokevirtual 172, 3) := by decide +kernel
theorem dX3_bears_38 : decode cX3_bears 38 = .ok (.ireturn, 1) := by decide +kernel
theorem dX3_cell_0 : decode cX3_cell 0 = .ok (.aload_n 0, 1) := by decide +kernel
theorem dX3_cell_1 : decode cX3_cell 1 = .ok (.getfield 25, 3) := by decide +kernel
theorem dX3_cell_4 : decode cX3_cell 4 = .ok (.iload_n 1, 1) := by decide +kernel
theorem dX3_cell_5 : decode cX3_cell 5 = .ok (.iload_n 2, 1) := by decide +kernel
theorem dX3_cell_6 : decode cX3_cell 6 = .ok (.iload_n 3, 1) := by decide +kernel
theorem dX3_cell_7 : decode cX3_cell 7 = .ok (.invokevirtual 175, 3) := by decide +kernel
theorem dX3_cell_10 : decode cX3_cell 10 = .ok (.ifCond .ne 13, 3) := by decide +kernel
theorem dX3_cell_13 : decode cX3_cell 13 = .ok (.new 179, 3) := by decide +kernel
theorem dX3_cell_16 : decode cX3_cell 16 = .ok (.dup, 1) := by decide +kernel
theorem dX3_cell_17 : decode cX3_cell 17 = .ok (.ldc 181, 2) := by decide +kernel
theorem dX3_cell_19 : decode cX3_cell 19 = .ok (.invokespecial 183, 3) := by decide +kernel
theorem dX3_cell_22 : decode cX3_cell 22 = .ok (.athrow, 1) := by decide +kernel
theorem dX3_cell_23 : decode cX3_cell 23 = .ok (.aload_n 0, 1) := by decide +kernel
theorem dX3_cell_24 : decode cX3_cell 24 = .ok (.getfield 25, 3) := by decide +kernel
theorem dX3_cell_27 : decode cX3_cell 27 = .ok (.iload_n 1, 1) := by decide +kernel
theorem dX3_cell_28 : decode cX3_cell 28 = .ok (.iload_n 2, 1) := by decide +kernel
theorem dX3_cell_29 : decode cX3_cell 29 = .ok (.iload_n 3, 1) := by decide +kernel
theorem dX3_cell_30 : decode cX3_cell 30 = .ok (.invokevirtual 184, 3) := by decide +kernel
theorem dX3_cell_33 : decode cX3_cell 33 = .ok (.ireturn, 1) := by decide +kernel
theorem dX3_close_0 : decode cX3_close 0 = .ok (.aload_n 0, 1) := by decide +kernel
theorem dX3_close_1 : decode cX3_close 1 = .ok (.getfield 25, 3) := by decide +kernel
theorem dX3_close_4 : decode cX3_close 4 = .ok (.invokevirtual 188, 3) := by decide +kernel
theorem dX3_close_7 : decode cX3_close 7 = .ok (.ifCond .ne 13, 3) := by decide +kernel
theorem dX3_close_10 : decode cX3_close 10 = .ok (.new 148, 3) := by decide +kernel
theorem dX3_close_13 : decode cX3_close 13 = .ok (.dup, 1) := by decide +kernel
theorem dX3_close_14 : decode cX3_close 14 = .ok (.ldc 191, 2) := by decide +kernel
theorem dX3_close_16 : decode cX3_close 16 = .ok (.invokespecial 152, 3) := by decide +kernel
theorem dX3_close_19 : decode cX3_close 19 = .ok (.athrow, 1) := by decide +kernel
theorem dX3_close_20 : decode cX3_close 20 = .ok (.aload_n 0, 1) := by decide +kernel
theorem dX3_close_21 : decode cX3_close 21 = .ok (.getfield 193, 3) := by decide +kernel
theorem dX3_close_24 : decode cX3_close 24 = .ok (.istore_n 1, 1) := by decide +kernel
theorem dX3_close_25 : decode cX3_close 25 = .ok (.iconst 0, 1) := by decide +kernel
theorem dX3_close_26 : decode cX3_close 26 = .ok (.istore_n 2, 1) := by decide +kernel
theorem dX3_close_27 : decode cX3_close 27 = .ok (.iload_n 2, 1) := by decide +kernel
theorem dX3_close_28 : decode cX3_close 28 = .ok (.aload_n 0, 1) := by decide +kernel
theorem dX3_close_29 : decode cX3_close 29 = .ok (.getfield 49, 3) := by decide +kernel
theorem dX3_close_32 : decode cX3_close 32 = .ok (.if_icmp .ge 34, 3) := by decide +kernel
theorem dX3_close_35 : decode cX3_close 35 = .ok (.aload_n 0, 1) := by decide +kernel
theorem dX3_close_36 : decode cX3_close 36 = .ok (.getfield 25, 3) := by decide +kernel
theorem dX3_close_39 : decode cX3_close 39 = .ok (.getfield 196, 3) := by decide +kernel
theorem dX3_close_42 : decode cX3_close 42 = .ok (.iload_n 2, 1) := by decide +kernel
theorem dX3_close_43 : decode cX3_close 43 = .ok (.aaload, 1) := by decide +kernel
theorem dX3_close_44 : decode cX3_close 44 = .ok (.getfield 140, 3) := by decide +kernel
theorem dX3_close_47 : decode cX3_close 47 = .ok (.ifCond .eq 13, 3) := by decide +kernel
theorem dX3_close_50 : decode cX3_close 50 = .ok (.aload_n 0, 1) := by decide +kernel
theorem dX3_close_51 : decode cX3_close 51 = .ok (.getfield 15, 3) := by decide +kernel
theorem dX3_close_54 : decode cX3_close 54 = .ok (.iload_n 2, 1) := by decide +kernel
theorem dX3_close_55 : decode cX3_close 55 = .ok (.aaload, 1) := by decide +kernel
theorem dX3_close_56 : decode cX3_close 56 = .ok (.iload_n 1, 1) := by decide +kernel
theorem dX3_close_57 : decode cX3_close 57 = .ok (.putfield 200, 3) := by decide +kernel
theorem dX3_close_60 : decode cX3_close 60 = .ok (.iinc 2 1, 3) := by decide +kernel
theorem dX3_close_63 : decode cX3_close 63 = .ok (.goto (-36), 3) := by decide +kernel
theorem dX3_close_66 : decode cX3_close 66 = .ok (.aload_n 0, 1) := by decide +kernel
theorem dX3_close_67 : decode cX3_close 67 = .ok (.getfield 25, 3) := by decide +kernel
theorem dX3_close_70 : decode cX3_close 70 = .ok (.invokevirtual 203, 3) := by decide +kernel
theorem dX3_close_73 : decode cX3_close 73 = .ok (.aload_n 0, 1) := by decide +kernel
theorem dX3_close_74 : decode cX3_close 74 = .ok (.dup, 1) := by decide +kernel
theorem dX3_close_75 : decode cX3_close 75 = .ok (.getfield 193, 3) := by decide +kernel
theorem dX3_close_78 : decode cX3_close 78 = .ok (.iconst 1, 1) := by decide +kernel
theorem dX3_close_79 : decode cX3_close 79 = .ok (.iadd, 1) := by decide +kernel
theorem dX3_close_80 : decode cX3_close 80 = .ok (.putfield 193, 3) := by decide +kernel
theorem dX3_close_83 : decode cX3_close 83 = .ok (.iload_n 1, 1) := by decide +kernel
theorem dX3_close_84 : decode cX3_close 84 = .ok (.ireturn, 1) := by decide +kernel
theorem dX3_box_0 : decode cX3_box 0 = .ok (.aload_n 0, 1) := by decide +kernel
theorem dX3_box_1 : decode cX3_box 1 = .ok (.iload_n 1, 1) := by decide +kernel
theorem dX3_box_2 : decode cX3_box 2 = .ok (.invokevirtual 62, 3) := by decide +kernel
theorem dX3_box_5 : decode cX3_box 5 = .ok (.getfield 200, 3) := by decide +kernel
theorem dX3_box_8 : decode cX3_box 8 = .ok (.ireturn, 1) := by decide +kernel
theorem dX3_count_0 : decode cX3_count 0 = .ok (.iload_n 1, 1) := by decide +kernel
theorem dX3_count_1 : decode cX3_count 1 = .ok (.tableswitch 90 0 6 #[43, 48, 56, 61, 66, 74, 82], 43) := by decide +kernel
theorem dX3_count_44 : decode cX3_count 44 = .ok (.aload_n 0, 1) := by decide +kernel
theorem dX3_count_45 : decode cX3_count 45 = .ok (.getfield 49, 3) := by decide +kernel
theorem dX3_count_48 : decode cX3_count 48 = .ok (.ireturn, 1) := by decide +kernel
theorem dX3_count_49 : decode cX3_count 49 = .ok (.aload_n 0, 1) := by decide +kernel
theorem dX3_count_50 : decode cX3_count 50 = .ok (.getfield 25, 3) := by decide +kernel
theorem dX3_count_53 : decode cX3_count 53 = .ok (.invokevirtual 188, 3) := by decide +kernel
theorem dX3_count_56 : decode cX3_count 56 = .ok (.ireturn, 1) := by decide +kernel
theorem dX3_count_57 : decode cX3_count 57 = .ok (.aload_n 0, 1) := by decide +kernel
theorem dX3_count_58 : decode cX3_count 58 = .ok (.invokevirtual 206, 3) := by decide +kernel
theorem dX3_count_61 : decode cX3_count 61 = .ok (.ireturn, 1) := by decide +kernel
theorem dX3_count_62 : decode cX3_count 62 = .ok (.aload_n 0, 1) := by decide +kernel
theorem dX3_count_63 : decode cX3_count 63 = .ok (.getfield 193, 3) := by decide +kernel
theorem dX3_count_66 : decode cX3_count 66 = .ok (.ireturn, 1) := by decide +kernel
theorem dX3_count_67 : decode cX3_count 67 = .ok (.aload_n 0, 1) := by decide +kernel
theorem dX3_count_68 : decode cX3_count 68 = .ok (.getfield 25, 3) := by decide +kernel
theorem dX3_count_71 : decode cX3_count 71 = .ok (.invokevirtual 114, 3) := by decide +kernel
theorem dX3_count_74 : decode cX3_count 74 = .ok (.ireturn, 1) := by decide +kernel
theorem dX3_count_75 : decode cX3_count 75 = .ok (.aload_n 0, 1) := by decide +kernel
theorem dX3_count_76 : decode cX3_count 76 = .ok (.getfield 25, 3) := by decide +kernel
theorem dX3_count_79 : decode cX3_count 79 = .ok (.invokevirtual 209, 3) := by decide +kernel
theorem dX3_count_82 : decode cX3_count 82 = .ok (.ireturn, 1) := by decide +kernel
theorem dX3_count_83 : decode cX3_count 83 = .ok (.aload_n 0, 1) := by decide +kernel
theorem dX3_count_84 : decode cX3_count 84 = .ok (.getfield 25, 3) := by decide +kernel
theorem dX3_count_87 : decode cX3_count 87 = .ok (.invokevirtual 212, 3) := by decide +kernel
theorem dX3_count_90 : decode cX3_count 90 = .ok (.ireturn, 1) := by decide +kernel
theorem dX3_count_91 : decode cX3_count 91 = .ok (.iconst (-1), 1) := by decide +kernel
theorem dX3_count_92 : decode cX3_count 92 = .ok (.ireturn, 1) := by decide +kernel
theorem dX3_asSide_0 : decode cX3_asSide 0 = .ok (.iconst 1, 1) := by decide +kernel
theorem dX3_asSide_1 : decode cX3_asSide 1 = .ok (.bipush 8, 2) := by decide +kernel
theorem dX3_asSide_3 : decode cX3_asSide 3 = .ok (.iload_n 0, 1) := by decide +kernel
theorem dX3_asSide_4 : decode cX3_asSide 4 = .ok (.invokestatic 128, 3) := by decide +kernel
theorem dX3_asSide_7 : decode cX3_asSide 7 = .ok (.invokestatic 215, 3) := by decide +kernel
theorem dX3_asSide_10 : decode cX3_asSide 10 = .ok (.ireturn, 1) := by decide +kernel
theorem dX3_isSide_0 : decode cX3_isSide 0 = .ok (.iload_n 0, 1) := by decide +kernel
theorem dX3_isSide_1 : decode cX3_isSide 1 = .ok (.iconst 1, 1) := by decide +kernel
theorem dX3_isSide_2 : decode cX3_isSide 2 = .ok (.if_icmp .lt 13, 3) := by decide +kernel
theorem dX3_isSide_5 : decode cX3_isSide 5 = .ok (.iload_n 0, 1) := by decide +kernel
theorem dX3_isSide_6 : decode cX3_isSide 6 = .ok (.bipush 8, 2) := by decide +kernel
theorem dX3_isSide_8 : decode cX3_isSide 8 = .ok (.if_icmp .gt 7, 3) := by decide +kernel
theorem dX3_isSide_11 : decode cX3_isSide 11 = .ok (.iconst 1, 1) := by decide +kernel
theorem dX3_isSide_12 : decode cX3_isSide 12 = .ok (.goto 4, 3) := by decide +kernel
theorem dX3_isSide_15 : decode cX3_isSide 15 = .ok (.iconst 0, 1) := by decide +kernel
theorem dX3_isSide_16 : decode cX3_isSide 16 = .ok (.ireturn, 1) := by decide +kernel
theorem dX3_isIn_0 : decode cX3_isIn 0 = .ok (.iload_n 0, 1) := by decide +kernel
theorem dX3_isIn_1 : decode cX3_isIn 1 = .ok (.iload_n 1, 1) := by decide +kernel
theorem dX3_isIn_2 : decode cX3_isIn 2 = .ok (.ishr, 1) := by decide +kernel
theorem dX3_isIn_3 : decode cX3_isIn 3 = .ok (.iconst 1, 1) := by decide +kernel
theorem dX3_isIn_4 : decode cX3_isIn 4 = .ok (.iand, 1) := by decide +kernel
theorem dX3_isIn_5 : decode cX3_isIn 5 = .ok (.iconst 1, 1) := by decide +kernel
theorem dX3_isIn_6 : decode cX3_isIn 6 = .ok (.if_icmp .ne 7, 3) := by decide +kernel
theorem dX3_isIn_9 : decode cX3_isIn 9 = .ok (.iconst 1, 1) := by decide +kernel
theorem dX3_isIn_10 : decode cX3_isIn 10 = .ok (.goto 4, 3) := by decide +kernel
theorem dX3_isIn_13 : decode cX3_isIn 13 = .ok (.iconst 0, 1) := by decide +kernel
theorem dX3_isIn_14 : decode cX3_isIn 14 = .ok (.ireturn, 1) := by decide +kernel
theorem dX3_known_0 : decode cX3_known 0 = .ok (.iload_n 1, 1) := by decide +kernel
theorem dX3_known_1 : decode cX3_known 1 = .ok (.ifCond .lt 11, 3) := by decide +kernel
theorem dX3_known_4 : decode cX3_known 4 = .ok (.iload_n 1, 1) := by decide +kernel
theorem dX3_known_5 : decode cX3_known 5 = .ok (.aload_n 0, 1) := by decide +kernel
theorem dX3_known_6 : decode cX3_known 6 = .ok (.getfield 49, 3) := by decide +kernel
theorem dX3_known_9 : decode cX3_known 9 = .ok (.if_icmp .lt 13, 3) := by decide +kernel
theorem dX3_known_12 : decode cX3_known 12 = .ok (.new 218, 3) := by decide +kernel
theorem dX3_known_15 : decode cX3_known 15 = .ok (.dup, 1) := by decide +kernel
theorem dX3_known_16 : decode cX3_known 16 = .ok (.ldc 220, 2) := by decide +kernel
theorem dX3_known_18 : decode cX3_known 18 = .ok (.invokespecial 222, 3) := by decide +kernel
theorem dX3_known_21 : decode cX3_known 21 = .ok (.athrow, 1) := by decide +kernel
theorem dX3_known_22 : decode cX3_known 22 = .ok (.aload_n 0, 1) := by decide +kernel
theorem dX3_known_23 : decode cX3_known 23 = .ok (.getfield 15, 3) := by decide +kernel
theorem dX3_known_26 : decode cX3_known 26 = .ok (.iload_n 1, 1) := by decide +kernel
theorem dX3_known_27 : decode cX3_known 27 = .ok (.aaload, 1) := by decide +kernel
theorem dX3_known_28 : decode cX3_known 28 = .ok (.areturn, 1) := by decide +kernel
theorem dX3_spotOf_0 : decode cX3_spotOf 0 = .ok (.iload_n 1, 1) := by decide +kernel
theorem dX3_spotOf_1 : decode cX3_spotOf 1 = .ok (.ifCond .lt 11, 3) := by decide +kernel
theorem dX3_spotOf_4 : decode cX3_spotOf 4 = .ok (.iload_n 1, 1) := by decide +kernel
theorem dX3_spotOf_5 : decode cX3_spotOf 5 = .ok (.aload_n 0, 1) := by decide +kernel
theorem dX3_spotOf_6 : decode cX3_spotOf 6 = .ok (.getfield 49, 3) := by decide +kernel
theorem dX3_spotOf_9 : decode cX3_spotOf 9 = .ok (.if_icmp .lt 13, 3) := by decide +kernel
theorem dX3_spotOf_12 : decode cX3_spotOf 12 = .ok (.new 218, 3) := by decide +kernel
theorem dX3_spotOf_15 : decode cX3_spotOf 15 = .ok (.dup, 1) := by decide +kernel
theorem dX3_spotOf_16 : decode cX3_spotOf 16 = .ok (.ldc 220, 2) := by decide +kernel
theorem dX3_spotOf_18 : decode cX3_spotOf 18 = .ok (.invokespecial 222, 3) := by decide +kernel
theorem dX3_spotOf_21 : decode cX3_spotOf 21 = .ok (.athrow, 1) := by decide +kernel
theorem dX3_spotOf_22 : decode cX3_spotOf 22 = .ok (.aload_n 0, 1) := by decide +kernel
theorem dX3_spotOf_23 : decode cX3_spotOf 23 = .ok (.getfield 25, 3) := by decide +kernel
theorem dX3_spotOf_26 : decode cX3_spotOf 26 = .ok (.getfield 196, 3) := by decide +kernel
theorem dX3_spotOf_29 : decode cX3_spotOf 29 = .ok (.iload_n 1, 1) := by decide +kernel
theorem dX3_spotOf_30 : decode cX3_spotOf 30 = .ok (.aaload, 1) := by decide +kernel
theorem dX3_spotOf_31 : decode cX3_spotOf 31 = .ok (.areturn, 1) := by decide +kernel
theorem dX3_unpackedCount_0 : decode cX3_unpackedCount 0 = .ok (.iconst 0, 1) := by decide +kernel
theorem dX3_unpackedCount_1 : decode cX3_unpackedCount 1 = .ok (.istore_n 1, 1) := by decide +kernel
theorem dX3_unpackedCount_2 : decode cX3_unpackedCount 2 = .ok (.iconst 0, 1) := by decide +kernel
theorem dX3_unpackedCount_3 : decode cX3_unpackedCount 3 = .ok (.istore_n 2, 1) := by decide +kernel
theorem dX3_unpackedCount_4 : decode cX3_unpackedCount 4 = .ok (.iload_n 2, 1) := by decide +kernel
theorem dX3_unpackedCount_5 : decode cX3_unpackedCount 5 = .ok (.aload_n 0, 1) := by decide +kernel
theorem dX3_unpackedCount_6 : decode cX3_unpackedCount 6 = .ok (.getfield 49, 3) := by decide +kernel
theorem dX3_unpackedCount_9 : decode cX3_unpackedCount 9 = .ok (.if_icmp .ge 24, 3) := by decide +kernel
theorem dX3_unpackedCount_12 : decode cX3_unpackedCount 12 = .ok (.aload_n 0, 1) := by decide +kernel
theorem dX3_unpackedCount_13 : decode cX3_unpackedCount 13 = .ok (.getfield 15, 3) := by decide +kernel
theorem dX3_unpackedCount_16 : decode cX3_unpackedCount 16 = .ok (.iload_n 2, 1) := by decide +kernel
theorem dX3_unpackedCount_17 : decode cX3_unpackedCount 17 = .ok (.aaload, 1) := by decide +kernel
theorem dX3_unpackedCount_18 : decode cX3_unpackedCount 18 = .ok (.invokevirtual 86, 3) := by decide +kernel
theorem dX3_unpackedCount_21 : decode cX3_unpackedCount 21 = .ok (.ifCond .ne 6, 3) := by decide +kernel
theorem dX3_unpackedCount_24 : decode cX3_unpackedCount 24 = .ok (.iinc 1 1, 3) := by decide +kernel
theorem dX3_unpackedCount_27 : decode cX3_unpackedCount 27 = .ok (.iinc 2 1, 3) := by decide +kernel
theorem dX3_unpackedCount_30 : decode cX3_unpackedCount 30 = .ok (.goto (-26), 3) := by decide +kernel
theorem dX3_unpackedCount_33 : decode cX3_unpackedCount 33 = .ok (.iload_n 1, 1) := by decide +kernel
theorem dX3_unpackedCount_34 : decode cX3_unpackedCount 34 = .ok (.ireturn, 1) := by decide +kernel
theorem dX3_positionOf_0 : decode cX3_positionOf 0 = .ok (.iconst 0, 1) := by decide +kernel
theorem dX3_positionOf_1 : decode cX3_positionOf 1 = .ok (.istore_n 3, 1) := by decide +kernel
theorem dX3_positionOf_2 : decode cX3_positionOf 2 = .ok (.iconst 0, 1) := by decide +kernel
theorem dX3_positionOf_3 : decode cX3_positionOf 3 = .ok (.istore 4, 2) := by decide +kernel
theorem dX3_positionOf_5 : decode cX3_positionOf 5 = .ok (.iload 4, 2) := by decide +kernel
theorem dX3_positionOf_7 : decode cX3_positionOf 7 = .ok (.aload_n 0, 1) := by decide +kernel
theorem dX3_positionOf_8 : decode cX3_positionOf 8 = .ok (.getfield 49, 3) := by decide +kernel
theorem dX3_positionOf_11 : decode cX3_positionOf 11 = .ok (.if_icmp .ge 77, 3) := by decide +kernel
theorem dX3_positionOf_14 : decode cX3_positionOf 14 = .ok (.aload_n 0, 1) := by decide +kernel
theorem dX3_positionOf_15 : decode cX3_positionOf 15 = .ok (.getfield 15, 3) := by decide +kernel
theorem dX3_positionOf_18 : decode cX3_positionOf 18 = .ok (.iload 4, 2) := by decide +kernel
theorem dX3_positionOf_20 : decode cX3_positionOf 20 = .ok (.aaload, 1) := by decide +kernel
theorem dX3_positionOf_21 : decode cX3_positionOf 21 = .ok (.getfield 83, 3) := by decide +kernel
theorem dX3_positionOf_24 : decode cX3_positionOf 24 = .ok (.aload_n 1, 1) := by decide +kernel
theorem dX3_positionOf_25 : decode cX3_positionOf 25 = .ok (.getfield 83, 3) := by decide +kernel
theorem dX3_positionOf_28 : decode cX3_positionOf 28 = .ok (.if_icmp .lt 26, 3) := by decide +kernel
theorem dX3_positionOf_31 : decode cX3_positionOf 31 = .ok (.aload_n 0, 1) := by decide +kernel
theorem dX3_positionOf_32 : decode cX3_positionOf 32 = .ok (.getfield 15, 3) := by decide +kernel
theorem dX3_positionOf_35 : decode cX3_positionOf 35 = .ok (.iload 4, 2) := by decide +kernel
theorem dX3_positionOf_37 : decode cX3_positionOf 37 = .ok (.aaload, 1) := by decide +kernel
theorem dX3_positionOf_38 : decode cX3_positionOf 38 = .ok (.getfield 83, 3) := by decide +kernel
theorem dX3_positionOf_41 : decode cX3_positionOf 41 = .ok (.aload_n 1, 1) := by decide +kernel
theorem dX3_positionOf_42 : decode cX3_positionOf 42 = .ok (.getfield 83, 3) := by decide +kernel
theorem dX3_positionOf_45 : decode cX3_positionOf 45 = .ok (.if_icmp .ne 13, 3) := by decide +kernel
theorem dX3_positionOf_48 : decode cX3_positionOf 48 = .ok (.iload 4, 2) := by decide +kernel
theorem dX3_positionOf_50 : decode cX3_positionOf 50 = .ok (.iload_n 2, 1) := by decide +kernel
theorem dX3_positionOf_51 : decode cX3_positionOf 51 = .ok (.if_icmp .ge 7, 3) := by decide +kernel
theorem dX3_positionOf_54 : decode cX3_positionOf 54 = .ok (.iconst 1, 1) := by decide +kernel
theorem dX3_positionOf_55 : decode cX3_positionOf 55 = .ok (.goto 4, 3) := by decide +kernel
theorem dX3_positionOf_58 : decode cX3_positionOf 58 = .ok (.iconst 0, 1) := by decide +kernel
theorem dX3_positionOf_59 : decode cX3_positionOf 59 = .ok (.istore 5, 2) := by decide +kernel
theorem dX3_positionOf_61 : decode cX3_positionOf 61 = .ok (.iload 5, 2) := by decide +kernel
theorem dX3_positionOf_63 : decode cX3_positionOf 63 = .ok (.ifCond .eq 19, 3) := by decide +kernel
theorem dX3_positionOf_66 : decode cX3_positionOf 66 = .ok (.aload_n 0, 1) := by decide +kernel
theorem dX3_positionOf_67 : decode cX3_positionOf 67 = .ok (.getfield 15, 3) := by decide +kernel
theorem dX3_positionOf_70 : decode cX3_positionOf 70 = .ok (.iload 4, 2) := by decide +kernel
theorem dX3_positionOf_72 : decode cX3_positionOf 72 = .ok (.aaload, 1) := by decide +kernel
theorem dX3_positionOf_73 : decode cX3_positionOf 73 = .ok (.invokevirtual 86, 3) := by decide +kernel
theorem dX3_positionOf_76 : decode cX3_positionOf 76 = .ok (.ifCond .ne 6, 3) := by decide +kernel
theorem dX3_positionOf_79 : decode cX3_positionOf 79 = .ok (.iinc 3 1, 3) := by decide +kernel
theorem dX3_positionOf_82 : decode cX3_positionOf 82 = .ok (.iinc 4 1, 3) := by decide +kernel
theorem dX3_positionOf_85 : decode cX3_positionOf 85 = .ok (.goto (-80), 3) := by decide +kernel
theorem dX3_positionOf_88 : decode cX3_positionOf 88 = .ok (.iload_n 3, 1) := by decide +kernel
theorem dX3_positionOf_89 : decode cX3_positionOf 89 = .ok (.ireturn, 1) := by decide +kernel
theorem dX3_fitsAlone_0 : decode cX3_fitsAlone 0 = .ok (.iconst 0, 1) := by decide +kernel
theorem dX3_fitsAlone_1 : decode cX3_fitsAlone 1 = .ok (.istore_n 2, 1) := by decide +kernel
theorem dX3_fitsAlone_2 : decode cX3_fitsAlone 2 = .ok (.iload_n 2, 1) := by decide +kernel
theorem dX3_fitsAlone_3 : decode cX3_fitsAlone 3 = .ok (.bipush 6, 2) := by decide +kernel
theorem dX3_fitsAlone_5 : decode cX3_fitsAlone 5 = .ok (.if_icmp .ge 44, 3) := by decide +kernel
theorem dX3_fitsAlone_8 : decode cX3_fitsAlone 8 = .ok (.aload_n 1, 1) := by decide +kernel
theorem dX3_fitsAlone_9 : decode cX3_fitsAlone 9 = .ok (.iload_n 2, 1) := by decide +kernel
theorem dX3_fitsAlone_10 : decode cX3_fitsAlone 10 = .ok (.invokevirtual 223, 3) := by decide +kernel
theorem dX3_fitsAlone_13 : decode cX3_fitsAlone 13 = .ok (.ifCond .eq 30, 3) := by decide +kernel
theorem dX3_fitsAlone_16 : decode cX3_fitsAlone 16 = .ok (.aload_n 0, 1) := by decide +kernel
theorem dX3_fitsAlone_17 : decode cX3_fitsAlone 17 = .ok (.getfield 25, 3) := by decide +kernel
theorem dX3_fitsAlone_20 : decode cX3_fitsAlone 20 = .ok (.aload_n 1, 1) := by decide +kernel
theorem dX3_fitsAlone_21 : decode cX3_fitsAlone 21 = .ok (.iload_n 2, 1) := by decide +kernel
theorem dX3_fitsAlone_22 : decode cX3_fitsAlone 22 = .ok (.invokevirtual 226, 3) := by decide +kernel
theorem dX3_fitsAlone_25 : decode cX3_fitsAlone 25 = .ok (.aload_n 1, 1) := by decide +kernel
theorem dX3_fitsAlone_26 : decode cX3_fitsAlone 26 = .ok (.iload_n 2, 1) := by decide +kernel
theorem dX3_fitsAlone_27 : decode cX3_fitsAlone 27 = .ok (.invokevirtual 229, 3) := by decide +kernel
theorem dX3_fitsAlone_30 : decode cX3_fitsAlone 30 = .ok (.aload_n 1, 1) := by decide +kernel
theorem dX3_fitsAlone_31 : decode cX3_fitsAlone 31 = .ok (.iload_n 2, 1) := by decide +kernel
theorem dX3_fitsAlone_32 : decode cX3_fitsAlone 32 = .ok (.invokevirtual 232, 3) := by decide +kernel
theorem dX3_fitsAlone_35 : decode cX3_fitsAlone 35 = .ok (.invokevirtual 235, 3) := by decide +kernel
theorem dX3_fitsAlone_38 : decode cX3_fitsAlone 38 = .ok (.ifCond .eq 5, 3) := by decide +kernel
theorem dX3_fitsAlone_41 : decode cX3_fitsAlone 41 = .ok (.iconst 1, 1) := by decide +kernel
theorem dX3_fitsAlone_42 : decode cX3_fitsAlone 42 = .ok (.ireturn, 1) := by decide +kernel
theorem dX3_fitsAlone_43 : decode cX3_fitsAlone 43 = .ok (.iinc 2 1, 3) := by decide +kernel
theorem dX3_fitsAlone_46 : decode cX3_fitsAlone 46 = .ok (.goto (-44), 3) := by decide +kernel
theorem dX3_fitsAlone_49 : decode cX3_fitsAlone 49 = .ok (.iconst 0, 1) := by decide +kernel
theorem dX3_fitsAlone_50 : decode cX3_fitsAlone 50 = .ok (.ireturn, 1) := by decide +kernel
theorem dX3_startSearch_0 : decode cX3_startSearch 0 = .ok (.aload_n 0, 1) := by decide +kernel
theorem dX3_startSearch_1 : decode cX3_startSearch 1 = .ok (.getfield 25, 3) := by decide +kernel
theorem dX3_startSearch_4 : decode cX3_startSearch 4 = .ok (.invokevirtual 203, 3) := by decide +kernel
theorem dX3_startSearch_7 : decode cX3_startSearch 7 = .ok (.aload_n 0, 1) := by decide +kernel
theorem dX3_startSearch_8 : decode cX3_startSearch 8 = .ok (.iload_n 1, 1) := by decide +kernel
theorem dX3_startSearch_9 : decode cX3_startSearch 9 = .ok (.putfield 238, 3) := by decide +kernel
theorem dX3_startSearch_12 : decode cX3_startSearch 12 = .ok (.aload_n 0, 1) := by decide +kernel
theorem dX3_startSearch_13 : decode cX3_startSearch 13 = .ok (.iconst 0, 1) := by decide +kernel
theorem dX3_startSearch_14 : decode cX3_startSearch 14 = .ok (.putfield 117, 3) := by decide +kernel
theorem dX3_startSearch_17 : decode cX3_startSearch 17 = .ok (.aload_n 0, 1) := by decide +kernel
theorem dX3_startSearch_18 : decode cX3_startSearch 18 = .ok (.iconst (-1), 1) := by decide +kernel
theorem dX3_startSearch_19 : decode cX3_startSearch 19 = .ok (.putfield 241, 3) := by decide +kernel
theorem dX3_startSearch_22 : decode cX3_startSearch 22 = .ok (.aload_n 0, 1) := by decide +kernel
theorem dX3_startSearch_23 : decode cX3_startSearch 23 = .ok (.iconst 0, 1) := by decide +kernel
theorem dX3_startSearch_24 : decode cX3_startSearch 24 = .ok (.putfield 107, 3) := by decide +kernel
theorem dX3_startSearch_27 : decode cX3_startSearch 27 = .ok (.aload_n 0, 1) := by decide +kernel
theorem dX3_startSearch_28 : decode cX3_startSearch 28 = .ok (.invokevirtual 244, 3) := by decide +kernel
theorem dX3_startSearch_31 : decode cX3_startSearch 31 = .ok (.return_, 1) := by decide +kernel
theorem dX3_putInOrder_0 : decode cX3_putInOrder 0 = .ok (.aload_n 0, 1) := by decide +kernel
theorem dX3_putInOrder_1 : decode cX3_putInOrder 1 = .ok (.iconst 0, 1) := by decide +kernel
theorem dX3_putInOrder_2 : decode cX3_putInOrder 2 = .ok (.putfield 247, 3) := by decide +kernel
theorem dX3_putInOrder_5 : decode cX3_putInOrder 5 = .ok (.iconst 0, 1) := by decide +kernel
theorem dX3_putInOrder_6 : decode cX3_putInOrder 6 = .ok (.istore_n 1, 1) := by decide +kernel
theorem dX3_putInOrder_7 : decode cX3_putInOrder 7 = .ok (.iload_n 1, 1) := by decide +kernel
theorem dX3_putInOrder_8 : decode cX3_putInOrder 8 = .ok (.bipush 9, 2) := by decide +kernel
theorem dX3_putInOrder_10 : decode cX3_putInOrder 10 = .ok (.if_icmp .gt 82, 3) := by decide +kernel
theorem dX3_putInOrder_13 : decode cX3_putInOrder 13 = .ok (.iconst 0, 1) := by decide +kernel
theorem dX3_putInOrder_14 : decode cX3_putInOrder 14 = .ok (.istore_n 2, 1) := by decide +kernel
theorem dX3_putInOrder_15 : decode cX3_putInOrder 15 = .ok (.iload_n 2, 1) := by decide +kernel
theorem dX3_putInOrder_16 : decode cX3_putInOrder 16 = .ok (.aload_n 0, 1) := by decide +kernel
theorem dX3_putInOrder_17 : decode cX3_putInOrder 17 = .ok (.getfield 49, 3) := by decide +kernel
theorem dX3_putInOrder_20 : decode cX3_putInOrder 20 = .ok (.if_icmp .ge 66, 3) := by decide +kernel
theorem dX3_putInOrder_23 : decode cX3_putInOrder 23 = .ok (.aload_n 0, 1) := by decide +kernel
theorem dX3_putInOrder_24 : decode cX3_putInOrder 24 = .ok (.getfield 247, 3) := by decide +kernel
theorem dX3_putInOrder_27 : decode cX3_putInOrder 27 = .ok (.aload_n 0, 1) := by decide +kernel
theorem dX3_putInOrder_28 : decode cX3_putInOrder 28 = .ok (.getfield 32, 3) := by decide +kernel
theorem dX3_putInOrder_31 : decode cX3_putInOrder 31 = .ok (.arraylength, 1) := by decide +kernel
theorem dX3_putInOrder_32 : decode cX3_putInOrder 32 = .ok (.if_icmp .ge 54, 3) := by decide +kernel
theorem dX3_putInOrder_35 : decode cX3_putInOrder 35 = .ok (.aload_n 0, 1) := by decide +kernel
theorem dX3_putInOrder_36 : decode cX3_putInOrder 36 = .ok (.getfield 15, 3) := by decide +kernel
theorem dX3_putInOrder_39 : decode cX3_putInOrder 39 = .ok (.iload_n 2, 1) := by decide +kernel
theorem dX3_putInOrder_40 : decode cX3_putInOrder 40 = .ok (.aaload, 1) := by decide +kernel
theorem dX3_putInOrder_41 : decode cX3_putInOrder 41 = .ok (.getfield 83, 3) := by decide +kernel
theorem dX3_putInOrder_44 : decode cX3_putInOrder 44 = .ok (.iload_n 1, 1) := by decide +kernel
theorem dX3_putInOrder_45 : decode cX3_putInOrder 45 = .ok (.if_icmp .ne 35, 3) := by decide +kernel
theorem dX3_putInOrder_48 : decode cX3_putInOrder 48 = .ok (.aload_n 0, 1) := by decide +kernel
theorem dX3_putInOrder_49 : decode cX3_putInOrder 49 = .ok (.getfield 15, 3) := by decide +kernel
theorem dX3_putInOrder_52 : decode cX3_putInOrder 52 = .ok (.iload_n 2, 1) := by decide +kernel
theorem dX3_putInOrder_53 : decode cX3_putInOrder 53 = .ok (.aaload, 1) := by decide +kernel
theorem dX3_putInOrder_54 : decode cX3_putInOrder 54 = .ok (.invokevirtual 86, 3) := by decide +kernel
theorem dX3_putInOrder_57 : decode cX3_putInOrder 57 = .ok (.ifCond .ne 23, 3) := by decide +kernel
theorem dX3_putInOrder_60 : decode cX3_putInOrder 60 = .ok (.aload_n 0, 1) := by decide +kernel
theorem dX3_putInOrder_61 : decode cX3_putInOrder 61 = .ok (.getfield 32, 3) := by decide +kernel
theorem dX3_putInOrder_64 : decode cX3_putInOrder 64 = .ok (.aload_n 0, 1) := by decide +kernel
theorem dX3_putInOrder_65 : decode cX3_putInOrder 65 = .ok (.getfield 247, 3) := by decide +kernel
theorem dX3_putInOrder_68 : decode cX3_putInOrder 68 = .ok (.iload_n 2, 1) := by decide +kernel
theorem dX3_putInOrder_69 : decode cX3_putInOrder 69 = .ok (.iastore, 1) := by decide +kernel
theorem dX3_putInOrder_70 : decode cX3_putInOrder 70 = .ok (.aload_n 0, 1) := by decide +kernel
theorem dX3_putInOrder_71 : decode cX3_putInOrder 71 = .ok (.dup, 1) := by decide +kernel
theorem dX3_putInOrder_72 : decode cX3_putInOrder 72 = .ok (.getfield 247, 3) := by decide +kernel
theorem dX3_putInOrder_75 : decode cX3_putInOrder 75 = .ok (.iconst 1, 1) := by decide +kernel
theorem dX3_putInOrder_76 : decode cX3_putInOrder 76 = .ok (.iadd, 1) := by decide +kernel
theorem dX3_putInOrder_77 : decode cX3_putInOrder 77 = .ok (.putfield 247, 3) := by decide +kernel
theorem dX3_putInOrder_80 : decode cX3_putInOrder 80 = .ok (.iinc 2 1, 3) := by decide +kernel
theorem dX3_putInOrder_83 : decode cX3_putInOrder 83 = .ok (.goto (-68), 3) := by decide +kernel
theorem dX3_putInOrder_86 : decode cX3_putInOrder 86 = .ok (.iinc 1 1, 3) := by decide +kernel
theorem dX3_putInOrder_89 : decode cX3_putInOrder 89 = .ok (.goto (-82), 3) := by decide +kernel
theorem dX3_putInOrder_92 : decode cX3_putInOrder 92 = .ok (.return_, 1) := by decide +kernel
theorem dX3_searchFrom_0 : decode cX3_searchFrom 0 = .ok (.iload_n 1, 1) := by decide +kernel
theorem dX3_searchFrom_1 : decode cX3_searchFrom 1 = .ok (.aload_n 0, 1) := by decide +kernel
theorem dX3_searchFrom_2 : decode cX3_searchFrom 2 = .ok (.getfield 247, 3) := by decide +kernel
theorem dX3_searchFrom_5 : decode cX3_searchFrom 5 = .ok (.if_icmp .lt 8, 3) := by decide +kernel
theorem dX3_searchFrom_8 : decode cX3_searchFrom 8 = .ok (.aload_n 0, 1) := by decide +kernel
theorem dX3_searchFrom_9 : decode cX3_searchFrom 9 = .ok (.invokevirtual 250, 3) := by decide +kernel
theorem dX3_searchFrom_12 : decode cX3_searchFrom 12 = .ok (.return_, 1) := by decide +kernel
theorem dX3_searchFrom_13 : decode cX3_searchFrom 13 = .ok (.aload_n 0, 1) := by decide +kernel
theorem dX3_searchFrom_14 : decode cX3_searchFrom 14 = .ok (.getfield 32, 3) := by decide +kernel
theorem dX3_searchFrom_17 : decode cX3_searchFrom 17 = .ok (.iload_n 1, 1) := by decide +kernel
theorem dX3_searchFrom_18 : decode cX3_searchFrom 18 = .ok (.iaload, 1) := by decide +kernel
theorem dX3_searchFrom_19 : decode cX3_searchFrom 19 = .ok (.istore_n 2, 1) := by decide +kernel
theorem dX3_searchFrom_20 : decode cX3_searchFrom 20 = .ok (.iconst 0, 1) := by decide +kernel
theorem dX3_searchFrom_21 : decode cX3_searchFrom 21 = .ok (.istore_n 3, 1) := by decide +kernel
theorem dX3_searchFrom_22 : decode cX3_searchFrom 22 = .ok (.iload_n 3, 1) := by decide +kernel
theorem dX3_searchFrom_23 : decode cX3_searchFrom 23 = .ok (.bipush 6, 2) := by decide +kernel
theorem dX3_searchFrom_25 : decode cX3_searchFrom 25 = .ok (.if_icmp .ge 50, 3) := by decide +kernel
theorem dX3_searchFrom_28 : decode cX3_searchFrom 28 = .ok (.aload_n 0, 1) := by decide +kernel
theorem dX3_searchFrom_29 : decode cX3_searchFrom 29 = .ok (.getfield 107, 3) := by decide +kernel
theorem dX3_searchFrom_32 : decode cX3_searchFrom 32 = .ok (.ifCond .ne 43, 3) := by decide +kernel
theorem dX3_searchFrom_35 : decode cX3_searchFrom 35 = .ok (.aload_n 0, 1) := by decide +kernel
theorem dX3_searchFrom_36 : decode cX3_searchFrom 36 = .ok (.getfield 15, 3) := by decide +kernel
theorem dX3_searchFrom_39 : decode cX3_searchFrom 39 = .ok (.iload_n 2, 1) := by decide +kernel
theorem dX3_searchFrom_40 : decode cX3_searchFrom 40 = .ok (.aaload, 1) := by decide +kernel
theorem dX3_searchFrom_41 : decode cX3_searchFrom 41 = .ok (.iload_n 3, 1) := by decide +kernel
theorem dX3_searchFrom_42 : decode cX3_searchFrom 42 = .ok (.invokevirtual 223, 3) := by decide +kernel
theorem dX3_searchFrom_45 : decode cX3_searchFrom 45 = .ok (.ifCond .eq 24, 3) := by decide +kernel
theorem dX3_searchFrom_48 : decode cX3_searchFrom 48 = .ok (.aload_n 0, 1) := by decide +kernel
theorem dX3_searchFrom_49 : decode cX3_searchFrom 49 = .ok (.iload_n 1, 1) := by decide +kernel
theorem dX3_searchFrom_50 : decode cX3_searchFrom 50 = .ok (.aload_n 0, 1) := by decide +kernel
theorem dX3_searchFrom_51 : decode cX3_searchFrom 51 = .ok (.getfield 15, 3) := by decide +kernel
theorem dX3_searchFrom_54 : decode cX3_searchFrom 54 = .ok (.iload_n 2, 1) := by decide +kernel
theorem dX3_searchFrom_55 : decode cX3_searchFrom 55 = .ok (.aaload, 1) := by decide +kernel
theorem dX3_searchFrom_56 : decode cX3_searchFrom 56 = .ok (.aload_n 0, 1) := by decide +kernel
theorem dX3_searchFrom_57 : decode cX3_searchFrom 57 = .ok (.getfield 29, 3) := by decide +kernel
theorem dX3_searchFrom_60 : decode cX3_searchFrom 60 = .ok (.getfield 196, 3) := by decide +kernel
theorem dX3_searchFrom_63 : decode cX3_searchFrom 63 = .ok (.iload_n 2, 1) := by decide +kernel
theorem dX3_searchFrom_64 : decode cX3_searchFrom 64 = .ok (.aaload, 1) := by decide +kernel
theorem dX3_searchFrom_65 : decode cX3_searchFrom 65 = .ok (.iload_n 3, 1) := by decide +kernel
theorem dX3_searchFrom_66 : decode cX3_searchFrom 66 = .ok (.invokevirtual 253, 3) := by decide +kernel
theorem dX3_searchFrom_69 : decode cX3_searchFrom 69 = .ok (.iinc 3 1, 3) := by decide +kernel
theorem dX3_searchFrom_72 : decode cX3_searchFrom 72 = .ok (.goto (-50), 3) := by decide +kernel
theorem dX3_searchFrom_75 : decode cX3_searchFrom 75 = .ok (.aload_n 0, 1) := by decide +kernel
theorem dX3_searchFrom_76 : decode cX3_searchFrom 76 = .ok (.getfield 107, 3) := by decide +kernel
theorem dX3_searchFrom_79 : decode cX3_searchFrom 79 = .ok (.ifCond .ne 10, 3) := by decide +kernel
theorem dX3_searchFrom_82 : decode cX3_searchFrom 82 = .ok (.aload_n 0, 1) := by decide +kernel
theorem dX3_searchFrom_83 : decode cX3_searchFrom 83 = .ok (.iload_n 1, 1) := by decide +kernel
theorem dX3_searchFrom_84 : decode cX3_searchFrom 84 = .ok (.iconst 1, 1) := by decide +kernel
theorem dX3_searchFrom_85 : decode cX3_searchFrom 85 = .ok (.iadd, 1) := by decide +kernel
theorem dX3_searchFrom_86 : decode cX3_searchFrom 86 = .ok (.invokevirtual 104, 3) := by decide +kernel
theorem dX3_searchFrom_89 : decode cX3_searchFrom 89 = .ok (.return_, 1) := by decide +kernel
theorem dX3_tryWay_0 : decode cX3_tryWay 0 = .ok (.aload_n 0, 1) := by decide +kernel
theorem dX3_tryWay_1 : decode cX3_tryWay 1 = .ok (.getfield 29, 3) := by decide +kernel
theorem dX3_tryWay_4 : decode cX3_tryWay 4 = .ok (.iconst 0, 1) := by decide +kernel
theorem dX3_tryWay_5 : decode cX3_tryWay 5 = .ok (.invokevirtual 257, 3) := by decide +kernel
theorem dX3_tryWay_8 : decode cX3_tryWay 8 = .ok (.istore 5, 2) := by decide +kernel
theorem dX3_tryWay_10 : decode cX3_tryWay 10 = .ok (.aload_n 0, 1) := by decide +kernel
theorem dX3_tryWay_11 : decode cX3_tryWay 11 = .ok (.getfield 29, 3) := by decide +kernel
theorem dX3_tryWay_14 : decode cX3_tryWay 14 = .ok (.iconst 1, 1) := by decide +kernel
theorem dX3_tryWay_15 : decode cX3_tryWay 15 = .ok (.invokevirtual 257, 3) := by decide +kernel
theorem dX3_tryWay_18 : decode cX3_tryWay 18 = .ok (.istore 6, 2) := by decide +kernel
theorem dX3_tryWay_20 : decode cX3_tryWay 20 = .ok (.aload_n 0, 1) := by decide +kernel
theorem dX3_tryWay_21 : decode cX3_tryWay 21 = .ok (.getfield 29, 3) := by decide +kernel
theorem dX3_tryWay_24 : decode cX3_tryWay 24 = .ok (.iconst 2, 1) := by decide +kernel
theorem dX3_tryWay_25 : decode cX3_tryWay 25 = .ok (.invokevirtual 257, 3) := by decide +kernel
theorem dX3_tryWay_28 : decode cX3_tryWay 28 = .ok (.istore 7, 2) := by decide +kernel
theorem dX3_tryWay_30 : decode cX3_tryWay 30 = .ok (.iconst 0, 1) := by decide +kernel
theorem dX3_tryWay_31 : decode cX3_tryWay 31 = .ok (.istore 8, 2) := by decide +kernel
theorem dX3_tryWay_33 : decode cX3_tryWay 33 = .ok (.iload 8, 2) := by decide +kernel
theorem dX3_tryWay_35 : decode cX3_tryWay 35 = .ok (.bipush 8, 2) := by decide +kernel
theorem dX3_tryWay_37 : decode cX3_tryWay 37 = .ok (.if_icmp .gt 154, 3) := by decide +kernel
theorem dX3_tryWay_40 : decode cX3_tryWay 40 = .ok (.iload 7, 2) := by decide +kernel
theorem dX3_tryWay_42 : decode cX3_tryWay 42 = .ok (.iload 8, 2) := by decide +kernel
theorem dX3_tryWay_44 : decode cX3_tryWay 44 = .ok (.invokestatic 260, 3) := by decide +kernel
theorem dX3_tryWay_47 : decode cX3_tryWay 47 = .ok (.ifCond .ne 6, 3) := by decide +kernel
theorem dX3_tryWay_50 : decode cX3_tryWay 50 = .ok (.goto 135, 3) := by decide +kernel
theorem dX3_tryWay_53 : decode cX3_tryWay 53 = .ok (.iconst 0, 1) := by decide +kernel
theorem dX3_tryWay_54 : decode cX3_tryWay 54 = .ok (.istore 9, 2) := by decide +kernel
theorem dX3_tryWay_56 : decode cX3_tryWay 56 = .ok (.iload 9, 2) := by decide +kernel
theorem dX3_tryWay_58 : decode cX3_tryWay 58 = .ok (.bipush 8, 2) := by decide +kernel
theorem dX3_tryWay_60 : decode cX3_tryWay 60 = .ok (.if_icmp .gt 125, 3) := by decide +kernel
theorem dX3_tryWay_63 : decode cX3_tryWay 63 = .ok (.iload 6, 2) := by decide +kernel
theorem dX3_tryWay_65 : decode cX3_tryWay 65 = .ok (.iload 9, 2) := by decide +kernel
theorem dX3_tryWay_67 : decode cX3_tryWay 67 = .ok (.invokestatic 260, 3) := by decide +kernel
theorem dX3_tryWay_70 : decode cX3_tryWay 70 = .ok (.ifCond .ne 6, 3) := by decide +kernel
theorem dX3_tryWay_73 : decode cX3_tryWay 73 = .ok (.goto 106, 3) := by decide +kernel
theorem dX3_tryWay_76 : decode cX3_tryWay 76 = .ok (.iconst 0, 1) := by decide +kernel
theorem dX3_tryWay_77 : decode cX3_tryWay 77 = .ok (.istore 10, 2) := by decide +kernel
theorem dX3_tryWay_79 : decode cX3_tryWay 79 = .ok (.iload 10, 2) := by decide +kernel
theorem dX3_tryWay_81 : decode cX3_tryWay 81 = .ok (.bipush 8, 2) := by decide +kernel
theorem dX3_tryWay_83 : decode cX3_tryWay 83 = .ok (.if_icmp .gt 96, 3) := by decide +kernel
theorem dX3_tryWay_86 : decode cX3_tryWay 86 = .ok (.iload 5, 2) := by decide +kernel
theorem dX3_tryWay_88 : decode cX3_tryWay 88 = .ok (.iload 10, 2) := by decide +kernel
theorem dX3_tryWay_90 : decode cX3_tryWay 90 = .ok (.invokestatic 260, 3) := by decide +kernel
theorem dX3_tryWay_93 : decode cX3_tryWay 93 = .ok (.ifCond .ne 6, 3) := by decide +kernel
theorem dX3_tryWay_96 : decode cX3_tryWay 96 = .ok (.goto 77, 3) := by decide +kernel
theorem dX3_tryWay_99 : decode cX3_tryWay 99 = .ok (.aload_n 0, 1) := by decide +kernel
theorem dX3_tryWay_100 : decode cX3_tryWay 100 = .ok (.getfield 117, 3) := by decide +kernel
theorem dX3_tryWay_103 : decode cX3_tryWay 103 = .ok (.aload_n 0, 1) := by decide +kernel
theorem dX3_tryWay_104 : decode cX3_tryWay 104 = .ok (.getfield 238, 3) := by decide +kernel
theorem dX3_tryWay_107 : decode cX3_tryWay 107 = .ok (.if_icmp .lt 9, 3) := by decide +kernel
theorem dX3_tryWay_110 : decode cX3_tryWay 110 = .ok (.aload_n 0, 1) := by decide +kernel
theorem dX3_tryWay_111 : decode cX3_tryWay 111 = .ok (.iconst 1, 1) := by decide +kernel
theorem dX3_tryWay_112 : decode cX3_tryWay 112 = .ok (.putfield 107, 3) := by decide +kernel
theorem dX3_tryWay_115 : decode cX3_tryWay 115 = .ok (.return_, 1) := by decide +kernel
theorem dX3_tryWay_116 : decode cX3_tryWay 116 = .ok (.aload_n 0, 1) := by decide +kernel
theorem dX3_tryWay_117 : decode cX3_tryWay 117 = .ok (.dup, 1) := by decide +kernel
theorem dX3_tryWay_118 : decode cX3_tryWay 118 = .ok (.getfield 117, 3) := by decide +kernel
theorem dX3_tryWay_121 : decode cX3_tryWay 121 = .ok (.iconst 1, 1) := by decide +kernel
theorem dX3_tryWay_122 : decode cX3_tryWay 122 = .ok (.iadd, 1) := by decide +kernel
theorem dX3_tryWay_123 : decode cX3_tryWay 123 = .ok (.putfield 117, 3) := by decide +kernel
theorem dX3_tryWay_126 : decode cX3_tryWay 126 = .ok (.aload_n 3, 1) := by decide +kernel
theorem dX3_tryWay_127 : decode cX3_tryWay 127 = .ok (.aload_n 2, 1) := by decide +kernel
theorem dX3_tryWay_128 : decode cX3_tryWay 128 = .ok (.iload 4, 2) := by decide +kernel
theorem dX3_tryWay_130 : decode cX3_tryWay 130 = .ok (.iload 10, 2) := by decide +kernel
theorem dX3_tryWay_132 : decode cX3_tryWay 132 = .ok (.iload 9, 2) := by decide +kernel
theorem dX3_tryWay_134 : decode cX3_tryWay 134 = .ok (.iload 8, 2) := by decide +kernel
theorem dX3_tryWay_136 : decode cX3_tryWay 136 = .ok (.invokevirtual 264, 3) := by decide +kernel
theorem dX3_tryWay_139 : decode cX3_tryWay 139 = .ok (.aload_n 0, 1) := by decide +kernel
theorem dX3_tryWay_140 : decode cX3_tryWay 140 = .ok (.getfield 29, 3) := by decide +kernel
theorem dX3_tryWay_143 : decode cX3_tryWay 143 = .ok (.aload_n 3, 1) := by decide +kernel
theorem dX3_tryWay_144 : decode cX3_tryWay 144 = .ok (.aload_n 0, 1) := by decide +kernel
theorem dX3_tryWay_145 : decode cX3_tryWay 145 = .ok (.getfield 96, 3) := by decide +kernel
theorem dX3_tryWay_148 : decode cX3_tryWay 148 = .ok (.invokevirtual 268, 3) := by decide +kernel
theorem dX3_tryWay_151 : decode cX3_tryWay 151 = .ok (.ifCond .eq 10, 3) := by decide +kernel
theorem dX3_tryWay_154 : decode cX3_tryWay 154 = .ok (.aload_n 0, 1) := by decide +kernel
theorem dX3_tryWay_155 : decode cX3_tryWay 155 = .ok (.iload_n 1, 1) := by decide +kernel
theorem dX3_tryWay_156 : decode cX3_tryWay 156 = .ok (.iconst 1, 1) := by decide +kernel
theorem dX3_tryWay_157 : decode cX3_tryWay 157 = .ok (.iadd, 1) := by decide +kernel
theorem dX3_tryWay_158 : decode cX3_tryWay 158 = .ok (.invokevirtual 104, 3) := by decide +kernel
theorem dX3_tryWay_161 : decode cX3_tryWay 161 = .ok (.aload_n 3, 1) := by decide +kernel
theorem dX3_tryWay_162 : decode cX3_tryWay 162 = .ok (.invokevirtual 272, 3) := by decide +kernel
theorem dX3_tryWay_165 : decode cX3_tryWay 165 = .ok (.aload_n 0, 1) := by decide +kernel
theorem dX3_tryWay_166 : decode cX3_tryWay 166 = .ok (.getfield 107, 3) := by decide +kernel
theorem dX3_tryWay_169 : decode cX3_tryWay 169 = .ok (.ifCond .eq 4, 3) := by decide +kernel
theorem dX3_tryWay_172 : decode cX3_tryWay 172 = .ok (.return_, 1) := by decide +kernel
theorem dX3_tryWay_173 : decode cX3_tryWay 173 = .ok (.iinc 10 1, 3) := by decide +kernel
theorem dX3_tryWay_176 : decode cX3_tryWay 176 = .ok (.goto (-97), 3) := by decide +kernel
theorem dX3_tryWay_179 : decode cX3_tryWay 179 = .ok (.iinc 9 1, 3) := by decide +kernel
theorem dX3_tryWay_182 : decode cX3_tryWay 182 = .ok (.goto (-126), 3) := by decide +kernel
theorem dX3_tryWay_185 : decode cX3_tryWay 185 = .ok (.iinc 8 1, 3) := by decide +kernel
theorem dX3_tryWay_188 : decode cX3_tryWay 188 = .ok (.goto (-155), 3) := by decide +kernel
theorem dX3_tryWay_191 : decode cX3_tryWay 191 = .ok (.return_, 1) := by decide +kernel
theorem dX3_lookAtTrial_0 : decode cX3_lookAtTrial 0 = .ok (.aload_n 0, 1) := by decide +kernel
theorem dX3_lookAtTrial_1 : decode cX3_lookAtTrial 1 = .ok (.getfield 29, 3) := by decide +kernel
theorem dX3_lookAtTrial_4 : decode cX3_lookAtTrial 4 = .ok (.invokevirtual 114, 3) := by decide +kernel
theorem dX3_lookAtTrial_7 : decode cX3_lookAtTrial 7 = .ok (.istore_n 1, 1) := by decide +kernel
theorem dX3_lookAtTrial_8 : decode cX3_lookAtTrial 8 = .ok (.iload_n 1, 1) := by decide +kernel
theorem dX3_lookAtTrial_9 : decode cX3_lookAtTrial 9 = .ok (.aload_n 0, 1) := by decide +kernel
theorem dX3_lookAtTrial_10 : decode cX3_lookAtTrial 10 = .ok (.getfield 241, 3) := by decide +kernel
theorem dX3_lookAtTrial_13 : decode cX3_lookAtTrial 13 = .ok (.if_icmp .le 19, 3) := by decide +kernel
theorem dX3_lookAtTrial_16 : decode cX3_lookAtTrial 16 = .ok (.aload_n 0, 1) := by decide +kernel
theorem dX3_lookAtTrial_17 : decode cX3_lookAtTrial 17 = .ok (.iload_n 1, 1) := by decide +kernel
theorem dX3_lookAtTrial_18 : decode cX3_lookAtTrial 18 = .ok (.putfield 241, 3) := by decide +kernel
theorem dX3_lookAtTrial_21 : decode cX3_lookAtTrial 21 = .ok (.aload_n 0, 1) := by decide +kernel
theorem dX3_lookAtTrial_22 : decode cX3_lookAtTrial 22 = .ok (.getfield 25, 3) := by decide +kernel
theorem dX3_lookAtTrial_25 : decode cX3_lookAtTrial 25 = .ok (.aload_n 0, 1) := by decide +kernel
theorem dX3_lookAtTrial_26 : decode cX3_lookAtTrial 26 = .ok (.getfield 29, 3) := by decide +kernel
theorem dX3_lookAtTrial_29 : decode cX3_lookAtTrial 29 = .ok (.invokevirtual 275, 3) := by decide +kernel
theorem dX3_lookAtTrial_32 : decode cX3_lookAtTrial 32 = .ok (.return_, 1) := by decide +kernel
