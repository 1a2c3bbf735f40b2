theorem dX4_noPiece_0 : decode cX4_noPiece 0 = .ok (.iload_n 1, 1) := by decide +kernel
theorem dX4_noPiece_1 : decode cX4_noPiece 1 = .ok (.ifCond .lt 11, 3) := by decide +kernel
theorem dX4_noPiece_4 : decode cX4_noPiece 4 = .ok (.iload_n 1, 1) := by decide +kernel
theorem dX4_noPiece_5 : decode cX4_noPiece 5 = .ok (.aload_n 0, 1) := by decide +kernel
theorem dX4_noPiece_6 : decode cX4_noPiece 6 = .ok (.getfield 13, 3) := by decide +kernel
theorem dX4_noPiece_9 : decode cX4_noPiece 9 = .ok (.if_icmp .lt 7, 3) := by decide +kernel
theorem dX4_noPiece_12 : decode cX4_noPiece 12 = .ok (.iconst 1, 1) := by decide +kernel
theorem dX4_noPiece_13 : decode cX4_noPiece 13 = .ok (.goto 4, 3) := by decide +kernel
theorem dX4_noPiece_16 : decode cX4_noPiece 16 = .ok (.iconst 0, 1) := by decide +kernel
theorem dX4_noPiece_17 : decode cX4_noPiece 17 = .ok (.ireturn, 1) := by decide +kernel
theorem dX4_not_0 : decode cX4_not 0 = .ok (.iload_n 0, 1) := by decide +kernel
theorem dX4_not_1 : decode cX4_not 1 = .ok (.iload_n 1, 1) := by decide +kernel
theorem dX4_not_2 : decode cX4_not 2 = .ok (.if_icmp .lt 8, 3) := by decide +kernel
theorem dX4_not_5 : decode cX4_not 5 = .ok (.iload_n 0, 1) := by decide +kernel
theorem dX4_not_6 : decode cX4_not 6 = .ok (.iload_n 2, 1) := by decide +kernel
theorem dX4_not_7 : decode cX4_not 7 = .ok (.if_icmp .le 7, 3) := by decide +kernel
theorem dX4_not_10 : decode cX4_not 10 = .ok (.iconst 1, 1) := by decide +kernel
theorem dX4_not_11 : decode cX4_not 11 = .ok (.goto 4, 3) := by decide +kernel
theorem dX4_not_14 : decode cX4_not 14 = .ok (.iconst 0, 1) := by decide +kernel
theorem dX4_not_15 : decode cX4_not 15 = .ok (.ireturn, 1) := by decide +kernel
theorem dX4_piece_0 : decode cX4_piece 0 = .ok (.aload_n 0, 1) := by decide +kernel
theorem dX4_piece_1 : decode cX4_piece 1 = .ok (.iload_n 1, 1) := by decide +kernel
theorem dX4_piece_2 : decode cX4_piece 2 = .ok (.iconst 1, 1) := by decide +kernel
theorem dX4_piece_3 : decode cX4_piece 3 = .ok (.bipush 8, 2) := by decide +kernel
theorem dX4_piece_5 : decode cX4_piece 5 = .ok (.invokestatic 188, 3) := by decide +kernel
theorem dX4_piece_8 : decode cX4_piece 8 = .ok (.ifCond .ne 34, 3) := by decide +kernel
theorem dX4_piece_11 : decode cX4_piece 11 = .ok (.iload_n 2, 1) := by decide +kernel
theorem dX4_piece_12 : decode cX4_piece 12 = .ok (.iconst 1, 1) := by decide +kernel
theorem dX4_piece_13 : decode cX4_piece 13 = .ok (.bipush 8, 2) := by decide +kernel
theorem dX4_piece_15 : decode cX4_piece 15 = .ok (.invokestatic 188, 3) := by decide +kernel
theorem dX4_piece_18 : decode cX4_piece 18 = .ok (.ifCond .ne 24, 3) := by decide +kernel
theorem dX4_piece_21 : decode cX4_piece 21 = .ok (.iload_n 3, 1) := by decide +kernel
theorem dX4_piece_22 : decode cX4_piece 22 = .ok (.iconst 1, 1) := by decide +kernel
theorem dX4_piece_23 : decode cX4_piece 23 = .ok (.bipush 8, 2) := by decide +kernel
theorem dX4_piece_25 : decode cX4_piece 25 = .ok (.invokestatic 188, 3) := by decide +kernel
theorem dX4_piece_28 : decode cX4_piece 28 = .ok (.ifCond .ne 14, 3) := by decide +kernel
theorem dX4_piece_31 : decode cX4_piece 31 = .ok (.iload 4, 2) := by decide +kernel
theorem dX4_piece_33 : decode cX4_piece 33 = .ok (.iconst 0, 1) := by decide +kernel
theorem dX4_piece_34 : decode cX4_piece 34 = .ok (.bipush 100, 2) := by decide +kernel
theorem dX4_piece_36 : decode cX4_piece 36 = .ok (.invokestatic 188, 3) := by decide +kernel
theorem dX4_piece_39 : decode cX4_piece 39 = .ok (.ifCond .eq 7, 3) := by decide +kernel
theorem dX4_piece_42 : decode cX4_piece 42 = .ok (.iconst 1, 1) := by decide +kernel
theorem dX4_piece_43 : decode cX4_piece 43 = .ok (.goto 17, 3) := by decide +kernel
theorem dX4_piece_46 : decode cX4_piece 46 = .ok (.aload_n 0, 1) := by decide +kernel
theorem dX4_piece_47 : decode cX4_piece 47 = .ok (.getfield 13, 3) := by decide +kernel
theorem dX4_piece_50 : decode cX4_piece 50 = .ok (.bipush 6, 2) := by decide +kernel
theorem dX4_piece_52 : decode cX4_piece 52 = .ok (.if_icmp .ne 7, 3) := by decide +kernel
theorem dX4_piece_55 : decode cX4_piece 55 = .ok (.iconst 2, 1) := by decide +kernel
theorem dX4_piece_56 : decode cX4_piece 56 = .ok (.goto 4, 3) := by decide +kernel
theorem dX4_piece_59 : decode cX4_piece 59 = .ok (.iconst 0, 1) := by decide +kernel
theorem dX4_piece_60 : decode cX4_piece 60 = .ok (.putfield 7, 3) := by decide +kernel
theorem dX4_piece_63 : decode cX4_piece 63 = .ok (.aload_n 0, 1) := by decide +kernel
theorem dX4_piece_64 : decode cX4_piece 64 = .ok (.getfield 7, 3) := by decide +kernel
theorem dX4_piece_67 : decode cX4_piece 67 = .ok (.ifCond .eq 5, 3) := by decide +kernel
theorem dX4_piece_70 : decode cX4_piece 70 = .ok (.iconst 0, 1) := by decide +kernel
theorem dX4_piece_71 : decode cX4_piece 71 = .ok (.ireturn, 1) := by decide +kernel
theorem dX4_piece_72 : decode cX4_piece 72 = .ok (.aload_n 0, 1) := by decide +kernel
theorem dX4_piece_73 : decode cX4_piece 73 = .ok (.getfield 16, 3) := by decide +kernel
theorem dX4_piece_76 : decode cX4_piece 76 = .ok (.iconst 3, 1) := by decide +kernel
theorem dX4_piece_77 : decode cX4_piece 77 = .ok (.aload_n 0, 1) := by decide +kernel
theorem dX4_piece_78 : decode cX4_piece 78 = .ok (.getfield 13, 3) := by decide +kernel
theorem dX4_piece_81 : decode cX4_piece 81 = .ok (.imul, 1) := by decide +kernel
theorem dX4_piece_82 : decode cX4_piece 82 = .ok (.iload_n 1, 1) := by decide +kernel
theorem dX4_piece_83 : decode cX4_piece 83 = .ok (.iastore, 1) := by decide +kernel
theorem dX4_piece_84 : decode cX4_piece 84 = .ok (.aload_n 0, 1) := by decide +kernel
theorem dX4_piece_85 : decode cX4_piece 85 = .ok (.getfield 16, 3) := by decide +kernel
theorem dX4_piece_88 : decode cX4_piece 88 = .ok (.iconst 3, 1) := by decide +kernel
theorem dX4_piece_89 : decode cX4_piece 89 = .ok (.aload_n 0, 1) := by decide +kernel
theorem dX4_piece_90 : decode cX4_piece 90 = .ok (.getfield 13, 3) := by decide +kernel
theorem dX4_piece_93 : decode cX4_piece 93 = .ok (.imul, 1) := by decide +kernel
theorem dX4_piece_94 : decode cX4_piece 94 = .ok (.iconst 1, 1) := by decide +kernel
theorem dX4_piece_95 : decode cX4_piece 95 = .ok (.iadd, 1) := by decide +kernel
theorem dX4_piece_96 : decode cX4_piece 96 = .ok (.iload_n 2, 1) := by decide +kernel
theorem dX4_piece_97 : decode cX4_piece 97 = .ok (.iastore, 1) := by decide +kernel
theorem dX4_piece_98 : decode cX4_piece 98 = .ok (.aload_n 0, 1) := by decide +kernel
theorem dX4_piece_99 : decode cX4_piece 99 = .ok (.getfield 16, 3) := by decide +kernel
theorem dX4_piece_102 : decode cX4_piece 102 = .ok (.iconst 3, 1) := by decide +kernel
theorem dX4_piece_103 : decode cX4_piece 103 = .ok (.aload_n 0, 1) := by decide +kernel
theorem dX4_piece_104 : decode cX4_piece 104 = .ok (.getfield 13, 3) := by decide +kernel
theorem dX4_piece_107 : decode cX4_piece 107 = .ok (.imul, 1) := by decide +kernel
theorem dX4_piece_108 : decode cX4_piece 108 = .ok (.iconst 2, 1) := by decide +kernel
theorem dX4_piece_109 : decode cX4_piece 109 = .ok (.iadd, 1) := by decide +kernel
theorem dX4_piece_110 : decode cX4_piece 110 = .ok (.iload_n 3, 1) := by decide +kernel
theorem dX4_piece_111 : decode cX4_piece 111 = .ok (.iastore, 1) := by decide +kernel
theorem dX4_piece_112 : decode cX4_piece 112 = .ok (.aload_n 0, 1) := by decide +kernel
theorem dX4_piece_113 : decode cX4_piece 113 = .ok (.getfield 20, 3) := by decide +kernel
theorem dX4_piece_116 : decode cX4_piece 116 = .ok (.aload_n 0, 1) := by decide +kernel
theorem dX4_piece_117 : decode cX4_piece 117 = .ok (.getfield 13, 3) := by decide +kernel
theorem dX4_piece_120 : decode cX4_piece 120 = .ok (.iload 4, 2) := by decide +kernel
theorem dX4_piece_122 : decode cX4_piece 122 = .ok (.iastore, 1) := by decide +kernel
theorem dX4_piece_123 : decode cX4_piece 123 = .ok (.aload_n 0, 1) := by decide +kernel
theorem dX4_piece_124 : decode cX4_piece 124 = .ok (.getfield 26, 3) := by decide +kernel
theorem dX4_piece_127 : decode cX4_piece 127 = .ok (.aload_n 0, 1) := by decide +kernel
theorem dX4_piece_128 : decode cX4_piece 128 = .ok (.getfield 13, 3) := by decide +kernel
theorem dX4_piece_131 : decode cX4_piece 131 = .ok (.iconst (-1), 1) := by decide +kernel
theorem dX4_piece_132 : decode cX4_piece 132 = .ok (.iastore, 1) := by decide +kernel
theorem dX4_piece_133 : decode cX4_piece 133 = .ok (.aload_n 0, 1) := by decide +kernel
theorem dX4_piece_134 : decode cX4_piece 134 = .ok (.getfield 32, 3) := by decide +kernel
theorem dX4_piece_137 : decode cX4_piece 137 = .ok (.aload_n 0, 1) := by decide +kernel
theorem dX4_piece_138 : decode cX4_piece 138 = .ok (.getfield 13, 3) := by decide +kernel
theorem dX4_piece_141 : decode cX4_piece 141 = .ok (.iconst (-1), 1) := by decide +kernel
theorem dX4_piece_142 : decode cX4_piece 142 = .ok (.iastore, 1) := by decide +kernel
theorem dX4_piece_143 : decode cX4_piece 143 = .ok (.aload_n 0, 1) := by decide +kernel
theorem dX4_piece_144 : decode cX4_piece 144 = .ok (.dup, 1) := by decide +kernel
theorem dX4_piece_145 : decode cX4_piece 145 = .ok (.getfield 13, 3) := by decide +kernel
theorem dX4_piece_148 : decode cX4_piece 148 = .ok (.iconst 1, 1) := by decide +kernel
theorem dX4_piece_149 : decode cX4_piece 149 = .ok (.iadd, 1) := by decide +kernel
theorem dX4_piece_150 : decode cX4_piece 150 = .ok (.putfield 13, 3) := by decide +kernel
theorem dX4_piece_153 : decode cX4_piece 153 = .ok (.aload_n 0, 1) := by decide +kernel
theorem dX4_piece_154 : decode cX4_piece 154 = .ok (.getfield 13, 3) := by decide +kernel
theorem dX4_piece_157 : decode cX4_piece 157 = .ok (.iconst 1, 1) := by decide +kernel
theorem dX4_piece_158 : decode cX4_piece 158 = .ok (.isub, 1) := by decide +kernel
theorem dX4_piece_159 : decode cX4_piece 159 = .ok (.ireturn, 1) := by decide +kernel
theorem dX4_turn_0 : decode cX4_turn 0 = .ok (.aload_n 0, 1) := by decide +kernel
theorem dX4_turn_1 : decode cX4_turn 1 = .ok (.aload_n 0, 1) := by decide +kernel
theorem dX4_turn_2 : decode cX4_turn 2 = .ok (.iload_n 1, 1) := by decide +kernel
theorem dX4_turn_3 : decode cX4_turn 3 = .ok (.invokevirtual 192, 3) := by decide +kernel
theorem dX4_turn_6 : decode cX4_turn 6 = .ok (.ifCond .eq 7, 3) := by decide +kernel
theorem dX4_turn_9 : decode cX4_turn 9 = .ok (.iconst 1, 1) := by decide +kernel
theorem dX4_turn_10 : decode cX4_turn 10 = .ok (.goto 17, 3) := by decide +kernel
theorem dX4_turn_13 : decode cX4_turn 13 = .ok (.iload_n 2, 1) := by decide +kernel
theorem dX4_turn_14 : decode cX4_turn 14 = .ok (.iconst 0, 1) := by decide +kernel
theorem dX4_turn_15 : decode cX4_turn 15 = .ok (.iconst 3, 1) := by decide +kernel
theorem dX4_turn_16 : decode cX4_turn 16 = .ok (.invokestatic 188, 3) := by decide +kernel
theorem dX4_turn_19 : decode cX4_turn 19 = .ok (.ifCond .eq 7, 3) := by decide +kernel
theorem dX4_turn_22 : decode cX4_turn 22 = .ok (.iconst 2, 1) := by decide +kernel
theorem dX4_turn_23 : decode cX4_turn 23 = .ok (.goto 4, 3) := by decide +kernel
theorem dX4_turn_26 : decode cX4_turn 26 = .ok (.iconst 0, 1) := by decide +kernel
theorem dX4_turn_27 : decode cX4_turn 27 = .ok (.putfield 7, 3) := by decide +kernel
theorem dX4_turn_30 : decode cX4_turn 30 = .ok (.aload_n 0, 1) := by decide +kernel
theorem dX4_turn_31 : decode cX4_turn 31 = .ok (.getfield 7, 3) := by decide +kernel
theorem dX4_turn_34 : decode cX4_turn 34 = .ok (.ifCond .eq 5, 3) := by decide +kernel
theorem dX4_turn_37 : decode cX4_turn 37 = .ok (.iconst 0, 1) := by decide +kernel
theorem dX4_turn_38 : decode cX4_turn 38 = .ok (.ireturn, 1) := by decide +kernel
theorem dX4_turn_39 : decode cX4_turn 39 = .ok (.aload_n 0, 1) := by decide +kernel
theorem dX4_turn_40 : decode cX4_turn 40 = .ok (.getfield 23, 3) := by decide +kernel
theorem dX4_turn_43 : decode cX4_turn 43 = .ok (.iload_n 1, 1) := by decide +kernel
theorem dX4_turn_44 : decode cX4_turn 44 = .ok (.iload_n 2, 1) := by decide +kernel
theorem dX4_turn_45 : decode cX4_turn 45 = .ok (.iastore, 1) := by decide +kernel
theorem dX4_turn_46 : decode cX4_turn 46 = .ok (.iconst 0, 1) := by decide +kernel
theorem dX4_turn_47 : decode cX4_turn 47 = .ok (.istore_n 3, 1) := by decide +kernel
theorem dX4_turn_48 : decode cX4_turn 48 = .ok (.iconst 0, 1) := by decide +kernel
theorem dX4_turn_49 : decode cX4_turn 49 = .ok (.istore 4, 2) := by decide +kernel
theorem dX4_turn_51 : decode cX4_turn 51 = .ok (.iload 4, 2) := by decide +kernel
theorem dX4_turn_53 : decode cX4_turn 53 = .ok (.bipush 6, 2) := by decide +kernel
theorem dX4_turn_55 : decode cX4_turn 55 = .ok (.if_icmp .ge 27, 3) := by decide +kernel
theorem dX4_turn_58 : decode cX4_turn 58 = .ok (.iload_n 3, 1) := by decide +kernel
theorem dX4_turn_59 : decode cX4_turn 59 = .ok (.aload_n 0, 1) := by decide +kernel
theorem dX4_turn_60 : decode cX4_turn 60 = .ok (.iload_n 1, 1) := by decide +kernel
theorem dX4_turn_61 : decode cX4_turn 61 = .ok (.iload 4, 2) := by decide +kernel
theorem dX4_turn_63 : decode cX4_turn 63 = .ok (.invokevirtual 162, 3) := by decide +kernel
theorem dX4_turn_66 : decode cX4_turn 66 = .ok (.ifCond .eq 7, 3) := by decide +kernel
theorem dX4_turn_69 : decode cX4_turn 69 = .ok (.iconst 1, 1) := by decide +kernel
theorem dX4_turn_70 : decode cX4_turn 70 = .ok (.goto 4, 3) := by decide +kernel
theorem dX4_turn_73 : decode cX4_turn 73 = .ok (.iconst 0, 1) := by decide +kernel
theorem dX4_turn_74 : decode cX4_turn 74 = .ok (.iadd, 1) := by decide +kernel
theorem dX4_turn_75 : decode cX4_turn 75 = .ok (.istore_n 3, 1) := by decide +kernel
theorem dX4_turn_76 : decode cX4_turn 76 = .ok (.iinc 4 1, 3) := by decide +kernel
theorem dX4_turn_79 : decode cX4_turn 79 = .ok (.goto (-28), 3) := by decide +kernel
theorem dX4_turn_82 : decode cX4_turn 82 = .ok (.iload_n 3, 1) := by decide +kernel
theorem dX4_turn_83 : decode cX4_turn 83 = .ok (.ireturn, 1) := by decide +kernel
theorem dX4_limit_0 : decode cX4_limit 0 = .ok (.aload_n 0, 1) := by decide +kernel
theorem dX4_limit_1 : decode cX4_limit 1 = .ok (.aload_n 0, 1) := by decide +kernel
theorem dX4_limit_2 : decode cX4_limit 2 = .ok (.iload_n 1, 1) := by decide +kernel
theorem dX4_limit_3 : decode cX4_limit 3 = .ok (.invokevirtual 192, 3) := by decide +kernel
theorem dX4_limit_6 : decode cX4_limit 6 = .ok (.ifCond .eq 7, 3) := by decide +kernel
theorem dX4_limit_9 : decode cX4_limit 9 = .ok (.iconst 1, 1) := by decide +kernel
theorem dX4_limit_10 : decode cX4_limit 10 = .ok (.goto 19, 3) := by decide +kernel
theorem dX4_limit_13 : decode cX4_limit 13 = .ok (.iload_n 2, 1) := by decide +kernel
theorem dX4_limit_14 : decode cX4_limit 14 = .ok (.iconst (-1), 1) := by decide +kernel
theorem dX4_limit_15 : decode cX4_limit 15 = .ok (.sipush 1000, 3) := by decide +kernel
theorem dX4_limit_18 : decode cX4_limit 18 = .ok (.invokestatic 188, 3) := by decide +kernel
theorem dX4_limit_21 : decode cX4_limit 21 = .ok (.ifCond .eq 7, 3) := by decide +kernel
theorem dX4_limit_24 : decode cX4_limit 24 = .ok (.iconst 2, 1) := by decide +kernel
theorem dX4_limit_25 : decode cX4_limit 25 = .ok (.goto 4, 3) := by decide +kernel
theorem dX4_limit_28 : decode cX4_limit 28 = .ok (.iconst 0, 1) := by decide +kernel
theorem dX4_limit_29 : decode cX4_limit 29 = .ok (.putfield 7, 3) := by decide +kernel
theorem dX4_limit_32 : decode cX4_limit 32 = .ok (.aload_n 0, 1) := by decide +kernel
theorem dX4_limit_33 : decode cX4_limit 33 = .ok (.getfield 7, 3) := by decide +kernel
theorem dX4_limit_36 : decode cX4_limit 36 = .ok (.ifCond .ne 10, 3) := by decide +kernel
theorem dX4_limit_39 : decode cX4_limit 39 = .ok (.aload_n 0, 1) := by decide +kernel
theorem dX4_limit_40 : decode cX4_limit 40 = .ok (.getfield 26, 3) := by decide +kernel
theorem dX4_limit_43 : decode cX4_limit 43 = .ok (.iload_n 1, 1) := by decide +kernel
theorem dX4_limit_44 : decode cX4_limit 44 = .ok (.iload_n 2, 1) := by decide +kernel
theorem dX4_limit_45 : decode cX4_limit 45 = .ok (.iastore, 1) := by decide +kernel
theorem dX4_limit_46 : decode cX4_limit 46 = .ok (.return_, 1) := by decide +kernel
theorem dX4_rank_0 : decode cX4_rank 0 = .ok (.aload_n 0, 1) := by decide +kernel
theorem dX4_rank_1 : decode cX4_rank 1 = .ok (.aload_n 0, 1) := by decide +kernel
theorem dX4_rank_2 : decode cX4_rank 2 = .ok (.iload_n 1, 1) := by decide +kernel
theorem dX4_rank_3 : decode cX4_rank 3 = .ok (.invokevirtual 192, 3) := by decide +kernel
theorem dX4_rank_6 : decode cX4_rank 6 = .ok (.ifCond .eq 7, 3) := by decide +kernel
theorem dX4_rank_9 : decode cX4_rank 9 = .ok (.iconst 1, 1) := by decide +kernel
theorem dX4_rank_10 : decode cX4_rank 10 = .ok (.goto 18, 3) := by decide +kernel
theorem dX4_rank_13 : decode cX4_rank 13 = .ok (.iload_n 2, 1) := by decide +kernel
theorem dX4_rank_14 : decode cX4_rank 14 = .ok (.iconst 0, 1) := by decide +kernel
theorem dX4_rank_15 : decode cX4_rank 15 = .ok (.bipush 9, 2) := by decide +kernel
theorem dX4_rank_17 : decode cX4_rank 17 = .ok (.invokestatic 188, 3) := by decide +kernel
theorem dX4_rank_20 : decode cX4_rank 20 = .ok (.ifCond .eq 7, 3) := by decide +kernel
theorem dX4_rank_23 : decode cX4_rank 23 = .ok (.iconst 2, 1) := by decide +kernel
theorem dX4_rank_24 : decode cX4_rank 24 = .ok (.goto 4, 3) := by decide +kernel
theorem dX4_rank_27 : decode cX4_rank 27 = .ok (.iconst 0, 1) := by decide +kernel
theorem dX4_rank_28 : decode cX4_rank 28 = .ok (.putfield 7, 3) := by decide +kernel
theorem dX4_rank_31 : decode cX4_rank 31 = .ok (.aload_n 0, 1) := by decide +kernel
theorem dX4_rank_32 : decode cX4_rank 32 = .ok (.getfield 7, 3) := by decide +kernel
theorem dX4_rank_35 : decode cX4_rank 35 = .ok (.ifCond .eq 5, 3) := by decide +kernel
theorem dX4_rank_38 : decode cX4_rank 38 = .ok (.iconst 0, 1) := by decide +kernel
theorem dX4_rank_39 : decode cX4_rank 39 = .ok (.ireturn, 1) := by decide +kernel
theorem dX4_rank_40 : decode cX4_rank 40 = .ok (.aload_n 0, 1) := by decide +kernel
theorem dX4_rank_41 : decode cX4_rank 41 = .ok (.getfield 29, 3) := by decide +kernel
theorem dX4_rank_44 : decode cX4_rank 44 = .ok (.iload_n 1, 1) := by decide +kernel
theorem dX4_rank_45 : decode cX4_rank 45 = .ok (.iload_n 2, 1) := by decide +kernel
theorem dX4_rank_46 : decode cX4_rank 46 = .ok (.iastore, 1) := by decide +kernel
theorem dX4_rank_47 : decode cX4_rank 47 = .ok (.aload_n 0, 1) := by decide +kernel
theorem dX4_rank_48 : decode cX4_rank 48 = .ok (.invokevirtual 195, 3) := by decide +kernel
theorem dX4_rank_51 : decode cX4_rank 51 = .ok (.iconst 0, 1) := by decide +kernel
theorem dX4_rank_52 : decode cX4_rank 52 = .ok (.istore_n 3, 1) := by decide +kernel
theorem dX4_rank_53 : decode cX4_rank 53 = .ok (.iload_n 3, 1) := by decide +kernel
theorem dX4_rank_54 : decode cX4_rank 54 = .ok (.aload_n 0, 1) := by decide +kernel
theorem dX4_rank_55 : decode cX4_rank 55 = .ok (.getfield 87, 3) := by decide +kernel
theorem dX4_rank_58 : decode cX4_rank 58 = .ok (.if_icmp .ge 21, 3) := by decide +kernel
theorem dX4_rank_61 : decode cX4_rank 61 = .ok (.aload_n 0, 1) := by decide +kernel
theorem dX4_rank_62 : decode cX4_rank 62 = .ok (.getfield 90, 3) := by decide +kernel
theorem dX4_rank_65 : decode cX4_rank 65 = .ok (.iload_n 3, 1) := by decide +kernel
theorem dX4_rank_66 : decode cX4_rank 66 = .ok (.iaload, 1) := by decide +kernel
theorem dX4_rank_67 : decode cX4_rank 67 = .ok (.iload_n 1, 1) := by decide +kernel
theorem dX4_rank_68 : decode cX4_rank 68 = .ok (.if_icmp .ne 5, 3) := by decide +kernel
theorem dX4_rank_71 : decode cX4_rank 71 = .ok (.iload_n 3, 1) := by decide +kernel
theorem dX4_rank_72 : decode cX4_rank 72 = .ok (.ireturn, 1) := by decide +kernel
theorem dX4_rank_73 : decode cX4_rank 73 = .ok (.iinc 3 1, 3) := by decide +kernel
theorem dX4_rank_76 : decode cX4_rank 76 = .ok (.goto (-23), 3) := by decide +kernel
theorem dX4_rank_79 : decode cX4_rank 79 = .ok (.iconst (-1), 1) := by decide +kernel
theorem dX4_rank_80 : decode cX4_rank 80 = .ok (.ireturn, 1) := by decide +kernel
theorem dX4_share_0 : decode cX4_share 0 = .ok (.aload_n 0, 1) := by decide +kernel
theorem dX4_share_1 : decode cX4_share 1 = .ok (.iload_n 1, 1) := by decide +kernel
theorem dX4_share_2 : decode cX4_share 2 = .ok (.iconst 0, 1) := by decide +kernel
theorem dX4_share_3 : decode cX4_share 3 = .ok (.bipush 100, 2) := by decide +kernel
theorem dX4_share_5 : decode cX4_share 5 = .ok (.invokestatic 188, 3) := by decide +kernel
theorem dX4_share_8 : decode cX4_share 8 = .ok (.ifCond .eq 7, 3) := by decide +kernel
theorem dX4_share_11 : decode cX4_share 11 = .ok (.iconst 1, 1) := by decide +kernel
theorem dX4_share_12 : decode cX4_share 12 = .ok (.goto 4, 3) := by decide +kernel
theorem dX4_share_15 : decode cX4_share 15 = .ok (.iconst 0, 1) := by decide +kernel
theorem dX4_share_16 : decode cX4_share 16 = .ok (.putfield 7, 3) := by decide +kernel
theorem dX4_share_19 : decode cX4_share 19 = .ok (.aload_n 0, 1) := by decide +kernel
theorem dX4_share_20 : decode cX4_share 20 = .ok (.getfield 7, 3) := by decide +kernel
theorem dX4_share_23 : decode cX4_share 23 = .ok (.ifCond .ne 8, 3) := by decide +kernel
theorem dX4_share_26 : decode cX4_share 26 = .ok (.aload_n 0, 1) := by decide +kernel
theorem dX4_share_27 : decode cX4_share 27 = .ok (.iload_n 1, 1) := by decide +kernel
theorem dX4_share_28 : decode cX4_share 28 = .ok (.putfield 35, 3) := by decide +kernel
theorem dX4_share_31 : decode cX4_share 31 = .ok (.return_, 1) := by decide +kernel
theorem dX4_solve_0 : decode cX4_solve 0 = .ok (.aload_n 0, 1) := by decide +kernel
theorem dX4_solve_1 : decode cX4_solve 1 = .ok (.iload_n 1, 1) := by decide +kernel
theorem dX4_solve_2 : decode cX4_solve 2 = .ok (.iconst 0, 1) := by decide +kernel
theorem dX4_solve_3 : decode cX4_solve 3 = .ok (.sipush 3000, 3) := by decide +kernel
theorem dX4_solve_6 : decode cX4_solve 6 = .ok (.invokestatic 188, 3) := by decide +kernel
theorem dX4_solve_9 : decode cX4_solve 9 = .ok (.ifCond .eq 7, 3) := by decide +kernel
theorem dX4_solve_12 : decode cX4_solve 12 = .ok (.iconst 1, 1) := by decide +kernel
theorem dX4_solve_13 : decode cX4_solve 13 = .ok (.goto 4, 3) := by decide +kernel
theorem dX4_solve_16 : decode cX4_solve 16 = .ok (.iconst 0, 1) := by decide +kernel
theorem dX4_solve_17 : decode cX4_solve 17 = .ok (.putfield 7, 3) := by decide +kernel
theorem dX4_solve_20 : decode cX4_solve 20 = .ok (.aload_n 0, 1) := by decide +kernel
theorem dX4_solve_21 : decode cX4_solve 21 = .ok (.getfield 7, 3) := by decide +kernel
theorem dX4_solve_24 : decode cX4_solve 24 = .ok (.ifCond .eq 5, 3) := by decide +kernel
theorem dX4_solve_27 : decode cX4_solve 27 = .ok (.iconst 0, 1) := by decide +kernel
theorem dX4_solve_28 : decode cX4_solve 28 = .ok (.ireturn, 1) := by decide +kernel
theorem dX4_solve_29 : decode cX4_solve 29 = .ok (.iconst 0, 1) := by decide +kernel
theorem dX4_solve_30 : decode cX4_solve 30 = .ok (.istore_n 2, 1) := by decide +kernel
theorem dX4_solve_31 : decode cX4_solve 31 = .ok (.iload_n 2, 1) := by decide +kernel
theorem dX4_solve_32 : decode cX4_solve 32 = .ok (.bipush 6, 2) := by decide +kernel
theorem dX4_solve_34 : decode cX4_solve 34 = .ok (.if_icmp .ge 16, 3) := by decide +kernel
theorem dX4_solve_37 : decode cX4_solve 37 = .ok (.aload_n 0, 1) := by decide +kernel
theorem dX4_solve_38 : decode cX4_solve 38 = .ok (.getfield 41, 3) := by decide +kernel
theorem dX4_solve_41 : decode cX4_solve 41 = .ok (.iload_n 2, 1) := by decide +kernel
theorem dX4_solve_42 : decode cX4_solve 42 = .ok (.iconst (-1), 1) := by decide +kernel
theorem dX4_solve_43 : decode cX4_solve 43 = .ok (.iastore, 1) := by decide +kernel
theorem dX4_solve_44 : decode cX4_solve 44 = .ok (.iinc 2 1, 3) := by decide +kernel
theorem dX4_solve_47 : decode cX4_solve 47 = .ok (.goto (-16), 3) := by decide +kernel
theorem dX4_solve_50 : decode cX4_solve 50 = .ok (.aload_n 0, 1) := by decide +kernel
theorem dX4_solve_51 : decode cX4_solve 51 = .ok (.invokevirtual 195, 3) := by decide +kernel
theorem dX4_solve_54 : decode cX4_solve 54 = .ok (.aload_n 0, 1) := by decide +kernel
theorem dX4_solve_55 : decode cX4_solve 55 = .ok (.iconst 0, 1) := by decide +kernel
theorem dX4_solve_56 : decode cX4_solve 56 = .ok (.putfield 62, 3) := by decide +kernel
theorem dX4_solve_59 : decode cX4_solve 59 = .ok (.aload_n 0, 1) := by decide +kernel
theorem dX4_solve_60 : decode cX4_solve 60 = .ok (.iconst 0, 1) := by decide +kernel
theorem dX4_solve_61 : decode cX4_solve 61 = .ok (.putfield 66, 3) := by decide +kernel
theorem dX4_solve_64 : decode cX4_solve 64 = .ok (.aload_n 0, 1) := by decide +kernel
theorem dX4_solve_65 : decode cX4_solve 65 = .ok (.iconst 0, 1) := by decide +kernel
theorem dX4_solve_66 : decode cX4_solve 66 = .ok (.putfield 81, 3) := by decide +kernel
theorem dX4_solve_69 : decode cX4_solve 69 = .ok (.iconst 0, 1) := by decide +kernel
theorem dX4_solve_70 : decode cX4_solve 70 = .ok (.istore_n 2, 1) := by decide +kernel
theorem dX4_solve_71 : decode cX4_solve 71 = .ok (.iload_n 2, 1) := by decide +kernel
theorem dX4_solve_72 : decode cX4_solve 72 = .ok (.bipush 6, 2) := by decide +kernel
theorem dX4_solve_74 : decode cX4_solve 74 = .ok (.if_icmp .ge 16, 3) := by decide +kernel
theorem dX4_solve_77 : decode cX4_solve 77 = .ok (.aload_n 0, 1) := by decide +kernel
theorem dX4_solve_78 : decode cX4_solve 78 = .ok (.getfield 69, 3) := by decide +kernel
theorem dX4_solve_81 : decode cX4_solve 81 = .ok (.iload_n 2, 1) := by decide +kernel
theorem dX4_solve_82 : decode cX4_solve 82 = .ok (.iconst (-1), 1) := by decide +kernel
theorem dX4_solve_83 : decode cX4_solve 83 = .ok (.iastore, 1) := by decide +kernel
theorem dX4_solve_84 : decode cX4_solve 84 = .ok (.iinc 2 1, 3) := by decide +kernel
theorem dX4_solve_87 : decode cX4_solve 87 = .ok (.goto (-16), 3) := by decide +kernel
theorem dX4_solve_90 : decode cX4_solve 90 = .ok (.aload_n 0, 1) := by decide +kernel
theorem dX4_solve_91 : decode cX4_solve 91 = .ok (.aload_n 0, 1) := by decide +kernel
theorem dX4_solve_92 : decode cX4_solve 92 = .ok (.iload_n 1, 1) := by decide +kernel
theorem dX4_solve_93 : decode cX4_solve 93 = .ok (.invokevirtual 198, 3) := by decide +kernel
theorem dX4_solve_96 : decode cX4_solve 96 = .ok (.putfield 84, 3) := by decide +kernel
theorem dX4_solve_99 : decode cX4_solve 99 = .ok (.iconst 0, 1) := by decide +kernel
theorem dX4_solve_100 : decode cX4_solve 100 = .ok (.istore_n 2, 1) := by decide +kernel
theorem dX4_solve_101 : decode cX4_solve 101 = .ok (.iload_n 2, 1) := by decide +kernel
theorem dX4_solve_102 : decode cX4_solve 102 = .ok (.bipush 6, 2) := by decide +kernel
theorem dX4_solve_104 : decode cX4_solve 104 = .ok (.if_icmp .ge 54, 3) := by decide +kernel
theorem dX4_solve_107 : decode cX4_solve 107 = .ok (.aload_n 0, 1) := by decide +kernel
theorem dX4_solve_108 : decode cX4_solve 108 = .ok (.getfield 41, 3) := by decide +kernel
theorem dX4_solve_111 : decode cX4_solve 111 = .ok (.iload_n 2, 1) := by decide +kernel
theorem dX4_solve_112 : decode cX4_solve 112 = .ok (.iconst (-1), 1) := by decide +kernel
theorem dX4_solve_113 : decode cX4_solve 113 = .ok (.iastore, 1) := by decide +kernel
theorem dX4_solve_114 : decode cX4_solve 114 = .ok (.aload_n 0, 1) := by decide +kernel
theorem dX4_solve_115 : decode cX4_solve 115 = .ok (.getfield 69, 3) := by decide +kernel
theorem dX4_solve_118 : decode cX4_solve 118 = .ok (.iload_n 2, 1) := by decide +kernel
theorem dX4_solve_119 : decode cX4_solve 119 = .ok (.iaload, 1) := by decide +kernel
theorem dX4_solve_120 : decode cX4_solve 120 = .ok (.ifCond .lt 32, 3) := by decide +kernel
theorem dX4_solve_123 : decode cX4_solve 123 = .ok (.aload_n 0, 1) := by decide +kernel
theorem dX4_solve_124 : decode cX4_solve 124 = .ok (.iload_n 2, 1) := by decide +kernel
theorem dX4_solve_125 : decode cX4_solve 125 = .ok (.aload_n 0, 1) := by decide +kernel
theorem dX4_solve_126 : decode cX4_solve 126 = .ok (.getfield 69, 3) := by decide +kernel
theorem dX4_solve_129 : decode cX4_solve 129 = .ok (.iload_n 2, 1) := by decide +kernel
theorem dX4_solve_130 : decode cX4_solve 130 = .ok (.iaload, 1) := by decide +kernel
theorem dX4_solve_131 : decode cX4_solve 131 = .ok (.aload_n 0, 1) := by decide +kernel
theorem dX4_solve_132 : decode cX4_solve 132 = .ok (.getfield 72, 3) := by decide +kernel
theorem dX4_solve_135 : decode cX4_solve 135 = .ok (.iload_n 2, 1) := by decide +kernel
theorem dX4_solve_136 : decode cX4_solve 136 = .ok (.iaload, 1) := by decide +kernel
theorem dX4_solve_137 : decode cX4_solve 137 = .ok (.aload_n 0, 1) := by decide +kernel
theorem dX4_solve_138 : decode cX4_solve 138 = .ok (.getfield 75, 3) := by decide +kernel
theorem dX4_solve_141 : decode cX4_solve 141 = .ok (.iload_n 2, 1) := by decide +kernel
theorem dX4_solve_142 : decode cX4_solve 142 = .ok (.iaload, 1) := by decide +kernel
theorem dX4_solve_143 : decode cX4_solve 143 = .ok (.aload_n 0, 1) := by decide +kernel
theorem dX4_solve_144 : decode cX4_solve 144 = .ok (.getfield 78, 3) := by decide +kernel
theorem dX4_solve_147 : decode cX4_solve 147 = .ok (.iload_n 2, 1) := by decide +kernel
theorem dX4_solve_148 : decode cX4_solve 148 = .ok (.iaload, 1) := by decide +kernel
theorem dX4_solve_149 : decode cX4_solve 149 = .ok (.invokevirtual 180, 3) := by decide +kernel
theorem dX4_solve_152 : decode cX4_solve 152 = .ok (.iinc 2 1, 3) := by decide +kernel
theorem dX4_solve_155 : decode cX4_solve 155 = .ok (.goto (-54), 3) := by decide +kernel
theorem dX4_solve_158 : decode cX4_solve 158 = .ok (.aload_n 0, 1) := by decide +kernel
theorem dX4_solve_159 : decode cX4_solve 159 = .ok (.getfield 66, 3) := by decide +kernel
theorem dX4_solve_162 : decode cX4_solve 162 = .ok (.ireturn, 1) := by decide +kernel
theorem dX4_exact_0 : decode cX4_exact 0 = .ok (.aload_n 0, 1) := by decide +kernel
theorem dX4_exact_1 : decode cX4_exact 1 = .ok (.iconst 0, 1) := by decide +kernel
theorem dX4_exact_2 : decode cX4_exact 2 = .ok (.putfield 7, 3) := by decide +kernel
theorem dX4_exact_5 : decode cX4_exact 5 = .ok (.aload_n 0, 1) := by decide +kernel
theorem dX4_exact_6 : decode cX4_exact 6 = .ok (.getfield 84, 3) := by decide +kernel
theorem dX4_exact_9 : decode cX4_exact 9 = .ok (.ireturn, 1) := by decide +kernel
theorem dX4_steps_0 : decode cX4_steps 0 = .ok (.aload_n 0, 1) := by decide +kernel
theorem dX4_steps_1 : decode cX4_steps 1 = .ok (.iconst 0, 1) := by decide +kernel
theorem dX4_steps_2 : decode cX4_steps 2 = .ok (.putfield 7, 3) := by decide +kernel
theorem dX4_steps_5 : decode cX4_steps 5 = .ok (.aload_n 0, 1) := by decide +kernel
theorem dX4_steps_6 : decode cX4_steps 6 = .ok (.getfield 81, 3) := by decide +kernel
theorem dX4_steps_9 : decode cX4_steps 9 = .ok (.ireturn, 1) := by decide +kernel
theorem dX4_goesIn_0 : decode cX4_goesIn 0 = .ok (.iconst 0, 1) := by decide +kernel
theorem dX4_goesIn_1 : decode cX4_goesIn 1 = .ok (.istore_n 2, 1) := by decide +kernel
theorem dX4_goesIn_2 : decode cX4_goesIn 2 = .ok (.iload_n 2, 1) := by decide +kernel
theorem dX4_goesIn_3 : decode cX4_goesIn 3 = .ok (.bipush 6, 2) := by decide +kernel
theorem dX4_goesIn_5 : decode cX4_goesIn 5 = .ok (.if_icmp .ge 62, 3) := by decide +kernel
theorem dX4_goesIn_8 : decode cX4_goesIn 8 = .ok (.aload_n 0, 1) := by decide +kernel
theorem dX4_goesIn_9 : decode cX4_goesIn 9 = .ok (.iload_n 1, 1) := by decide +kernel
theorem dX4_goesIn_10 : decode cX4_goesIn 10 = .ok (.iload_n 2, 1) := by decide +kernel
theorem dX4_goesIn_11 : decode cX4_goesIn 11 = .ok (.invokevirtual 162, 3) := by decide +kernel
theorem dX4_goesIn_14 : decode cX4_goesIn 14 = .ok (.ifCond .eq 47, 3) := by decide +kernel
theorem dX4_goesIn_17 : decode cX4_goesIn 17 = .ok (.aload_n 0, 1) := by decide +kernel
theorem dX4_goesIn_18 : decode cX4_goesIn 18 = .ok (.iload_n 1, 1) := by decide +kernel
theorem dX4_goesIn_19 : decode cX4_goesIn 19 = .ok (.iload_n 2, 1) := by decide +kernel
theorem dX4_goesIn_20 : decode cX4_goesIn 20 = .ok (.iconst 0, 1) := by decide +kernel
theorem dX4_goesIn_21 : decode cX4_goesIn 21 = .ok (.invokevirtual 135, 3) := by decide +kernel
theorem dX4_goesIn_24 : decode cX4_goesIn 24 = .ok (.aload_n 0, 1) := by decide +kernel
theorem dX4_goesIn_25 : decode cX4_goesIn 25 = .ok (.getfield 118, 3) := by decide +kernel
theorem dX4_goesIn_28 : decode cX4_goesIn 28 = .ok (.if_icmp .gt 33, 3) := by decide +kernel
theorem dX4_goesIn_31 : decode cX4_goesIn 31 = .ok (.aload_n 0, 1) := by decide +kernel
theorem dX4_goesIn_32 : decode cX4_goesIn 32 = .ok (.iload_n 1, 1) := by decide +kernel
theorem dX4_goesIn_33 : decode cX4_goesIn 33 = .ok (.iload_n 2, 1) := by decide +kernel
theorem dX4_goesIn_34 : decode cX4_goesIn 34 = .ok (.iconst 1, 1) := by decide +kernel
theorem dX4_goesIn_35 : decode cX4_goesIn 35 = .ok (.invokevirtual 135, 3) := by decide +kernel
theorem dX4_goesIn_38 : decode cX4_goesIn 38 = .ok (.aload_n 0, 1) := by decide +kernel
theorem dX4_goesIn_39 : decode cX4_goesIn 39 = .ok (.getfield 121, 3) := by decide +kernel
theorem dX4_goesIn_42 : decode cX4_goesIn 42 = .ok (.if_icmp .gt 19, 3) := by decide +kernel
theorem dX4_goesIn_45 : decode cX4_goesIn 45 = .ok (.aload_n 0, 1) := by decide +kernel
theorem dX4_goesIn_46 : decode cX4_goesIn 46 = .ok (.iload_n 1, 1) := by decide +kernel
theorem dX4_goesIn_47 : decode cX4_goesIn 47 = .ok (.iload_n 2, 1) := by decide +kernel
theorem dX4_goesIn_48 : decode cX4_goesIn 48 = .ok (.iconst 2, 1) := by decide +kernel
theorem dX4_goesIn_49 : decode cX4_goesIn 49 = .ok (.invokevirtual 135, 3) := by decide +kernel
theorem dX4_goesIn_52 : decode cX4_goesIn 52 = .ok (.aload_n 0, 1) := by decide +kernel
theorem dX4_goesIn_53 : decode cX4_goesIn 53 = .ok (.getfield 124, 3) := by decide +kernel
theorem dX4_goesIn_56 : decode cX4_goesIn 56 = .ok (.if_icmp .gt 5, 3) := by decide +kernel
theorem dX4_goesIn_59 : decode cX4_goesIn 59 = .ok (.iconst 1, 1) := by decide +kernel
theorem dX4_goesIn_60 : decode cX4_goesIn 60 = .ok (.ireturn, 1) := by decide +kernel
theorem dX4_goesIn_61 : decode cX4_goesIn 61 = .ok (.iinc 2 1, 3) := by decide +kernel
theorem dX4_goesIn_64 : decode cX4_goesIn 64 = .ok (.goto (-62), 3) := by decide +kernel
theorem dX4_goesIn_67 : decode cX4_goesIn 67 = .ok (.iconst 0, 1) := by decide +kernel
theorem dX4_goesIn_68 : decode cX4_goesIn 68 = .ok (.ireturn, 1) := by decide +kernel
theorem dX4_bound_0 : decode cX4_bound 0 = .ok (.aload_n 0, 1) := by decide +kernel
theorem dX4_bound_1 : decode cX4_bound 1 = .ok (.iconst 0, 1) := by decide +kernel
theorem dX4_bound_2 : decode cX4_bound 2 = .ok (.putfield 7, 3) := by decide +kernel
theorem dX4_bound_5 : decode cX4_bound 5 = .ok (.iconst 0, 1) := by decide +kernel
theorem dX4_bound_6 : decode cX4_bound 6 = .ok (.istore_n 1, 1) := by decide +kernel
theorem dX4_bound_7 : decode cX4_bound 7 = .ok (.iconst 0, 1) := by decide +kernel
theorem dX4_bound_8 : decode cX4_bound 8 = .ok (.istore_n 2, 1) := by decide +kernel
theorem dX4_bound_9 : decode cX4_bound 9 = .ok (.iload_n 2, 1) := by decide +kernel
theorem dX4_bound_10 : decode cX4_bound 10 = .ok (.aload_n 0, 1) := by decide +kernel
theorem dX4_bound_11 : decode cX4_bound 11 = .ok (.getfield 13, 3) := by decide +kernel
theorem dX4_bound_14 : decode cX4_bound 14 = .ok (.if_icmp .ge 38, 3) := by decide +kernel
theorem dX4_bound_17 : decode cX4_bound 17 = .ok (.iload_n 1, 1) := by decide +kernel
theorem dX4_bound_18 : decode cX4_bound 18 = .ok (.aload_n 0, 1) := by decide +kernel
theorem dX4_bound_19 : decode cX4_bound 19 = .ok (.getfield 32, 3) := by decide +kernel
theorem dX4_bound_22 : decode cX4_bound 22 = .ok (.iload_n 2, 1) := by decide +kernel
theorem dX4_bound_23 : decode cX4_bound 23 = .ok (.iaload, 1) := by decide +kernel
theorem dX4_bound_24 : decode cX4_bound 24 = .ok (.ifCond .ge 19, 3) := by decide +kernel
theorem dX4_bound_27 : decode cX4_bound 27 = .ok (.aload_n 0, 1) := by decide +kernel
theorem dX4_bound_28 : decode cX4_bound 28 = .ok (.iload_n 2, 1) := by decide +kernel
theorem dX4_bound_29 : decode cX4_bound 29 = .ok (.invokevirtual 201, 3) := by decide +kernel
theorem dX4_bound_32 : decode cX4_bound 32 = .ok (.ifCond .eq 11, 3) := by decide +kernel
theorem dX4_bound_35 : decode cX4_bound 35 = .ok (.aload_n 0, 1) := by decide +kernel
theorem dX4_bound_36 : decode cX4_bound 36 = .ok (.iload_n 2, 1) := by decide +kernel
theorem dX4_bound_37 : decode cX4_bound 37 = .ok (.invokevirtual 155, 3) := by decide +kernel
theorem dX4_bound_40 : decode cX4_bound 40 = .ok (.goto 4, 3) := by decide +kernel
theorem dX4_bound_43 : decode cX4_bound 43 = .ok (.iconst 0, 1) := by decide +kernel
theorem dX4_bound_44 : decode cX4_bound 44 = .ok (.iadd, 1) := by decide +kernel
theorem dX4_bound_45 : decode cX4_bound 45 = .ok (.istore_n 1, 1) := by decide +kernel
theorem dX4_bound_46 : decode cX4_bound 46 = .ok (.iinc 2 1, 3) := by decide +kernel
theorem dX4_bound_49 : decode cX4_bound 49 = .ok (.goto (-40), 3) := by decide +kernel
theorem dX4_bound_52 : decode cX4_bound 52 = .ok (.aload_n 0, 1) := by decide +kernel
theorem dX4_bound_53 : decode cX4_bound 53 = .ok (.getfield 118, 3) := by decide +kernel
theorem dX4_bound_56 : decode cX4_bound 56 = .ok (.aload_n 0, 1) := by decide +kernel
theorem dX4_bound_57 : decode cX4_bound 57 = .ok (.getfield 121, 3) := by decide +kernel
theorem dX4_bound_60 : decode cX4_bound 60 = .ok (.imul, 1) := by decide +kernel
theorem dX4_bound_61 : decode cX4_bound 61 = .ok (.aload_n 0, 1) := by decide +kernel
theorem dX4_bound_62 : decode cX4_bound 62 = .ok (.getfield 124, 3) := by decide +kernel
theorem dX4_bound_65 : decode cX4_bound 65 = .ok (.imul, 1) := by decide +kernel
theorem dX4_bound_66 : decode cX4_bound 66 = .ok (.istore_n 2, 1) := by decide +kernel
theorem dX4_bound_67 : decode cX4_bound 67 = .ok (.iload_n 1, 1) := by decide +kernel
theorem dX4_bound_68 : decode cX4_bound 68 = .ok (.iload_n 2, 1) := by decide +kernel
theorem dX4_bound_69 : decode cX4_bound 69 = .ok (.if_icmp .ge 7, 3) := by decide +kernel
theorem dX4_bound_72 : decode cX4_bound 72 = .ok (.iload_n 1, 1) := by decide +kernel
theorem dX4_bound_73 : decode cX4_bound 73 = .ok (.goto 4, 3) := by decide +kernel
theorem dX4_bound_76 : decode cX4_bound 76 = .ok (.iload_n 2, 1) := by decide +kernel
theorem dX4_bound_77 : decode cX4_bound 77 = .ok (.ireturn, 1) := by decide +kernel
theorem dX4_at_0 : decode cX4_at 0 = .ok (.aload_n 0, 1) := by decide +kernel
theorem dX4_at_1 : decode cX4_at 1 = .ok (.aload_n 0, 1) := by decide +kernel
theorem dX4_at_2 : decode cX4_at 2 = .ok (.iload_n 1, 1) := by decide +kernel
theorem dX4_at_3 : decode cX4_at 3 = .ok (.invokevirtual 192, 3) := by decide +kernel
theorem dX4_at_6 : decode cX4_at 6 = .ok (.ifCond .eq 7, 3) := by decide +kernel
theorem dX4_at_9 : decode cX4_at 9 = .ok (.iconst 1, 1) := by decide +kernel
theorem dX4_at_10 : decode cX4_at 10 = .ok (.goto 18, 3) := by decide +kernel
theorem dX4_at_13 : decode cX4_at 13 = .ok (.iload_n 2, 1) := by decide +kernel
theorem dX4_at_14 : decode cX4_at 14 = .ok (.iconst 0, 1) := by decide +kernel
theorem dX4_at_15 : decode cX4_at 15 = .ok (.bipush 6, 2) := by decide +kernel
theorem dX4_at_17 : decode cX4_at 17 = .ok (.invokestatic 188, 3) := by decide +kernel
theorem dX4_at_20 : decode cX4_at 20 = .ok (.ifCond .eq 7, 3) := by decide +kernel
theorem dX4_at_23 : decode cX4_at 23 = .ok (.iconst 2, 1) := by decide +kernel
theorem dX4_at_24 : decode cX4_at 24 = .ok (.goto 4, 3) := by decide +kernel
theorem dX4_at_27 : decode cX4_at 27 = .ok (.iconst 0, 1) := by decide +kernel
theorem dX4_at_28 : decode cX4_at 28 = .ok (.putfield 7, 3) := by decide +kernel
theorem dX4_at_31 : decode cX4_at 31 = .ok (.aload_n 0, 1) := by decide +kernel
theorem dX4_at_32 : decode cX4_at 32 = .ok (.getfield 7, 3) := by decide +kernel
theorem dX4_at_35 : decode cX4_at 35 = .ok (.ifCond .eq 5, 3) := by decide +kernel
theorem dX4_at_38 : decode cX4_at 38 = .ok (.iconst 0, 1) := by decide +kernel
theorem dX4_at_39 : decode cX4_at 39 = .ok (.ireturn, 1) := by decide +kernel
theorem dX4_at_40 : decode cX4_at 40 = .ok (.aload_n 0, 1) := by decide +kernel
theorem dX4_at_41 : decode cX4_at 41 = .ok (.getfield 41, 3) := by decide +kernel
theorem dX4_at_44 : decode cX4_at 44 = .ok (.iload_n 1, 1) := by decide +kernel
theorem dX4_at_45 : decode cX4_at 45 = .ok (.iaload, 1) := by decide +kernel
theorem dX4_at_46 : decode cX4_at 46 = .ok (.ifCond .ge 5, 3) := by decide +kernel
theorem dX4_at_49 : decode cX4_at 49 = .ok (.iconst (-1), 1) := by decide +kernel
theorem dX4_at_50 : decode cX4_at 50 = .ok (.ireturn, 1) := by decide +kernel
theorem dX4_at_51 : decode cX4_at 51 = .ok (.iload_n 2, 1) := by decide +kernel
theorem dX4_at_52 : decode cX4_at 52 = .ok (.tableswitch 82 0 5 #[40, 47, 54, 61, 68, 75], 40) := by decide +kernel
theorem dX4_at_92 : decode cX4_at 92 = .ok (.aload_n 0, 1) := by decide +kernel
theorem dX4_at_93 : decode cX4_at 93 = .ok (.getfield 44, 3) := by decide +kernel
theorem dX4_at_96 : decode cX4_at 96 = .ok (.iload_n 1, 1) := by decide +kernel
theorem dX4_at_97 : decode cX4_at 97 = .ok (.iaload, 1) := by decide +kernel
theorem dX4_at_98 : decode cX4_at 98 = .ok (.ireturn, 1) := by decide +kernel
theorem dX4_at_99 : decode cX4_at 99 = .ok (.aload_n 0, 1) := by decide +kernel
theorem dX4_at_100 : decode cX4_at 100 = .ok (.getfield 47, 3) := by decide +kernel
theorem dX4_at_103 : decode cX4_at 103 = .ok (.iload_n 1, 1) := by decide +kernel
theorem dX4_at_104 : decode cX4_at 104 = .ok (.iaload, 1) := by decide +kernel
theorem dX4_at_105 : decode cX4_at 105 = .ok (.ireturn, 1) := by decide +kernel
theorem dX4_at_106 : decode cX4_at 106 = .ok (.aload_n 0, 1) := by decide +kernel
theorem dX4_at_107 : decode cX4_at 107 = .ok (.getfield 50, 3) := by decide +kernel
theorem dX4_at_110 : decode cX4_at 110 = .ok (.iload_n 1, 1) := by decide +kernel
theorem dX4_at_111 : decode cX4_at 111 = .ok (.iaload, 1) := by decide +kernel
theorem dX4_at_112 : decode cX4_at 112 = .ok (.ireturn, 1) := by decide +kernel
theorem dX4_at_113 : decode cX4_at 113 = .ok (.aload_n 0, 1) := by decide +kernel
theorem dX4_at_114 : decode cX4_at 114 = .ok (.getfield 53, 3) := by decide +kernel
theorem dX4_at_117 : decode cX4_at 117 = .ok (.iload_n 1, 1) := by decide +kernel
theorem dX4_at_118 : decode cX4_at 118 = .ok (.iaload, 1) := by decide +kernel
theorem dX4_at_119 : decode cX4_at 119 = .ok (.ireturn, 1) := by decide +kernel
theorem dX4_at_120 : decode cX4_at 120 = .ok (.aload_n 0, 1) := by decide +kernel
theorem dX4_at_121 : decode cX4_at 121 = .ok (.getfield 56, 3) := by decide +kernel
theorem dX4_at_124 : decode cX4_at 124 = .ok (.iload_n 1, 1) := by decide +kernel
theorem dX4_at_125 : decode cX4_at 125 = .ok (.iaload, 1) := by decide +kernel
theorem dX4_at_126 : decode cX4_at 126 = .ok (.ireturn, 1) := by decide +kernel
theorem dX4_at_127 : decode cX4_at 127 = .ok (.aload_n 0, 1) := by decide +kernel
theorem dX4_at_128 : decode cX4_at 128 = .ok (.getfield 59, 3) := by decide +kernel
theorem dX4_at_131 : decode cX4_at 131 = .ok (.iload_n 1, 1) := by decide +kernel
theorem dX4_at_132 : decode cX4_at 132 = .ok (.iaload, 1) := by decide +kernel
theorem dX4_at_133 : decode cX4_at 133 = .ok (.ireturn, 1) := by decide +kernel
theorem dX4_at_134 : decode cX4_at 134 = .ok (.aload_n 0, 1) := by decide +kernel
theorem dX4_at_135 : decode cX4_at 135 = .ok (.getfield 41, 3) := by decide +kernel
theorem dX4_at_138 : decode cX4_at 138 = .ok (.iload_n 1, 1) := by decide +kernel
theorem dX4_at_139 : decode cX4_at 139 = .ok (.iaload, 1) := by decide +kernel
theorem dX4_at_140 : decode cX4_at 140 = .ok (.ireturn, 1) := by decide +kernel
theorem dX4_over_0 : decode cX4_over 0 = .ok (.aload_n 0, 1) := by decide +kernel
theorem dX4_over_1 : decode cX4_over 1 = .ok (.aload_n 0, 1) := by decide +kernel
theorem dX4_over_2 : decode cX4_over 2 = .ok (.iload_n 1, 1) := by decide +kernel
theorem dX4_over_3 : decode cX4_over 3 = .ok (.invokevirtual 192, 3) := by decide +kernel
theorem dX4_over_6 : decode cX4_over 6 = .ok (.ifCond .ne 11, 3) := by decide +kernel
theorem dX4_over_9 : decode cX4_over 9 = .ok (.aload_n 0, 1) := by decide +kernel
theorem dX4_over_10 : decode cX4_over 10 = .ok (.iload_n 2, 1) := by decide +kernel
theorem dX4_over_11 : decode cX4_over 11 = .ok (.invokevirtual 192, 3) := by decide +kernel
theorem dX4_over_14 : decode cX4_over 14 = .ok (.ifCond .eq 7, 3) := by decide +kernel
theorem dX4_over_17 : decode cX4_over 17 = .ok (.iconst 1, 1) := by decide +kernel
theorem dX4_over_18 : decode cX4_over 18 = .ok (.goto 31, 3) := by decide +kernel
theorem dX4_over_21 : decode cX4_over 21 = .ok (.iload_n 1, 1) := by decide +kernel
theorem dX4_over_22 : decode cX4_over 22 = .ok (.iload_n 2, 1) := by decide +kernel
theorem dX4_over_23 : decode cX4_over 23 = .ok (.if_icmp .eq 21, 3) := by decide +kernel
theorem dX4_over_26 : decode cX4_over 26 = .ok (.aload_n 0, 1) := by decide +kernel
theorem dX4_over_27 : decode cX4_over 27 = .ok (.getfield 41, 3) := by decide +kernel
theorem dX4_over_30 : decode cX4_over 30 = .ok (.iload_n 1, 1) := by decide +kernel
theorem dX4_over_31 : decode cX4_over 31 = .ok (.iaload, 1) := by decide +kernel
theorem dX4_over_32 : decode cX4_over 32 = .ok (.ifCond .lt 12, 3) := by decide +kernel
theorem dX4_over_35 : decode cX4_over 35 = .ok (.aload_n 0, 1) := by decide +kernel
theorem dX4_over_36 : decode cX4_over 36 = .ok (.getfield 41, 3) := by decide +kernel
theorem dX4_over_39 : decode cX4_over 39 = .ok (.iload_n 2, 1) := by decide +kernel
theorem dX4_over_40 : decode cX4_over 40 = .ok (.iaload, 1) := by decide +kernel
theorem dX4_over_41 : decode cX4_over 41 = .ok (.ifCond .ge 7, 3) := by decide +kernel
theorem dX4_over_44 : decode cX4_over 44 = .ok (.iconst 2, 1) := by decide +kernel
theorem dX4_over_45 : decode cX4_over 45 = .ok (.goto 4, 3) := by decide +kernel
theorem dX4_over_48 : decode cX4_over 48 = .ok (.iconst 0, 1) := by decide +kernel
theorem dX4_over_49 : decode cX4_over 49 = .ok (.putfield 7, 3) := by decide +kernel
theorem dX4_over_52 : decode cX4_over 52 = .ok (.aload_n 0, 1) := by decide +kernel
theorem dX4_over_53 : decode cX4_over 53 = .ok (.getfield 7, 3) := by decide +kernel
theorem dX4_over_56 : decode cX4_over 56 = .ok (.ifCond .ne 16, 3) := by decide +kernel
theorem dX4_over_59 : decode cX4_over 59 = .ok (.aload_n 0, 1) := by decide +kernel
theorem dX4_over_60 : decode cX4_over 60 = .ok (.iload_n 1, 1) := by decide +kernel
theorem dX4_over_61 : decode cX4_over 61 = .ok (.iload_n 2, 1) := by decide +kernel
theorem dX4_over_62 : decode cX4_over 62 = .ok (.invokevirtual 143, 3) := by decide +kernel
theorem dX4_over_65 : decode cX4_over 65 = .ok (.ifCond .le 7, 3) := by decide +kernel
theorem dX4_over_68 : decode cX4_over 68 = .ok (.iconst 1, 1) := by decide +kernel
theorem dX4_over_69 : decode cX4_over 69 = .ok (.goto 4, 3) := by decide +kernel
theorem dX4_over_72 : decode cX4_over 72 = .ok (.iconst 0, 1) := by decide +kernel
theorem dX4_over_73 : decode cX4_over 73 = .ok (.ireturn, 1) := by decide +kernel
theorem dX4_support_0 : decode cX4_support 0 = .ok (.aload_n 0, 1) := by decide +kernel
theorem dX4_support_1 : decode cX4_support 1 = .ok (.aload_n 0, 1) := by decide +kernel
theorem dX4_support_2 : decode cX4_support 2 = .ok (.iload_n 1, 1) := by decide +kernel
theorem dX4_support_3 : decode cX4_support 3 = .ok (.invokevirtual 192, 3) := by decide +kernel
theorem dX4_support_6 : decode cX4_support 6 = .ok (.ifCond .eq 7, 3) := by decide +kernel
theorem dX4_support_9 : decode cX4_support 9 = .ok (.iconst 1, 1) := by decide +kernel
theorem dX4_support_10 : decode cX4_support 10 = .ok (.goto 17, 3) := by decide +kernel
theorem dX4_support_13 : decode cX4_support 13 = .ok (.aload_n 0, 1) := by decide +kernel
theorem dX4_support_14 : decode cX4_support 14 = .ok (.getfield 41, 3) := by decide +kernel
theorem dX4_support_17 : decode cX4_support 17 = .ok (.iload_n 1, 1) := by decide +kernel
theorem dX4_support_18 : decode cX4_support 18 = .ok (.iaload, 1) := by decide +kernel
theorem dX4_support_19 : decode cX4_support 19 = .ok (.ifCond .ge 7, 3) := by decide +kernel
theorem dX4_support_22 : decode cX4_support 22 = .ok (.iconst 2, 1) := by decide +kernel
theorem dX4_support_23 : decode cX4_support 23 = .ok (.goto 4, 3) := by decide +kernel
theorem dX4_support_26 : decode cX4_support 26 = .ok (.iconst 0, 1) := by decide +kernel
theorem dX4_support_27 : decode cX4_support 27 = .ok (.putfield 7, 3) := by decide +kernel
theorem dX4_support_30 : decode cX4_support 30 = .ok (.aload_n 0, 1) := by decide +kernel
theorem dX4_support_31 : decode cX4_support 31 = .ok (.getfield 7, 3) := by decide +kernel
theorem dX4_support_34 : decode cX4_support 34 = .ok (.ifCond .eq 7, 3) := by decide +kernel
theorem dX4_support_37 : decode cX4_support 37 = .ok (.iconst 0, 1) := by decide +kernel
theorem dX4_support_38 : decode cX4_support 38 = .ok (.goto 25, 3) := by decide +kernel
theorem dX4_support_41 : decode cX4_support 41 = .ok (.bipush 100, 2) := by decide +kernel
theorem dX4_support_43 : decode cX4_support 43 = .ok (.aload_n 0, 1) := by decide +kernel
theorem dX4_support_44 : decode cX4_support 44 = .ok (.iload_n 1, 1) := by decide +kernel
theorem dX4_support_45 : decode cX4_support 45 = .ok (.invokevirtual 149, 3) := by decide +kernel
theorem dX4_support_48 : decode cX4_support 48 = .ok (.imul, 1) := by decide +kernel
theorem dX4_support_49 : decode cX4_support 49 = .ok (.aload_n 0, 1) := by decide +kernel
theorem dX4_support_50 : decode cX4_support 50 = .ok (.getfield 53, 3) := by decide +kernel
theorem dX4_support_53 : decode cX4_support 53 = .ok (.iload_n 1, 1) := by decide +kernel
theorem dX4_support_54 : decode cX4_support 54 = .ok (.iaload, 1) := by decide +kernel
theorem dX4_support_55 : decode cX4_support 55 = .ok (.aload_n 0, 1) := by decide +kernel
theorem dX4_support_56 : decode cX4_support 56 = .ok (.getfield 56, 3) := by decide +kernel
theorem dX4_support_59 : decode cX4_support 59 = .ok (.iload_n 1, 1) := by decide +kernel
theorem dX4_support_60 : decode cX4_support 60 = .ok (.iaload, 1) := by decide +kernel
theorem dX4_support_61 : decode cX4_support 61 = .ok (.imul, 1) := by decide +kernel
theorem dX4_support_62 : decode cX4_support 62 = .ok (.idiv, 1) := by decide +kernel
theorem dX4_support_63 : decode cX4_support 63 = .ok (.ireturn, 1) := by decide +kernel
theorem dX4_bears_0 : decode cX4_bears 0 = .ok (.aload_n 0, 1) := by decide +kernel
theorem dX4_bears_1 : decode cX4_bears 1 = .ok (.aload_n 0, 1) := by decide +kernel
theorem dX4_bears_2 : decode cX4_bears 2 = .ok (.iload_n 1, 1) := by decide +kernel
theorem dX4_bears_3 : decode cX4_bears 3 = .ok (.invokevirtual 192, 3) := by decide +kernel
theorem dX4_bears_6 : decode cX4_bears 6 = .ok (.ifCond .eq 7, 3) := by decide +kernel
theorem dX4_bears_9 : decode cX4_bears 9 = .ok (.iconst 1, 1) := by decide +kernel
theorem dX4_bears_10 : decode cX4_bears 10 = .ok (.goto 17, 3) := by decide +kernel
theorem dX4_bears_13 : decode cX4_bears 13 = .ok (.aload_n 0, 1) := by decide +kernel
theorem dX4_bears_14 : decode cX4_bears 14 = .ok (.getfield 41, 3) := by decide +kernel
theorem dX4_bears_17 : decode cX4_bears 17 = .ok (.iload_n 1, 1) := by decide +kernel
theorem dX4_bears_18 : decode cX4_bears 18 = .ok (.iaload, 1) := by decide +kernel
theorem dX4_bears_19 : decode cX4_bears 19 = .ok (.ifCond .ge 7, 3) := by decide +kernel
theorem dX4_bears_22 : decode cX4_bears 22 = .ok (.iconst 2, 1) := by decide +kernel
theorem dX4_bears_23 : decode cX4_bears 23 = .ok (.goto 4, 3) := by decide +kernel
theorem dX4_bears_26 : decode cX4_bears 26 = .ok (.iconst 0, 1) := by decide +kernel
theorem dX4_bears_27 : decode cX4_bears 27 = .ok (.putfield 7, 3) := by decide +kernel
theorem dX4_bears_30 : decode cX4_bears 30 = .ok (.aload_n 0, 1) := by decide +kernel
theorem dX4_bears_31 : decode cX4_bears 31 = .ok (.getfield 7, 3) := by decide +kernel
theorem dX4_bears_34 : decode cX4_bears 34 = .ok (.ifCond .eq 7, 3) := by decide +kernel
theorem dX4_bears_37 : decode cX4_bears 37 = .ok (.iconst 0, 1) := by decide +kernel
theorem dX4_bears_38 : decode cX4_bears 38 = .ok (.goto 8, 3) := by decide +kernel
theorem dX4_bears_41 : decode cX4_bears 41 = .ok (.aload_n 0, 1) := by decide +kernel
theorem dX4_bears_42 : decode cX4_bears 42 = .ok (.iload_n 1, 1) := by decide +kernel
theorem dX4_bears_43 : decode cX4_bears 43 = .ok (.invokevirtual 152, 3) := by decide +kernel
theorem dX4_bears_46 : decode cX4_bears 46 = .ok (.ireturn, 1) := by decide +kernel
theorem dX4_cell_0 : decode cX4_cell 0 = .ok (.aload_n 0, 1) := by decide +kernel
theorem dX4_cell_1 : decode cX4_cell 1 = .ok (.iload_n 1, 1) := by decide +kernel
theorem dX4_cell_2 : decode cX4_cell 2 = .ok (.iconst 0, 1) := by decide +kernel
theorem dX4_cell_3 : decode cX4_cell 3 = .ok (.aload_n 0, 1) := by decide +kernel
theorem dX4_cell_4 : decode cX4_cell 4 = .ok (.getfield 118, 3) := by decide +kernel
theorem dX4_cell_7 : decode cX4_cell 7 = .ok (.iconst 1, 1) := by decide +kernel
theorem dX4_cell_8 : decode cX4_cell 8 = .ok (.isub, 1) := by decide +kernel
theorem dX4_cell_9 : decode cX4_cell 9 = .ok (.invokestatic 188, 3) := by decide +kernel
theorem dX4_cell_12 : decode cX4_cell 12 = .ok (.ifCond .ne 31, 3) := by decide +kernel
theorem dX4_cell_15 : decode cX4_cell 15 = .ok (.iload_n 2, 1) := by decide +kernel
theorem dX4_cell_16 : decode cX4_cell 16 = .ok (.iconst 0, 1) := by decide +kernel
theorem dX4_cell_17 : decode cX4_cell 17 = .ok (.aload_n 0, 1) := by decide +kernel
theorem dX4_cell_18 : decode cX4_cell 18 = .ok (.getfield 121, 3) := by decide +kernel
theorem dX4_cell_21 : decode cX4_cell 21 = .ok (.iconst 1, 1) := by decide +kernel
theorem dX4_cell_22 : decode cX4_cell 22 = .ok (.isub, 1) := by decide +kernel
theorem dX4_cell_23 : decode cX4_cell 23 = .ok (.invokestatic 188, 3) := by decide +kernel
theorem dX4_cell_26 : decode cX4_cell 26 = .ok (.ifCond .ne 17, 3) := by decide +kernel
theorem dX4_cell_29 : decode cX4_cell 29 = .ok (.iload_n 3, 1) := by decide +kernel
theorem dX4_cell_30 : decode cX4_cell 30 = .ok (.iconst 0, 1) := by decide +kernel
theorem dX4_cell_31 : decode cX4_cell 31 = .ok (.aload_n 0, 1) := by decide +kernel
theorem dX4_cell_32 : decode cX4_cell 32 = .ok (.getfield 124, 3) := by decide +kernel
theorem dX4_cell_35 : decode cX4_cell 35 = .ok (.iconst 1, 1) := by decide +kernel
theorem dX4_cell_36 : decode cX4_cell 36 = .ok (.isub, 1) := by decide +kernel
theorem dX4_cell_37 : decode cX4_cell 37 = .ok (.invokestatic 188, 3) := by decide +kernel
theorem dX4_cell_40 : decode cX4_cell 40 = .ok (.ifCond .eq 7, 3) := by decide +kernel
theorem dX4_cell_43 : decode cX4_cell 43 = .ok (.iconst 1, 1) := by decide +kernel
theorem dX4_cell_44 : decode cX4_cell 44 = .ok (.goto 4, 3) := by decide +kernel
theorem dX4_cell_47 : decode cX4_cell 47 = .ok (.iconst 0, 1) := by decide +kernel
theorem dX4_cell_48 : decode cX4_cell 48 = .ok (.putfield 7, 3) := by decide +kernel
theorem dX4_cell_51 : decode cX4_cell 51 = .ok (.aload_n 0, 1) := by decide +kernel
theorem dX4_cell_52 : decode cX4_cell 52 = .ok (.getfield 7, 3) := by decide +kernel
theorem dX4_cell_55 : decode cX4_cell 55 = .ok (.ifCond .eq 5, 3) := by decide +kernel
theorem dX4_cell_58 : decode cX4_cell 58 = .ok (.iconst 0, 1) := by decide +kernel
theorem dX4_cell_59 : decode cX4_cell 59 = .ok (.ireturn, 1) := by decide +kernel
theorem dX4_cell_60 : decode cX4_cell 60 = .ok (.iconst 0, 1) := by decide +kernel
theorem dX4_cell_61 : decode cX4_cell 61 = .ok (.istore 4, 2) := by decide +kernel
theorem dX4_cell_63 : decode cX4_cell 63 = .ok (.iload 4, 2) := by decide +kernel
theorem dX4_cell_65 : decode cX4_cell 65 = .ok (.aload_n 0, 1) := by decide +kernel
theorem dX4_cell_66 : decode cX4_cell 66 = .ok (.getfield 13, 3) := by decide +kernel
theorem dX4_cell_69 : decode cX4_cell 69 = .ok (.if_icmp .ge 112, 3) := by decide +kernel
theorem dX4_cell_72 : decode cX4_cell 72 = .ok (.aload_n 0, 1) := by decide +kernel
theorem dX4_cell_73 : decode cX4_cell 73 = .ok (.getfield 41, 3) := by decide +kernel
theorem dX4_cell_76 : decode cX4_cell 76 = .ok (.iload 4, 2) := by decide +kernel
theorem dX4_cell_78 : decode cX4_cell 78 = .ok (.iaload, 1) := by decide +kernel
theorem dX4_cell_79 : decode cX4_cell 79 = .ok (.ifCond .lt 96, 3) := by decide +kernel
theorem dX4_cell_82 : decode cX4_cell 82 = .ok (.aload_n 0, 1) := by decide +kernel
theorem dX4_cell_83 : decode cX4_cell 83 = .ok (.getfield 44, 3) := by decide +kernel
theorem dX4_cell_86 : decode cX4_cell 86 = .ok (.iload 4, 2) := by decide +kernel
theorem dX4_cell_88 : decode cX4_cell 88 = .ok (.iaload, 1) := by decide +kernel
theorem dX4_cell_89 : decode cX4_cell 89 = .ok (.iload_n 1, 1) := by decide +kernel
theorem dX4_cell_90 : decode cX4_cell 90 = .ok (.if_icmp .gt 85, 3) := by decide +kernel
theorem dX4_cell_93 : decode cX4_cell 93 = .ok (.iload_n 1, 1) := by decide +kernel
theorem dX4_cell_94 : decode cX4_cell 94 = .ok (.aload_n 0, 1) := by decide +kernel
theorem dX4_cell_95 : decode cX4_cell 95 = .ok (.getfield 44, 3) := by decide +kernel
theorem dX4_cell_98 : decode cX4_cell 98 = .ok (.iload 4, 2) := by decide +kernel
theorem dX4_cell_100 : decode cX4_cell 100 = .ok (.iaload, 1) := by decide +kernel
theorem dX4_cell_101 : decode cX4_cell 101 = .ok (.aload_n 0, 1) := by decide +kernel
theorem dX4_cell_102 : decode cX4_cell 102 = .ok (.getfield 53, 3) := by decide +kernel
theorem dX4_cell_105 : decode cX4_cell 105 = .ok (.iload 4, 2) := by decide +kernel
theorem dX4_cell_107 : decode cX4_cell 107 = .ok (.iaload, 1) := by decide +kernel
theorem dX4_cell_108 : decode cX4_cell 108 = .ok (.iadd, 1) := by decide +kernel
theorem dX4_cell_109 : decode cX4_cell 109 = .ok (.if_icmp .ge 66, 3) := by decide +kernel
theorem dX4_cell_112 : decode cX4_cell 112 = .ok (.aload_n 0, 1) := by decide +kernel
theorem dX4_cell_113 : decode cX4_cell 113 = .ok (.getfield 47, 3) := by decide +kernel
theorem dX4_cell_116 : decode cX4_cell 116 = .ok (.iload 4, 2) := by decide +kernel
theorem dX4_cell_118 : decode cX4_cell 118 = .ok (.iaload, 1) := by decide +kernel
theorem dX4_cell_119 : decode cX4_cell 119 = .ok (.iload_n 2, 1) := by decide +kernel
theorem dX4_cell_120 : decode cX4_cell 120 = .ok (.if_icmp .gt 55, 3) := by decide +kernel
theorem dX4_cell_123 : decode cX4_cell 123 = .ok (.iload_n 2, 1) := by decide +kernel
theorem dX4_cell_124 : decode cX4_cell 124 = .ok (.aload_n 0, 1) := by decide +kernel
theorem dX4_cell_125 : decode cX4_cell 125 = .ok (.getfield 47, 3) := by decide +kernel
theorem dX4_cell_128 : decode cX4_cell 128 = .ok (.iload 4, 2) := by decide +kernel
theorem dX4_cell_130 : decode cX4_cell 130 = .ok (.iaload, 1) := by decide +kernel
theorem dX4_cell_131 : decode cX4_cell 131 = .ok (.aload_n 0, 1) := by decide +kernel
theorem dX4_cell_132 : decode cX4_cell 132 = .ok (.getfield 56, 3) := by decide +kernel
theorem dX4_cell_135 : decode cX4_cell 135 = .ok (.iload 4, 2) := by decide +kernel
theorem dX4_cell_137 : decode cX4_cell 137 = .ok (.iaload, 1) := by decide +kernel
theorem dX4_cell_138 : decode cX4_cell 138 = .ok (.iadd, 1) := by decide +kernel
theorem dX4_cell_139 : decode cX4_cell 139 = .ok (.if_icmp .ge 36, 3) := by decide +kernel
theorem dX4_cell_142 : decode cX4_cell 142 = .ok (.aload_n 0, 1) := by decide +kernel
theorem dX4_cell_143 : decode cX4_cell 143 = .ok (.getfield 50, 3) := by decide +kernel
theorem dX4_cell_146 : decode cX4_cell 146 = .ok (.iload 4, 2) := by decide +kernel
theorem dX4_cell_148 : decode cX4_cell 148 = .ok (.iaload, 1) := by decide +kernel
theorem dX4_cell_149 : decode cX4_cell 149 = .ok (.iload_n 3, 1) := by decide +kernel
theorem dX4_cell_150 : decode cX4_cell 150 = .ok (.if_icmp .gt 25, 3) := by decide +kernel
theorem dX4_cell_153 : decode cX4_cell 153 = .ok (.iload_n 3, 1) := by decide +kernel
theorem dX4_cell_154 : decode cX4_cell 154 = .ok (.aload_n 0, 1) := by decide +kernel
theorem dX4_cell_155 : decode cX4_cell 155 = .ok (.getfield 50, 3) := by decide +kernel
theorem dX4_cell_158 : decode cX4_cell 158 = .ok (.iload 4, 2) := by decide +kernel
theorem dX4_cell_160 : decode cX4_cell 160 = .ok (.iaload, 1) := by decide +kernel
theorem dX4_cell_161 : decode cX4_cell 161 = .ok (.aload_n 0, 1) := by decide +kernel
theorem dX4_cell_162 : decode cX4_cell 162 = .ok (.getfield 59, 3) := by decide +kernel
theorem dX4_cell_165 : decode cX4_cell 165 = .ok (.iload 4, 2) := by decide +kernel
theorem dX4_cell_167 : decode cX4_cell 167 = .ok (.iaload, 1) := by decide +kernel
theorem dX4_cell_168 : decode cX4_cell 168 = .ok (.iadd, 1) := by decide +kernel
theorem dX4_cell_169 : decode cX4_cell 169 = .ok (.if_icmp .ge 6, 3) := by decide +kernel
theorem dX4_cell_172 : decode cX4_cell 172 = .ok (.iload 4, 2) := by decide +kernel
theorem dX4_cell_174 : decode cX4_cell 174 = .ok (.ireturn, 1) := by decide +kernel
theorem dX4_cell_175 : decode cX4_cell 175 = .ok (.iinc 4 1, 3) := by decide +kernel
theorem dX4_cell_178 : decode cX4_cell 178 = .ok (.goto (-115), 3) := by decide +kernel
theorem dX4_cell_181 : decode cX4_cell 181 = .ok (.iconst (-1), 1) := by decide +kernel
theorem dX4_cell_182 : decode cX4_cell 182 = .ok (.ireturn, 1) := by decide +kernel
theorem dX4_close_0 : decode cX4_close 0 = .ok (.iconst 0, 1) := by decide +kernel
theorem dX4_close_1 : decode cX4_close 1 = .ok (.istore_n 1, 1) := by decide +kernel
theorem dX4_close_2 : decode cX4_close 2 = .ok (.iconst 0, 1) := by decide +kernel
theorem dX4_close_3 : decode cX4_close 3 = .ok (.istore_n 2, 1) := by decide +kernel
theorem dX4_close_4 : decode cX4_close 4 = .ok (.iload_n 2, 1) := by decide +kernel
theorem dX4_close_5 : decode cX4_close 5 = .ok (.aload_n 0, 1) := by decide +kernel
theorem dX4_close_6 : decode cX4_close 6 = .ok (.getfield 13, 3) := by decide +kernel
theorem dX4_close_9 : decode cX4_close 9 = .ok (.if_icmp .ge 28, 3) := by decide +kernel
theorem dX4_close_12 : decode cX4_close 12 = .ok (.iload_n 1, 1) := by decide +kernel
theorem dX4_close_13 : decode cX4_close 13 = .ok (.ifCond .ne 12, 3) := by decide +kernel
theorem dX4_close_16 : decode cX4_close 16 = .ok (.aload_n 0, 1) := by decide +kernel
theorem dX4_close_17 : decode cX4_close 17 = .ok (.getfield 41, 3) := by decide +kernel
theorem dX4_close_20 : decode cX4_close 20 = .ok (.iload_n 2, 1) := by decide +kernel
theorem dX4_close_21 : decode cX4_close 21 = .ok (.iaload, 1) := by decide +kernel
theorem dX4_close_22 : decode cX4_close 22 = .ok (.ifCond .lt 7, 3) := by decide +kernel
theorem dX4_close_25 : decode cX4_close 25 = .ok (.iconst 1, 1) := by decide +kernel
theorem dX4_close_26 : decode cX4_close 26 = .ok (.goto 4, 3) := by decide +kernel
theorem dX4_close_29 : decode cX4_close 29 = .ok (.iconst 0, 1) := by decide +kernel
theorem dX4_close_30 : decode cX4_close 30 = .ok (.istore_n 1, 1) := by decide +kernel
theorem dX4_close_31 : decode cX4_close 31 = .ok (.iinc 2 1, 3) := by decide +kernel
theorem dX4_close_34 : decode cX4_close 34 = .ok (.goto (-30), 3) := by decide +kernel
theorem dX4_close_37 : decode cX4_close 37 = .ok (.aload_n 0, 1) := by decide +kernel
theorem dX4_close_38 : decode cX4_close 38 = .ok (.iload_n 1, 1) := by decide +kernel
theorem dX4_close_39 : decode cX4_close 39 = .ok (.ifCond .eq 7, 3) := by decide +kernel
theorem dX4_close_42 : decode cX4_close 42 = .ok (.iconst 0, 1) := by decide +kernel
theorem dX4_close_43 : decode cX4_close 43 = .ok (.goto 4, 3) := by decide +kernel
theorem dX4_close_46 : decode cX4_close 46 = .ok (.iconst 1, 1) := by decide +kernel
theorem dX4_close_47 : decode cX4_close 47 = .ok (.putfield 7, 3) := by decide +kernel
theorem dX4_close_50 : decode cX4_close 50 = .ok (.aload_n 0, 1) := by decide +kernel
theorem dX4_close_51 : decode cX4_close 51 = .ok (.getfield 7, 3) := by decide +kernel
theorem dX4_close_54 : decode cX4_close 54 = .ok (.ifCond .eq 5, 3) := by decide +kernel
theorem dX4_close_57 : decode cX4_close 57 = .ok (.iconst 0, 1) := by decide +kernel
theorem dX4_close_58 : decode cX4_close 58 = .ok (.ireturn, 1) := by decide +kernel
theorem dX4_close_59 : decode cX4_close 59 = .ok (.iconst 0, 1) := by decide +kernel
theorem dX4_close_60 : decode cX4_close 60 = .ok (.istore_n 2, 1) := by decide +kernel
theorem dX4_close_61 : decode cX4_close 61 = .ok (.iload_n 2, 1) := by decide +kernel
theorem dX4_close_62 : decode cX4_close 62 = .ok (.aload_n 0, 1) := by decide +kernel
theorem dX4_close_63 : decode cX4_close 63 = .ok (.getfield 13, 3) := by decide +kernel
theorem dX4_close_66 : decode cX4_close 66 = .ok (.if_icmp .ge 35, 3) := by decide +kernel
theorem dX4_close_69 : decode cX4_close 69 = .ok (.aload_n 0, 1) := by decide +kernel
theorem dX4_close_70 : decode cX4_close 70 = .ok (.getfield 41, 3) := by decide +kernel
theorem dX4_close_73 : decode cX4_close 73 = .ok (.iload_n 2, 1) := by decide +kernel
theorem dX4_close_74 : decode cX4_close 74 = .ok (.iaload, 1) := by decide +kernel
theorem dX4_close_75 : decode cX4_close 75 = .ok (.ifCond .lt 13, 3) := by decide +kernel
theorem dX4_close_78 : decode cX4_close 78 = .ok (.aload_n 0, 1) := by decide +kernel
theorem dX4_close_79 : decode cX4_close 79 = .ok (.getfield 32, 3) := by decide +kernel
theorem dX4_close_82 : decode cX4_close 82 = .ok (.iload_n 2, 1) := by decide +kernel
theorem dX4_close_83 : decode cX4_close 83 = .ok (.aload_n 0, 1) := by decide +kernel
theorem dX4_close_84 : decode cX4_close 84 = .ok (.getfield 38, 3) := by decide +kernel
theorem dX4_close_87 : decode cX4_close 87 = .ok (.iastore, 1) := by decide +kernel
theorem dX4_close_88 : decode cX4_close 88 = .ok (.aload_n 0, 1) := by decide +kernel
theorem dX4_close_89 : decode cX4_close 89 = .ok (.getfield 41, 3) := by decide +kernel
theorem dX4_close_92 : decode cX4_close 92 = .ok (.iload_n 2, 1) := by decide +kernel
theorem dX4_close_93 : decode cX4_close 93 = .ok (.iconst (-1), 1) := by decide +kernel
theorem dX4_close_94 : decode cX4_close 94 = .ok (.iastore, 1) := by decide +kernel
theorem dX4_close_95 : decode cX4_close 95 = .ok (.iinc 2 1, 3) := by decide +kernel
theorem dX4_close_98 : decode cX4_close 98 = .ok (.goto (-37), 3) := by decide +kernel
theorem dX4_close_101 : decode cX4_close 101 = .ok (.aload_n 0, 1) := by decide +kernel
theorem dX4_close_102 : decode cX4_close 102 = .ok (.dup, 1) := by decide +kernel
theorem dX4_close_103 : decode cX4_close 103 = .ok (.getfield 38, 3) := by decide +kernel
theorem dX4_close_106 : decode cX4_close 106 = .ok (.iconst 1, 1) := by decide +kernel
theorem dX4_close_107 : decode cX4_close 107 = .ok (.iadd, 1) := by decide +kernel
theorem dX4_close_108 : decode cX4_close 108 = .ok (.putfield 38, 3) := by decide +kernel
theorem dX4_close_111 : decode cX4_close 111 = .ok (.aload_n 0, 1) := by decide +kernel
theorem dX4_close_112 : decode cX4_close 112 = .ok (.getfield 38, 3) := by decide +kernel
theorem dX4_close_115 : decode cX4_close 115 = .ok (.iconst 1, 1) := by decide +kernel
theorem dX4_close_116 : decode cX4_close 116 = .ok (.isub, 1) := by decide +kernel
theorem dX4_close_117 : decode cX4_close 117 = .ok (.ireturn, 1) := by decide +kernel
theorem dX4_box_0 : decode cX4_box 0 = .ok (.aload_n 0, 1) := by decide +kernel
theorem dX4_box_1 : decode cX4_box 1 = .ok (.aload_n 0, 1) := by decide +kernel
theorem dX4_box_2 : decode cX4_box 2 = .ok (.iload_n 1, 1) := by decide +kernel
theorem dX4_box_3 : decode cX4_box 3 = .ok (.invokevirtual 192, 3) := by decide +kernel
theorem dX4_box_6 : decode cX4_box 6 = .ok (.ifCond .eq 7, 3) := by decide +kernel
theorem dX4_box_9 : decode cX4_box 9 = .ok (.iconst 1, 1) := by decide +kernel
theorem dX4_box_10 : decode cX4_box 10 = .ok (.goto 4, 3) := by decide +kernel
theorem dX4_box_13 : decode cX4_box 13 = .ok (.iconst 0, 1) := by decide +kernel
theorem dX4_box_14 : decode cX4_box 14 = .ok (.putfield 7, 3) := by decide +kernel
theorem dX4_box_17 : decode cX4_box 17 = .ok (.aload_n 0, 1) := by decide +kernel
theorem dX4_box_18 : decode cX4_box 18 = .ok (.getfield 7, 3) := by decide +kernel
theorem dX4_box_21 : decode cX4_box 21 = .ok (.ifCond .eq 7, 3) := by decide +kernel
theorem dX4_box_24 : decode cX4_box 24 = .ok (.iconst 0, 1) := by decide +kernel
theorem dX4_box_25 : decode cX4_box 25 = .ok (.goto 9, 3) := by decide +kernel
theorem dX4_box_28 : decode cX4_box 28 = .ok (.aload_n 0, 1) := by decide +kernel
theorem dX4_box_29 : decode cX4_box 29 = .ok (.getfield 32, 3) := by decide +kernel
theorem dX4_box_32 : decode cX4_box 32 = .ok (.iload_n 1, 1) := by decide +kernel
theorem dX4_box_33 : decode cX4_box 33 = .ok (.iaload, 1) := by decide +kernel
theorem dX4_box_34 : decode cX4_box 34 = .ok (.ireturn, 1) := by decide +kernel
theorem dX4_count_0 : decode cX4_count 0 = .ok (.aload_n 0, 1) := by decide +kernel
theorem dX4_count_1 : decode cX4_count 1 = .ok (.iconst 0, 1) := by decide +kernel
theorem dX4_count_2 : decode cX4_count 2 = .ok (.putfield 7, 3) := by decide +kernel
theorem dX4_count_5 : decode cX4_count 5 = .ok (.iconst 0, 1) := by decide +kernel
theorem dX4_count_6 : decode cX4_count 6 = .ok (.istore_n 2, 1) := by decide +kernel
theorem dX4_count_7 : decode cX4_count 7 = .ok (.iconst 0, 1) := by decide +kernel
theorem dX4_count_8 : decode cX4_count 8 = .ok (.istore_n 3, 1) := by decide +kernel
theorem dX4_count_9 : decode cX4_count 9 = .ok (.iconst 0, 1) := by decide +kernel
theorem dX4_count_10 : decode cX4_count 10 = .ok (.istore 4, 2) := by decide +kernel
theorem dX4_count_12 : decode cX4_count 12 = .ok (.iconst 0, 1) := by decide +kernel
theorem dX4_count_13 : decode cX4_count 13 = .ok (.istore 5, 2) := by decide +kernel
theorem dX4_count_15 : decode cX4_count 15 = .ok (.iconst 0, 1) := by decide +kernel
theorem dX4_count_16 : decode cX4_count 16 = .ok (.istore 6, 2) := by decide +kernel
theorem dX4_count_18 : decode cX4_count 18 = .ok (.iload 6, 2) := by decide +kernel
theorem dX4_count_20 : decode cX4_count 20 = .ok (.aload_n 0, 1) := by decide +kernel
theorem dX4_count_21 : decode cX4_count 21 = .ok (.getfield 13, 3) := by decide +kernel
theorem dX4_count_24 : decode cX4_count 24 = .ok (.if_icmp .ge 89, 3) := by decide +kernel
theorem dX4_count_27 : decode cX4_count 27 = .ok (.iload_n 3, 1) := by decide +kernel
theorem dX4_count_28 : decode cX4_count 28 = .ok (.aload_n 0, 1) := by decide +kernel
theorem dX4_count_29 : decode cX4_count 29 = .ok (.getfield 32, 3) := by decide +kernel
theorem dX4_count_32 : decode cX4_count 32 = .ok (.iload 6, 2) := by decide +kernel
theorem dX4_count_34 : decode cX4_count 34 = .ok (.iaload, 1) := by decide +kernel
theorem dX4_count_35 : decode cX4_count 35 = .ok (.ifCond .ge 7, 3) := by decide +kernel
theorem dX4_count_38 : decode cX4_count 38 = .ok (.iconst 1, 1) := by decide +kernel
theorem dX4_count_39 : decode cX4_count 39 = .ok (.goto 4, 3) := by decide +kernel
theorem dX4_count_42 : decode cX4_count 42 = .ok (.iconst 0, 1) := by decide +kernel
theorem dX4_count_43 : decode cX4_count 43 = .ok (.iadd, 1) := by decide +kernel
theorem dX4_count_44 : decode cX4_count 44 = .ok (.istore_n 3, 1) := by decide +kernel
theorem dX4_count_45 : decode cX4_count 45 = .ok (.aload_n 0, 1) := by decide +kernel
theorem dX4_count_46 : decode cX4_count 46 = .ok (.getfield 41, 3) := by decide +kernel
theorem dX4_count_49 : decode cX4_count 49 = .ok (.iload 6, 2) := by decide +kernel
theorem dX4_count_51 : decode cX4_count 51 = .ok (.iaload, 1) := by decide +kernel
theorem dX4_count_52 : decode cX4_count 52 = .ok (.ifCond .lt 55, 3) := by decide +kernel
theorem dX4_count_55 : decode cX4_count 55 = .ok (.iinc 2 1, 3) := by decide +kernel
theorem dX4_count_58 : decode cX4_count 58 = .ok (.iload 4, 2) := by decide +kernel
theorem dX4_count_60 : decode cX4_count 60 = .ok (.aload_n 0, 1) := by decide +kernel
theorem dX4_count_61 : decode cX4_count 61 = .ok (.getfield 20, 3) := by decide +kernel
theorem dX4_count_64 : decode cX4_count 64 = .ok (.iload 6, 2) := by decide +kernel
theorem dX4_count_66 : decode cX4_count 66 = .ok (.iaload, 1) := by decide +kernel
theorem dX4_count_67 : decode cX4_count 67 = .ok (.iadd, 1) := by decide +kernel
theorem dX4_count_68 : decode cX4_count 68 = .ok (.istore 4, 2) := by decide +kernel
theorem dX4_count_70 : decode cX4_count 70 = .ok (.aload_n 0, 1) := by decide +kernel
theorem dX4_count_71 : decode cX4_count 71 = .ok (.getfield 50, 3) := by decide +kernel
theorem dX4_count_74 : decode cX4_count 74 = .ok (.iload 6, 2) := by decide +kernel
theorem dX4_count_76 : decode cX4_count 76 = .ok (.iaload, 1) := by decide +kernel
theorem dX4_count_77 : decode cX4_count 77 = .ok (.aload_n 0, 1) := by decide +kernel
theorem dX4_count_78 : decode cX4_count 78 = .ok (.getfield 59, 3) := by decide +kernel
theorem dX4_count_81 : decode cX4_count 81 = .ok (.iload 6, 2) := by decide +kernel
theorem dX4_count_83 : decode cX4_count 83 = .ok (.iaload, 1) := by decide +kernel
theorem dX4_count_84 : decode cX4_count 84 = .ok (.iadd, 1) := by decide +kernel
theorem dX4_count_85 : decode cX4_count 85 = .ok (.iload 5, 2) := by decide +kernel
theorem dX4_count_87 : decode cX4_count 87 = .ok (.if_icmp .le 20, 3) := by decide +kernel
theorem dX4_count_90 : decode cX4_count 90 = .ok (.aload_n 0, 1) := by decide +kernel
theorem dX4_count_91 : decode cX4_count 91 = .ok (.getfield 50, 3) := by decide +kernel
theorem dX4_count_94 : decode cX4_count 94 = .ok (.iload 6, 2) := by decide +kernel
theorem dX4_count_96 : decode cX4_count 96 = .ok (.iaload, 1) := by decide +kernel
theorem dX4_count_97 : decode cX4_count 97 = .ok (.aload_n 0, 1) := by decide +kernel
theorem dX4_count_98 : decode cX4_count 98 = .ok (.getfield 59, 3) := by decide +kernel
theorem dX4_count_101 : decode cX4_count 101 = .ok (.iload 6, 2) := by decide +kernel
theorem dX4_count_103 : decode cX4_count 103 = .ok (.iaload, 1) := by decide +kernel
theorem dX4_count_104 : decode cX4_count 104 = .ok (.iadd, 1) := by decide +kernel
theorem dX4_count_105 : decode cX4_count 105 = .ok (.istore 5, 2) := by decide +kernel
theorem dX4_count_107 : decode cX4_count 107 = .ok (.iinc 6 1, 3) := by decide +kernel
theorem dX4_count_110 : decode cX4_count 110 = .ok (.goto (-92), 3) := by decide +kernel
theorem dX4_count_113 : decode cX4_count 113 = .ok (.iload_n 1, 1) := by decide +kernel
theorem dX4_count_114 : decode cX4_count 114 = .ok (.tableswitch 67 0 6 #[42, 47, 49, 51, 56, 61, 64], 42) := by decide +kernel
theorem dX4_count_156 : decode cX4_count 156 = .ok (.aload_n 0, 1) := by decide +kernel
theorem dX4_count_157 : decode cX4_count 157 = .ok (.getfield 13, 3) := by decide +kernel
theorem dX4_count_160 : decode cX4_count 160 = .ok (.ireturn, 1) := by decide +kernel
theorem dX4_count_161 : decode cX4_count 161 = .ok (.iload_n 2, 1) := by decide +kernel
theorem dX4_count_162 : decode cX4_count 162 = .ok (.ireturn, 1) := by decide +kernel
theorem dX4_count_163 : decode cX4_count 163 = .ok (.iload_n 3, 1) := by decide +kernel
theorem dX4_count_164 : decode cX4_count 164 = .ok (.ireturn, 1) := by decide +kernel
theorem dX4_count_165 : decode cX4_count 165 = .ok (.aload_n 0, 1) := by decide +kernel
theorem dX4_count_166 : decode cX4_count 166 = .ok (.getfield 38, 3) := by decide +kernel
theorem dX4_count_169 : decode cX4_count 169 = .ok (.ireturn, 1) := by decide +kernel
theorem dX4_count_170 : decode cX4_count 170 = .ok (.aload_n 0, 1) := by decide +kernel
theorem dX4_count_171 : decode cX4_count 171 = .ok (.invokevirtual 165, 3) := by decide +kernel
theorem dX4_count_174 : decode cX4_count 174 = .ok (.ireturn, 1) := by decide +kernel
theorem dX4_count_175 : decode cX4_count 175 = .ok (.iload 4, 2) := by decide +kernel
theorem dX4_count_177 : decode cX4_count 177 = .ok (.ireturn, 1) := by decide +kernel
theorem dX4_count_178 : decode cX4_count 178 = .ok (.iload 5, 2) := by decide +kernel
theorem dX4_count_180 : decode cX4_count 180 = .ok (.ireturn, 1) := by decide +kernel
theorem dX4_count_181 : decode cX4_count 181 = .ok (.iconst (-1), 1) := by decide +kernel
theorem dX4_count_182 : decode cX4_count 182 = .ok (.ireturn, 1) := by decide +kernel
