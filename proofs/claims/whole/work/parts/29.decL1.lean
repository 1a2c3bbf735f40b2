theorem dL_cell_0 : decode cL_cell 0 = .ok (.iload_n 1, 1) := by decide +kernel
theorem dL_cell_1 : decode cL_cell 1 = .ok (.aload_n 0, 1) := by decide +kernel
theorem dL_cell_2 : decode cL_cell 2 = .ok (.arraylength, 1) := by decide +kernel
theorem dL_cell_3 : decode cL_cell 3 = .ok (.if_icmp .ge 9, 3) := by decide +kernel
theorem dL_cell_6 : decode cL_cell 6 = .ok (.aload_n 0, 1) := by decide +kernel
theorem dL_cell_7 : decode cL_cell 7 = .ok (.iload_n 1, 1) := by decide +kernel
theorem dL_cell_8 : decode cL_cell 8 = .ok (.iaload, 1) := by decide +kernel
theorem dL_cell_9 : decode cL_cell 9 = .ok (.goto 4, 3) := by decide +kernel
theorem dL_cell_12 : decode cL_cell 12 = .ok (.iconst 0, 1) := by decide +kernel
theorem dL_cell_13 : decode cL_cell 13 = .ok (.ireturn, 1) := by decide +kernel
theorem dL_piece_0 : decode cL_piece 0 = .ok (.aload 5, 2) := by decide +kernel
theorem dL_piece_2 : decode cL_piece 2 = .ok (.iconst 0, 1) := by decide +kernel
theorem dL_piece_3 : decode cL_piece 3 = .ok (.aload_n 0, 1) := by decide +kernel
theorem dL_piece_4 : decode cL_piece 4 = .ok (.iload_n 1, 1) := by decide +kernel
theorem dL_piece_5 : decode cL_piece 5 = .ok (.iload_n 2, 1) := by decide +kernel
theorem dL_piece_6 : decode cL_piece 6 = .ok (.iload_n 3, 1) := by decide +kernel
theorem dL_piece_7 : decode cL_piece 7 = .ok (.iload 4, 2) := by decide +kernel
theorem dL_piece_9 : decode cL_piece 9 = .ok (.invokevirtual 7, 3) := by decide +kernel
theorem dL_piece_12 : decode cL_piece 12 = .ok (.i2l, 1) := by decide +kernel
theorem dL_piece_13 : decode cL_piece 13 = .ok (.lastore, 1) := by decide +kernel
theorem dL_piece_14 : decode cL_piece 14 = .ok (.goto 11, 3) := by decide +kernel
theorem dL_piece_17 : decode cL_piece 17 = .ok (.astore 6, 2) := by decide +kernel
theorem dL_piece_19 : decode cL_piece 19 = .ok (.iconst 1, 1) := by decide +kernel
theorem dL_piece_20 : decode cL_piece 20 = .ok (.ireturn, 1) := by decide +kernel
theorem dL_piece_21 : decode cL_piece 21 = .ok (.astore 6, 2) := by decide +kernel
theorem dL_piece_23 : decode cL_piece 23 = .ok (.iconst 2, 1) := by decide +kernel
theorem dL_piece_24 : decode cL_piece 24 = .ok (.ireturn, 1) := by decide +kernel
theorem dL_piece_25 : decode cL_piece 25 = .ok (.iconst 0, 1) := by decide +kernel
theorem dL_piece_26 : decode cL_piece 26 = .ok (.ireturn, 1) := by decide +kernel
theorem dL_turn_0 : decode cL_turn 0 = .ok (.aload_n 3, 1) := by decide +kernel
theorem dL_turn_1 : decode cL_turn 1 = .ok (.iconst 0, 1) := by decide +kernel
theorem dL_turn_2 : decode cL_turn 2 = .ok (.aload_n 0, 1) := by decide +kernel
theorem dL_turn_3 : decode cL_turn 3 = .ok (.iload_n 1, 1) := by decide +kernel
theorem dL_turn_4 : decode cL_turn 4 = .ok (.iload_n 2, 1) := by decide +kernel
theorem dL_turn_5 : decode cL_turn 5 = .ok (.invokevirtual 17, 3) := by decide +kernel
theorem dL_turn_8 : decode cL_turn 8 = .ok (.i2l, 1) := by decide +kernel
theorem dL_turn_9 : decode cL_turn 9 = .ok (.lastore, 1) := by decide +kernel
theorem dL_turn_10 : decode cL_turn 10 = .ok (.goto 11, 3) := by decide +kernel
theorem dL_turn_13 : decode cL_turn 13 = .ok (.astore 4, 2) := by decide +kernel
theorem dL_turn_15 : decode cL_turn 15 = .ok (.iconst 1, 1) := by decide +kernel
theorem dL_turn_16 : decode cL_turn 16 = .ok (.ireturn, 1) := by decide +kernel
theorem dL_turn_17 : decode cL_turn 17 = .ok (.astore 4, 2) := by decide +kernel
theorem dL_turn_19 : decode cL_turn 19 = .ok (.iconst 2, 1) := by decide +kernel
theorem dL_turn_20 : decode cL_turn 20 = .ok (.ireturn, 1) := by decide +kernel
theorem dL_turn_21 : decode cL_turn 21 = .ok (.iconst 0, 1) := by decide +kernel
theorem dL_turn_22 : decode cL_turn 22 = .ok (.ireturn, 1) := by decide +kernel
theorem dL_limit_0 : decode cL_limit 0 = .ok (.aload_n 0, 1) := by decide +kernel
theorem dL_limit_1 : decode cL_limit 1 = .ok (.iload_n 1, 1) := by decide +kernel
theorem dL_limit_2 : decode cL_limit 2 = .ok (.iload_n 2, 1) := by decide +kernel
theorem dL_limit_3 : decode cL_limit 3 = .ok (.invokevirtual 23, 3) := by decide +kernel
theorem dL_limit_6 : decode cL_limit 6 = .ok (.goto 9, 3) := by decide +kernel
theorem dL_limit_9 : decode cL_limit 9 = .ok (.astore_n 3, 1) := by decide +kernel
theorem dL_limit_10 : decode cL_limit 10 = .ok (.iconst 1, 1) := by decide +kernel
theorem dL_limit_11 : decode cL_limit 11 = .ok (.ireturn, 1) := by decide +kernel
theorem dL_limit_12 : decode cL_limit 12 = .ok (.astore_n 3, 1) := by decide +kernel
theorem dL_limit_13 : decode cL_limit 13 = .ok (.iconst 2, 1) := by decide +kernel
theorem dL_limit_14 : decode cL_limit 14 = .ok (.ireturn, 1) := by decide +kernel
theorem dL_limit_15 : decode cL_limit 15 = .ok (.iconst 0, 1) := by decide +kernel
theorem dL_limit_16 : decode cL_limit 16 = .ok (.ireturn, 1) := by decide +kernel
theorem dL_rank_0 : decode cL_rank 0 = .ok (.aload_n 3, 1) := by decide +kernel
theorem dL_rank_1 : decode cL_rank 1 = .ok (.iconst 0, 1) := by decide +kernel
theorem dL_rank_2 : decode cL_rank 2 = .ok (.aload_n 0, 1) := by decide +kernel
theorem dL_rank_3 : decode cL_rank 3 = .ok (.iload_n 1, 1) := by decide +kernel
theorem dL_rank_4 : decode cL_rank 4 = .ok (.iload_n 2, 1) := by decide +kernel
theorem dL_rank_5 : decode cL_rank 5 = .ok (.invokevirtual 27, 3) := by decide +kernel
theorem dL_rank_8 : decode cL_rank 8 = .ok (.i2l, 1) := by decide +kernel
theorem dL_rank_9 : decode cL_rank 9 = .ok (.lastore, 1) := by decide +kernel
theorem dL_rank_10 : decode cL_rank 10 = .ok (.goto 11, 3) := by decide +kernel
theorem dL_rank_13 : decode cL_rank 13 = .ok (.astore 4, 2) := by decide +kernel
theorem dL_rank_15 : decode cL_rank 15 = .ok (.iconst 1, 1) := by decide +kernel
theorem dL_rank_16 : decode cL_rank 16 = .ok (.ireturn, 1) := by decide +kernel
theorem dL_rank_17 : decode cL_rank 17 = .ok (.astore 4, 2) := by decide +kernel
theorem dL_rank_19 : decode cL_rank 19 = .ok (.iconst 2, 1) := by decide +kernel
theorem dL_rank_20 : decode cL_rank 20 = .ok (.ireturn, 1) := by decide +kernel
theorem dL_rank_21 : decode cL_rank 21 = .ok (.iconst 0, 1) := by decide +kernel
theorem dL_rank_22 : decode cL_rank 22 = .ok (.ireturn, 1) := by decide +kernel
theorem dL_share_0 : decode cL_share 0 = .ok (.aload_n 0, 1) := by decide +kernel
theorem dL_share_1 : decode cL_share 1 = .ok (.iload_n 1, 1) := by decide +kernel
theorem dL_share_2 : decode cL_share 2 = .ok (.invokevirtual 30, 3) := by decide +kernel
theorem dL_share_5 : decode cL_share 5 = .ok (.goto 6, 3) := by decide +kernel
theorem dL_share_8 : decode cL_share 8 = .ok (.astore_n 2, 1) := by decide +kernel
theorem dL_share_9 : decode cL_share 9 = .ok (.iconst 1, 1) := by decide +kernel
theorem dL_share_10 : decode cL_share 10 = .ok (.ireturn, 1) := by decide +kernel
theorem dL_share_11 : decode cL_share 11 = .ok (.iconst 0, 1) := by decide +kernel
theorem dL_share_12 : decode cL_share 12 = .ok (.ireturn, 1) := by decide +kernel
theorem dL_solve_0 : decode cL_solve 0 = .ok (.aload_n 2, 1) := by decide +kernel
theorem dL_solve_1 : decode cL_solve 1 = .ok (.iconst 0, 1) := by decide +kernel
theorem dL_solve_2 : decode cL_solve 2 = .ok (.aload_n 0, 1) := by decide +kernel
theorem dL_solve_3 : decode cL_solve 3 = .ok (.iload_n 1, 1) := by decide +kernel
theorem dL_solve_4 : decode cL_solve 4 = .ok (.invokevirtual 34, 3) := by decide +kernel
theorem dL_solve_7 : decode cL_solve 7 = .ok (.i2l, 1) := by decide +kernel
theorem dL_solve_8 : decode cL_solve 8 = .ok (.lastore, 1) := by decide +kernel
theorem dL_solve_9 : decode cL_solve 9 = .ok (.goto 6, 3) := by decide +kernel
theorem dL_solve_12 : decode cL_solve 12 = .ok (.astore_n 3, 1) := by decide +kernel
theorem dL_solve_13 : decode cL_solve 13 = .ok (.iconst 1, 1) := by decide +kernel
theorem dL_solve_14 : decode cL_solve 14 = .ok (.ireturn, 1) := by decide +kernel
theorem dL_solve_15 : decode cL_solve 15 = .ok (.iconst 0, 1) := by decide +kernel
theorem dL_solve_16 : decode cL_solve 16 = .ok (.ireturn, 1) := by decide +kernel
theorem dL_at_0 : decode cL_at 0 = .ok (.aload_n 3, 1) := by decide +kernel
theorem dL_at_1 : decode cL_at 1 = .ok (.iconst 0, 1) := by decide +kernel
theorem dL_at_2 : decode cL_at 2 = .ok (.aload_n 0, 1) := by decide +kernel
theorem dL_at_3 : decode cL_at 3 = .ok (.iload_n 1, 1) := by decide +kernel
theorem dL_at_4 : decode cL_at 4 = .ok (.iload_n 2, 1) := by decide +kernel
theorem dL_at_5 : decode cL_at 5 = .ok (.invokevirtual 38, 3) := by decide +kernel
theorem dL_at_8 : decode cL_at 8 = .ok (.i2l, 1) := by decide +kernel
theorem dL_at_9 : decode cL_at 9 = .ok (.lastore, 1) := by decide +kernel
theorem dL_at_10 : decode cL_at 10 = .ok (.goto 11, 3) := by decide +kernel
theorem dL_at_13 : decode cL_at 13 = .ok (.astore 4, 2) := by decide +kernel
theorem dL_at_15 : decode cL_at 15 = .ok (.iconst 1, 1) := by decide +kernel
theorem dL_at_16 : decode cL_at 16 = .ok (.ireturn, 1) := by decide +kernel
theorem dL_at_17 : decode cL_at 17 = .ok (.astore 4, 2) := by decide +kernel
theorem dL_at_19 : decode cL_at 19 = .ok (.iconst 2, 1) := by decide +kernel
theorem dL_at_20 : decode cL_at 20 = .ok (.ireturn, 1) := by decide +kernel
theorem dL_at_21 : decode cL_at 21 = .ok (.iconst 0, 1) := by decide +kernel
theorem dL_at_22 : decode cL_at 22 = .ok (.ireturn, 1) := by decide +kernel
theorem dL_over_0 : decode cL_over 0 = .ok (.aload_n 3, 1) := by decide +kernel
theorem dL_over_1 : decode cL_over 1 = .ok (.iconst 0, 1) := by decide +kernel
theorem dL_over_2 : decode cL_over 2 = .ok (.aload_n 0, 1) := by decide +kernel
theorem dL_over_3 : decode cL_over 3 = .ok (.iload_n 1, 1) := by decide +kernel
theorem dL_over_4 : decode cL_over 4 = .ok (.iload_n 2, 1) := by decide +kernel
theorem dL_over_5 : decode cL_over 5 = .ok (.invokevirtual 41, 3) := by decide +kernel
theorem dL_over_8 : decode cL_over 8 = .ok (.ifCond .eq 7, 3) := by decide +kernel
theorem dL_over_11 : decode cL_over 11 = .ok (.lconst 1, 1) := by decide +kernel
theorem dL_over_12 : decode cL_over 12 = .ok (.goto 4, 3) := by decide +kernel
theorem dL_over_15 : decode cL_over 15 = .ok (.lconst 0, 1) := by decide +kernel
theorem dL_over_16 : decode cL_over 16 = .ok (.lastore, 1) := by decide +kernel
theorem dL_over_17 : decode cL_over 17 = .ok (.goto 11, 3) := by decide +kernel
theorem dL_over_20 : decode cL_over 20 = .ok (.astore 4, 2) := by decide +kernel
theorem dL_over_22 : decode cL_over 22 = .ok (.iconst 1, 1) := by decide +kernel
theorem dL_over_23 : decode cL_over 23 = .ok (.ireturn, 1) := by decide +kernel
theorem dL_over_24 : decode cL_over 24 = .ok (.astore 4, 2) := by decide +kernel
theorem dL_over_26 : decode cL_over 26 = .ok (.iconst 2, 1) := by decide +kernel
theorem dL_over_27 : decode cL_over 27 = .ok (.ireturn, 1) := by decide +kernel
theorem dL_over_28 : decode cL_over 28 = .ok (.iconst 0, 1) := by decide +kernel
theorem dL_over_29 : decode cL_over 29 = .ok (.ireturn, 1) := by decide +kernel
theorem dL_support_0 : decode cL_support 0 = .ok (.aload_n 2, 1) := by decide +kernel
theorem dL_support_1 : decode cL_support 1 = .ok (.iconst 0, 1) := by decide +kernel
theorem dL_support_2 : decode cL_support 2 = .ok (.aload_n 0, 1) := by decide +kernel
theorem dL_support_3 : decode cL_support 3 = .ok (.iload_n 1, 1) := by decide +kernel
theorem dL_support_4 : decode cL_support 4 = .ok (.invokevirtual 47, 3) := by decide +kernel
theorem dL_support_7 : decode cL_support 7 = .ok (.i2l, 1) := by decide +kernel
theorem dL_support_8 : decode cL_support 8 = .ok (.lastore, 1) := by decide +kernel
theorem dL_support_9 : decode cL_support 9 = .ok (.goto 9, 3) := by decide +kernel
theorem dL_support_12 : decode cL_support 12 = .ok (.astore_n 3, 1) := by decide +kernel
theorem dL_support_13 : decode cL_support 13 = .ok (.iconst 1, 1) := by decide +kernel
theorem dL_support_14 : decode cL_support 14 = .ok (.ireturn, 1) := by decide +kernel
theorem dL_support_15 : decode cL_support 15 = .ok (.astore_n 3, 1) := by decide +kernel
theorem dL_support_16 : decode cL_support 16 = .ok (.iconst 2, 1) := by decide +kernel
theorem dL_support_17 : decode cL_support 17 = .ok (.ireturn, 1) := by decide +kernel
theorem dL_support_18 : decode cL_support 18 = .ok (.iconst 0, 1) := by decide +kernel
theorem dL_support_19 : decode cL_support 19 = .ok (.ireturn, 1) := by decide +kernel
theorem dL_bears_0 : decode cL_bears 0 = .ok (.aload_n 2, 1) := by decide +kernel
theorem dL_bears_1 : decode cL_bears 1 = .ok (.iconst 0, 1) := by decide +kernel
theorem dL_bears_2 : decode cL_bears 2 = .ok (.aload_n 0, 1) := by decide +kernel
theorem dL_bears_3 : decode cL_bears 3 = .ok (.iload_n 1, 1) := by decide +kernel
theorem dL_bears_4 : decode cL_bears 4 = .ok (.invokevirtual 52, 3) := by decide +kernel
theorem dL_bears_7 : decode cL_bears 7 = .ok (.i2l, 1) := by decide +kernel
theorem dL_bears_8 : decode cL_bears 8 = .ok (.lastore, 1) := by decide +kernel
theorem dL_bears_9 : decode cL_bears 9 = .ok (.goto 9, 3) := by decide +kernel
theorem dL_bears_12 : decode cL_bears 12 = .ok (.astore_n 3, 1) := by decide +kernel
theorem dL_bears_13 : decode cL_bears 13 = .ok (.iconst 1, 1) := by decide +kernel
theorem dL_bears_14 : decode cL_bears 14 = .ok (.ireturn, 1) := by decide +kernel
theorem dL_bears_15 : decode cL_bears 15 = .ok (.astore_n 3, 1) := by decide +kernel
theorem dL_bears_16 : decode cL_bears 16 = .ok (.iconst 2, 1) := by decide +kernel
theorem dL_bears_17 : decode cL_bears 17 = .ok (.ireturn, 1) := by decide +kernel
theorem dL_bears_18 : decode cL_bears 18 = .ok (.iconst 0, 1) := by decide +kernel
theorem dL_bears_19 : decode cL_bears 19 = .ok (.ireturn, 1) := by decide +kernel
theorem dL_cell__0 : decode cL_cell_ 0 = .ok (.aload 4, 2) := by decide +kernel
theorem dL_cell__2 : decode cL_cell_ 2 = .ok (.iconst 0, 1) := by decide +kernel
theorem dL_cell__3 : decode cL_cell_ 3 = .ok (.aload_n 0, 1) := by decide +kernel
theorem dL_cell__4 : decode cL_cell_ 4 = .ok (.iload_n 1, 1) := by decide +kernel
theorem dL_cell__5 : decode cL_cell_ 5 = .ok (.iload_n 2, 1) := by decide +kernel
theorem dL_cell__6 : decode cL_cell_ 6 = .ok (.iload_n 3, 1) := by decide +kernel
theorem dL_cell__7 : decode cL_cell_ 7 = .ok (.invokevirtual 55, 3) := by decide +kernel
theorem dL_cell__10 : decode cL_cell_ 10 = .ok (.i2l, 1) := by decide +kernel
theorem dL_cell__11 : decode cL_cell_ 11 = .ok (.lastore, 1) := by decide +kernel
theorem dL_cell__12 : decode cL_cell_ 12 = .ok (.goto 7, 3) := by decide +kernel
theorem dL_cell__15 : decode cL_cell_ 15 = .ok (.astore 5, 2) := by decide +kernel
theorem dL_cell__17 : decode cL_cell_ 17 = .ok (.iconst 1, 1) := by decide +kernel
theorem dL_cell__18 : decode cL_cell_ 18 = .ok (.ireturn, 1) := by decide +kernel
theorem dL_cell__19 : decode cL_cell_ 19 = .ok (.iconst 0, 1) := by decide +kernel
theorem dL_cell__20 : decode cL_cell_ 20 = .ok (.ireturn, 1) := by decide +kernel
theorem dL_close_0 : decode cL_close 0 = .ok (.aload_n 1, 1) := by decide +kernel
theorem dL_close_1 : decode cL_close 1 = .ok (.iconst 0, 1) := by decide +kernel
theorem dL_close_2 : decode cL_close 2 = .ok (.aload_n 0, 1) := by decide +kernel
theorem dL_close_3 : decode cL_close 3 = .ok (.invokevirtual 61, 3) := by decide +kernel
theorem dL_close_6 : decode cL_close 6 = .ok (.i2l, 1) := by decide +kernel
theorem dL_close_7 : decode cL_close 7 = .ok (.lastore, 1) := by decide +kernel
theorem dL_close_8 : decode cL_close 8 = .ok (.goto 6, 3) := by decide +kernel
theorem dL_close_11 : decode cL_close 11 = .ok (.astore_n 2, 1) := by decide +kernel
theorem dL_close_12 : decode cL_close 12 = .ok (.iconst 1, 1) := by decide +kernel
theorem dL_close_13 : decode cL_close 13 = .ok (.ireturn, 1) := by decide +kernel
theorem dL_close_14 : decode cL_close 14 = .ok (.iconst 0, 1) := by decide +kernel
theorem dL_close_15 : decode cL_close 15 = .ok (.ireturn, 1) := by decide +kernel
theorem dL_box_0 : decode cL_box 0 = .ok (.aload_n 2, 1) := by decide +kernel
theorem dL_box_1 : decode cL_box 1 = .ok (.iconst 0, 1) := by decide +kernel
theorem dL_box_2 : decode cL_box 2 = .ok (.aload_n 0, 1) := by decide +kernel
theorem dL_box_3 : decode cL_box 3 = .ok (.iload_n 1, 1) := by decide +kernel
theorem dL_box_4 : decode cL_box 4 = .ok (.invokevirtual 65, 3) := by decide +kernel
theorem dL_box_7 : decode cL_box 7 = .ok (.i2l, 1) := by decide +kernel
theorem dL_box_8 : decode cL_box 8 = .ok (.lastore, 1) := by decide +kernel
theorem dL_box_9 : decode cL_box 9 = .ok (.goto 6, 3) := by decide +kernel
theorem dL_box_12 : decode cL_box 12 = .ok (.astore_n 3, 1) := by decide +kernel
theorem dL_box_13 : decode cL_box 13 = .ok (.iconst 1, 1) := by decide +kernel
theorem dL_box_14 : decode cL_box 14 = .ok (.ireturn, 1) := by decide +kernel
theorem dL_box_15 : decode cL_box 15 = .ok (.iconst 0, 1) := by decide +kernel
theorem dL_box_16 : decode cL_box 16 = .ok (.ireturn, 1) := by decide +kernel
