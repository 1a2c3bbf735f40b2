theorem dX0_init_0 : decode cX0_init 0 = .ok (.aload_n 0, 1) := by decide +kernel
theorem dX0_init_1 : decode cX0_init 1 = .ok (.invokespecial 3, 3) := by decide +kernel
theorem dX0_init_4 : decode cX0_init 4 = .ok (.aload_n 0, 1) := by decide +kernel
theorem dX0_init_5 : decode cX0_init 5 = .ok (.iconst 1, 1) := by decide +kernel
theorem dX0_init_6 : decode cX0_init 6 = .ok (.putfield 9, 3) := by decide +kernel
theorem dX0_init_9 : decode cX0_init 9 = .ok (.aload_n 0, 1) := by decide +kernel
theorem dX0_init_10 : decode cX0_init 10 = .ok (.iconst (-1), 1) := by decide +kernel
theorem dX0_init_11 : decode cX0_init 11 = .ok (.putfield 15, 3) := by decide +kernel
theorem dX0_init_14 : decode cX0_init 14 = .ok (.aload_n 0, 1) := by decide +kernel
theorem dX0_init_15 : decode cX0_init 15 = .ok (.iconst (-1), 1) := by decide +kernel
theorem dX0_init_16 : decode cX0_init 16 = .ok (.putfield 18, 3) := by decide +kernel
theorem dX0_init_19 : decode cX0_init 19 = .ok (.return_, 1) := by decide +kernel
theorem dX0_become_0 : decode cX0_become 0 = .ok (.aload_n 0, 1) := by decide +kernel
theorem dX0_become_1 : decode cX0_become 1 = .ok (.iload_n 1, 1) := by decide +kernel
theorem dX0_become_2 : decode cX0_become 2 = .ok (.putfield 21, 3) := by decide +kernel
theorem dX0_become_5 : decode cX0_become 5 = .ok (.aload_n 0, 1) := by decide +kernel
theorem dX0_become_6 : decode cX0_become 6 = .ok (.iload_n 2, 1) := by decide +kernel
theorem dX0_become_7 : decode cX0_become 7 = .ok (.putfield 24, 3) := by decide +kernel
theorem dX0_become_10 : decode cX0_become 10 = .ok (.aload_n 0, 1) := by decide +kernel
theorem dX0_become_11 : decode cX0_become 11 = .ok (.iload_n 3, 1) := by decide +kernel
theorem dX0_become_12 : decode cX0_become 12 = .ok (.putfield 27, 3) := by decide +kernel
theorem dX0_become_15 : decode cX0_become 15 = .ok (.aload_n 0, 1) := by decide +kernel
theorem dX0_become_16 : decode cX0_become 16 = .ok (.iload 4, 2) := by decide +kernel
theorem dX0_become_18 : decode cX0_become 18 = .ok (.putfield 30, 3) := by decide +kernel
theorem dX0_become_21 : decode cX0_become 21 = .ok (.return_, 1) := by decide +kernel
theorem dX0_isPacked_0 : decode cX0_isPacked 0 = .ok (.aload_n 0, 1) := by decide +kernel
theorem dX0_isPacked_1 : decode cX0_isPacked 1 = .ok (.getfield 18, 3) := by decide +kernel
theorem dX0_isPacked_4 : decode cX0_isPacked 4 = .ok (.iconst (-1), 1) := by decide +kernel
theorem dX0_isPacked_5 : decode cX0_isPacked 5 = .ok (.if_icmp .eq 7, 3) := by decide +kernel
theorem dX0_isPacked_8 : decode cX0_isPacked 8 = .ok (.iconst 1, 1) := by decide +kernel
theorem dX0_isPacked_9 : decode cX0_isPacked 9 = .ok (.goto 4, 3) := by decide +kernel
theorem dX0_isPacked_12 : decode cX0_isPacked 12 = .ok (.iconst 0, 1) := by decide +kernel
theorem dX0_isPacked_13 : decode cX0_isPacked 13 = .ok (.ireturn, 1) := by decide +kernel
theorem dX0_volume_0 : decode cX0_volume 0 = .ok (.aload_n 0, 1) := by decide +kernel
theorem dX0_volume_1 : decode cX0_volume 1 = .ok (.getfield 21, 3) := by decide +kernel
theorem dX0_volume_4 : decode cX0_volume 4 = .ok (.aload_n 0, 1) := by decide +kernel
theorem dX0_volume_5 : decode cX0_volume 5 = .ok (.getfield 24, 3) := by decide +kernel
theorem dX0_volume_8 : decode cX0_volume 8 = .ok (.imul, 1) := by decide +kernel
theorem dX0_volume_9 : decode cX0_volume 9 = .ok (.aload_n 0, 1) := by decide +kernel
theorem dX0_volume_10 : decode cX0_volume 10 = .ok (.getfield 27, 3) := by decide +kernel
theorem dX0_volume_13 : decode cX0_volume 13 = .ok (.imul, 1) := by decide +kernel
theorem dX0_volume_14 : decode cX0_volume 14 = .ok (.ireturn, 1) := by decide +kernel
theorem dX0_lets_0 : decode cX0_lets 0 = .ok (.aload_n 0, 1) := by decide +kernel
theorem dX0_lets_1 : decode cX0_lets 1 = .ok (.getfield 9, 3) := by decide +kernel
theorem dX0_lets_4 : decode cX0_lets 4 = .ok (.iload_n 1, 1) := by decide +kernel
theorem dX0_lets_5 : decode cX0_lets 5 = .ok (.invokestatic 33, 3) := by decide +kernel
theorem dX0_lets_8 : decode cX0_lets 8 = .ok (.ireturn, 1) := by decide +kernel
theorem dX0_wayCount_0 : decode cX0_wayCount 0 = .ok (.aload_n 0, 1) := by decide +kernel
theorem dX0_wayCount_1 : decode cX0_wayCount 1 = .ok (.getfield 9, 3) := by decide +kernel
theorem dX0_wayCount_4 : decode cX0_wayCount 4 = .ok (.invokestatic 37, 3) := by decide +kernel
theorem dX0_wayCount_7 : decode cX0_wayCount 7 = .ok (.ireturn, 1) := by decide +kernel
theorem dX0_mark_0 : decode cX0_mark 0 = .ok (.aload_n 0, 1) := by decide +kernel
theorem dX0_mark_1 : decode cX0_mark 1 = .ok (.iconst 0, 1) := by decide +kernel
theorem dX0_mark_2 : decode cX0_mark 2 = .ok (.putfield 9, 3) := by decide +kernel
theorem dX0_mark_5 : decode cX0_mark 5 = .ok (.iconst 0, 1) := by decide +kernel
theorem dX0_mark_6 : decode cX0_mark 6 = .ok (.istore_n 2, 1) := by decide +kernel
theorem dX0_mark_7 : decode cX0_mark 7 = .ok (.iload_n 2, 1) := by decide +kernel
theorem dX0_mark_8 : decode cX0_mark 8 = .ok (.bipush 6, 2) := by decide +kernel
theorem dX0_mark_10 : decode cX0_mark 10 = .ok (.if_icmp .ge 41, 3) := by decide +kernel
theorem dX0_mark_13 : decode cX0_mark 13 = .ok (.iload_n 2, 1) := by decide +kernel
theorem dX0_mark_14 : decode cX0_mark 14 = .ok (.invokestatic 43, 3) := by decide +kernel
theorem dX0_mark_17 : decode cX0_mark 17 = .ok (.istore_n 3, 1) := by decide +kernel
theorem dX0_mark_18 : decode cX0_mark 18 = .ok (.iload_n 1, 1) := by decide +kernel
theorem dX0_mark_19 : decode cX0_mark 19 = .ok (.iload_n 3, 1) := by decide +kernel
theorem dX0_mark_20 : decode cX0_mark 20 = .ok (.iand, 1) := by decide +kernel
theorem dX0_mark_21 : decode cX0_mark 21 = .ok (.iload_n 3, 1) := by decide +kernel
theorem dX0_mark_22 : decode cX0_mark 22 = .ok (.if_icmp .ne 23, 3) := by decide +kernel
theorem dX0_mark_25 : decode cX0_mark 25 = .ok (.aload_n 0, 1) := by decide +kernel
theorem dX0_mark_26 : decode cX0_mark 26 = .ok (.iload_n 2, 1) := by decide +kernel
theorem dX0_mark_27 : decode cX0_mark 27 = .ok (.invokevirtual 46, 3) := by decide +kernel
theorem dX0_mark_30 : decode cX0_mark 30 = .ok (.ifCond .ne 15, 3) := by decide +kernel
theorem dX0_mark_33 : decode cX0_mark 33 = .ok (.aload_n 0, 1) := by decide +kernel
theorem dX0_mark_34 : decode cX0_mark 34 = .ok (.dup, 1) := by decide +kernel
theorem dX0_mark_35 : decode cX0_mark 35 = .ok (.getfield 9, 3) := by decide +kernel
theorem dX0_mark_38 : decode cX0_mark 38 = .ok (.iconst 1, 1) := by decide +kernel
theorem dX0_mark_39 : decode cX0_mark 39 = .ok (.iload_n 2, 1) := by decide +kernel
theorem dX0_mark_40 : decode cX0_mark 40 = .ok (.ishl, 1) := by decide +kernel
theorem dX0_mark_41 : decode cX0_mark 41 = .ok (.ior, 1) := by decide +kernel
theorem dX0_mark_42 : decode cX0_mark 42 = .ok (.putfield 9, 3) := by decide +kernel
theorem dX0_mark_45 : decode cX0_mark 45 = .ok (.iinc 2 1, 3) := by decide +kernel
theorem dX0_mark_48 : decode cX0_mark 48 = .ok (.goto (-41), 3) := by decide +kernel
theorem dX0_mark_51 : decode cX0_mark 51 = .ok (.return_, 1) := by decide +kernel
theorem dX0_isLikeOneLet_0 : decode cX0_isLikeOneLet 0 = .ok (.iconst 0, 1) := by decide +kernel
theorem dX0_isLikeOneLet_1 : decode cX0_isLikeOneLet 1 = .ok (.istore_n 2, 1) := by decide +kernel
theorem dX0_isLikeOneLet_2 : decode cX0_isLikeOneLet 2 = .ok (.iload_n 2, 1) := by decide +kernel
theorem dX0_isLikeOneLet_3 : decode cX0_isLikeOneLet 3 = .ok (.iload_n 1, 1) := by decide +kernel
theorem dX0_isLikeOneLet_4 : decode cX0_isLikeOneLet 4 = .ok (.if_icmp .ge 58, 3) := by decide +kernel
theorem dX0_isLikeOneLet_7 : decode cX0_isLikeOneLet 7 = .ok (.aload_n 0, 1) := by decide +kernel
theorem dX0_isLikeOneLet_8 : decode cX0_isLikeOneLet 8 = .ok (.iload_n 2, 1) := by decide +kernel
theorem dX0_isLikeOneLet_9 : decode cX0_isLikeOneLet 9 = .ok (.invokevirtual 50, 3) := by decide +kernel
theorem dX0_isLikeOneLet_12 : decode cX0_isLikeOneLet 12 = .ok (.ifCond .eq 44, 3) := by decide +kernel
theorem dX0_isLikeOneLet_15 : decode cX0_isLikeOneLet 15 = .ok (.aload_n 0, 1) := by decide +kernel
theorem dX0_isLikeOneLet_16 : decode cX0_isLikeOneLet 16 = .ok (.iload_n 2, 1) := by decide +kernel
theorem dX0_isLikeOneLet_17 : decode cX0_isLikeOneLet 17 = .ok (.invokevirtual 53, 3) := by decide +kernel
theorem dX0_isLikeOneLet_20 : decode cX0_isLikeOneLet 20 = .ok (.aload_n 0, 1) := by decide +kernel
theorem dX0_isLikeOneLet_21 : decode cX0_isLikeOneLet 21 = .ok (.iload_n 1, 1) := by decide +kernel
theorem dX0_isLikeOneLet_22 : decode cX0_isLikeOneLet 22 = .ok (.invokevirtual 53, 3) := by decide +kernel
theorem dX0_isLikeOneLet_25 : decode cX0_isLikeOneLet 25 = .ok (.if_icmp .ne 31, 3) := by decide +kernel
theorem dX0_isLikeOneLet_28 : decode cX0_isLikeOneLet 28 = .ok (.aload_n 0, 1) := by decide +kernel
theorem dX0_isLikeOneLet_29 : decode cX0_isLikeOneLet 29 = .ok (.iload_n 2, 1) := by decide +kernel
theorem dX0_isLikeOneLet_30 : decode cX0_isLikeOneLet 30 = .ok (.invokevirtual 56, 3) := by decide +kernel
theorem dX0_isLikeOneLet_33 : decode cX0_isLikeOneLet 33 = .ok (.aload_n 0, 1) := by decide +kernel
theorem dX0_isLikeOneLet_34 : decode cX0_isLikeOneLet 34 = .ok (.iload_n 1, 1) := by decide +kernel
theorem dX0_isLikeOneLet_35 : decode cX0_isLikeOneLet 35 = .ok (.invokevirtual 56, 3) := by decide +kernel
theorem dX0_isLikeOneLet_38 : decode cX0_isLikeOneLet 38 = .ok (.if_icmp .ne 18, 3) := by decide +kernel
theorem dX0_isLikeOneLet_41 : decode cX0_isLikeOneLet 41 = .ok (.aload_n 0, 1) := by decide +kernel
theorem dX0_isLikeOneLet_42 : decode cX0_isLikeOneLet 42 = .ok (.iload_n 2, 1) := by decide +kernel
theorem dX0_isLikeOneLet_43 : decode cX0_isLikeOneLet 43 = .ok (.invokevirtual 59, 3) := by decide +kernel
theorem dX0_isLikeOneLet_46 : decode cX0_isLikeOneLet 46 = .ok (.aload_n 0, 1) := by decide +kernel
theorem dX0_isLikeOneLet_47 : decode cX0_isLikeOneLet 47 = .ok (.iload_n 1, 1) := by decide +kernel
theorem dX0_isLikeOneLet_48 : decode cX0_isLikeOneLet 48 = .ok (.invokevirtual 59, 3) := by decide +kernel
theorem dX0_isLikeOneLet_51 : decode cX0_isLikeOneLet 51 = .ok (.if_icmp .ne 5, 3) := by decide +kernel
theorem dX0_isLikeOneLet_54 : decode cX0_isLikeOneLet 54 = .ok (.iconst 1, 1) := by decide +kernel
theorem dX0_isLikeOneLet_55 : decode cX0_isLikeOneLet 55 = .ok (.ireturn, 1) := by decide +kernel
theorem dX0_isLikeOneLet_56 : decode cX0_isLikeOneLet 56 = .ok (.iinc 2 1, 3) := by decide +kernel
theorem dX0_isLikeOneLet_59 : decode cX0_isLikeOneLet 59 = .ok (.goto (-57), 3) := by decide +kernel
theorem dX0_isLikeOneLet_62 : decode cX0_isLikeOneLet 62 = .ok (.iconst 0, 1) := by decide +kernel
theorem dX0_isLikeOneLet_63 : decode cX0_isLikeOneLet 63 = .ok (.ireturn, 1) := by decide +kernel
theorem dX0_marksFor_0 : decode cX0_marksFor 0 = .ok (.iload_n 0, 1) := by decide +kernel
theorem dX0_marksFor_1 : decode cX0_marksFor 1 = .ok (.tableswitch 41 0 4 #[35, 37, 39, 41, 39], 35) := by decide +kernel
theorem dX0_marksFor_36 : decode cX0_marksFor 36 = .ok (.iconst 0, 1) := by decide +kernel
theorem dX0_marksFor_37 : decode cX0_marksFor 37 = .ok (.ireturn, 1) := by decide +kernel
theorem dX0_marksFor_38 : decode cX0_marksFor 38 = .ok (.iconst 1, 1) := by decide +kernel
theorem dX0_marksFor_39 : decode cX0_marksFor 39 = .ok (.ireturn, 1) := by decide +kernel
theorem dX0_marksFor_40 : decode cX0_marksFor 40 = .ok (.iconst 2, 1) := by decide +kernel
theorem dX0_marksFor_41 : decode cX0_marksFor 41 = .ok (.ireturn, 1) := by decide +kernel
theorem dX0_marksFor_42 : decode cX0_marksFor 42 = .ok (.iconst 3, 1) := by decide +kernel
theorem dX0_marksFor_43 : decode cX0_marksFor 43 = .ok (.ireturn, 1) := by decide +kernel
theorem dX0_widthIn_0 : decode cX0_widthIn 0 = .ok (.iload_n 1, 1) := by decide +kernel
theorem dX0_widthIn_1 : decode cX0_widthIn 1 = .ok (.tableswitch 45 0 4 #[35, 40, 35, 45, 40], 35) := by decide +kernel
theorem dX0_widthIn_36 : decode cX0_widthIn 36 = .ok (.aload_n 0, 1) := by decide +kernel
theorem dX0_widthIn_37 : decode cX0_widthIn 37 = .ok (.getfield 21, 3) := by decide +kernel
theorem dX0_widthIn_40 : decode cX0_widthIn 40 = .ok (.ireturn, 1) := by decide +kernel
theorem dX0_widthIn_41 : decode cX0_widthIn 41 = .ok (.aload_n 0, 1) := by decide +kernel
theorem dX0_widthIn_42 : decode cX0_widthIn 42 = .ok (.getfield 24, 3) := by decide +kernel
theorem dX0_widthIn_45 : decode cX0_widthIn 45 = .ok (.ireturn, 1) := by decide +kernel
theorem dX0_widthIn_46 : decode cX0_widthIn 46 = .ok (.aload_n 0, 1) := by decide +kernel
theorem dX0_widthIn_47 : decode cX0_widthIn 47 = .ok (.getfield 27, 3) := by decide +kernel
theorem dX0_widthIn_50 : decode cX0_widthIn 50 = .ok (.ireturn, 1) := by decide +kernel
theorem dX0_depthIn_0 : decode cX0_depthIn 0 = .ok (.iload_n 1, 1) := by decide +kernel
theorem dX0_depthIn_1 : decode cX0_depthIn 1 = .ok (.tableswitch 49 0 5 #[44, 39, 49, 39, 49, 44], 39) := by decide +kernel
theorem dX0_depthIn_40 : decode cX0_depthIn 40 = .ok (.aload_n 0, 1) := by decide +kernel
theorem dX0_depthIn_41 : decode cX0_depthIn 41 = .ok (.getfield 21, 3) := by decide +kernel
theorem dX0_depthIn_44 : decode cX0_depthIn 44 = .ok (.ireturn, 1) := by decide +kernel
theorem dX0_depthIn_45 : decode cX0_depthIn 45 = .ok (.aload_n 0, 1) := by decide +kernel
theorem dX0_depthIn_46 : decode cX0_depthIn 46 = .ok (.getfield 24, 3) := by decide +kernel
theorem dX0_depthIn_49 : decode cX0_depthIn 49 = .ok (.ireturn, 1) := by decide +kernel
theorem dX0_depthIn_50 : decode cX0_depthIn 50 = .ok (.aload_n 0, 1) := by decide +kernel
theorem dX0_depthIn_51 : decode cX0_depthIn 51 = .ok (.getfield 27, 3) := by decide +kernel
theorem dX0_depthIn_54 : decode cX0_depthIn 54 = .ok (.ireturn, 1) := by decide +kernel
theorem dX0_heightIn_0 : decode cX0_heightIn 0 = .ok (.iload_n 1, 1) := by decide +kernel
theorem dX0_heightIn_1 : decode cX0_heightIn 1 = .ok (.tableswitch 41 2 5 #[36, 36, 31, 31], 31) := by decide +kernel
theorem dX0_heightIn_32 : decode cX0_heightIn 32 = .ok (.aload_n 0, 1) := by decide +kernel
theorem dX0_heightIn_33 : decode cX0_heightIn 33 = .ok (.getfield 21, 3) := by decide +kernel
theorem dX0_heightIn_36 : decode cX0_heightIn 36 = .ok (.ireturn, 1) := by decide +kernel
theorem dX0_heightIn_37 : decode cX0_heightIn 37 = .ok (.aload_n 0, 1) := by decide +kernel
theorem dX0_heightIn_38 : decode cX0_heightIn 38 = .ok (.getfield 24, 3) := by decide +kernel
theorem dX0_heightIn_41 : decode cX0_heightIn 41 = .ok (.ireturn, 1) := by decide +kernel
theorem dX0_heightIn_42 : decode cX0_heightIn 42 = .ok (.aload_n 0, 1) := by decide +kernel
theorem dX0_heightIn_43 : decode cX0_heightIn 43 = .ok (.getfield 27, 3) := by decide +kernel
theorem dX0_heightIn_46 : decode cX0_heightIn 46 = .ok (.ireturn, 1) := by decide +kernel
theorem dX2_init_0 : decode cX2_init 0 = .ok (.aload_n 0, 1) := by decide +kernel
theorem dX2_init_1 : decode cX2_init 1 = .ok (.invokespecial 3, 3) := by decide +kernel
theorem dX2_init_4 : decode cX2_init 4 = .ok (.return_, 1) := by decide +kernel
theorem dX2_stand_0 : decode cX2_stand 0 = .ok (.aload_n 0, 1) := by decide +kernel
theorem dX2_stand_1 : decode cX2_stand 1 = .ok (.iconst 1, 1) := by decide +kernel
theorem dX2_stand_2 : decode cX2_stand 2 = .ok (.putfield 9, 3) := by decide +kernel
theorem dX2_stand_5 : decode cX2_stand 5 = .ok (.aload_n 0, 1) := by decide +kernel
theorem dX2_stand_6 : decode cX2_stand 6 = .ok (.iload_n 3, 1) := by decide +kernel
theorem dX2_stand_7 : decode cX2_stand 7 = .ok (.putfield 15, 3) := by decide +kernel
theorem dX2_stand_10 : decode cX2_stand 10 = .ok (.aload_n 0, 1) := by decide +kernel
theorem dX2_stand_11 : decode cX2_stand 11 = .ok (.iload 4, 2) := by decide +kernel
theorem dX2_stand_13 : decode cX2_stand 13 = .ok (.putfield 19, 3) := by decide +kernel
theorem dX2_stand_16 : decode cX2_stand 16 = .ok (.aload_n 0, 1) := by decide +kernel
theorem dX2_stand_17 : decode cX2_stand 17 = .ok (.iload 5, 2) := by decide +kernel
theorem dX2_stand_19 : decode cX2_stand 19 = .ok (.putfield 22, 3) := by decide +kernel
theorem dX2_stand_22 : decode cX2_stand 22 = .ok (.aload_n 0, 1) := by decide +kernel
theorem dX2_stand_23 : decode cX2_stand 23 = .ok (.aload_n 1, 1) := by decide +kernel
theorem dX2_stand_24 : decode cX2_stand 24 = .ok (.iload_n 2, 1) := by decide +kernel
theorem dX2_stand_25 : decode cX2_stand 25 = .ok (.invokevirtual 25, 3) := by decide +kernel
theorem dX2_stand_28 : decode cX2_stand 28 = .ok (.putfield 31, 3) := by decide +kernel
theorem dX2_stand_31 : decode cX2_stand 31 = .ok (.aload_n 0, 1) := by decide +kernel
theorem dX2_stand_32 : decode cX2_stand 32 = .ok (.aload_n 1, 1) := by decide +kernel
theorem dX2_stand_33 : decode cX2_stand 33 = .ok (.iload_n 2, 1) := by decide +kernel
theorem dX2_stand_34 : decode cX2_stand 34 = .ok (.invokevirtual 34, 3) := by decide +kernel
theorem dX2_stand_37 : decode cX2_stand 37 = .ok (.putfield 37, 3) := by decide +kernel
theorem dX2_stand_40 : decode cX2_stand 40 = .ok (.aload_n 0, 1) := by decide +kernel
theorem dX2_stand_41 : decode cX2_stand 41 = .ok (.aload_n 1, 1) := by decide +kernel
theorem dX2_stand_42 : decode cX2_stand 42 = .ok (.iload_n 2, 1) := by decide +kernel
theorem dX2_stand_43 : decode cX2_stand 43 = .ok (.invokevirtual 40, 3) := by decide +kernel
theorem dX2_stand_46 : decode cX2_stand 46 = .ok (.putfield 43, 3) := by decide +kernel
theorem dX2_stand_49 : decode cX2_stand 49 = .ok (.aload_n 0, 1) := by decide +kernel
theorem dX2_stand_50 : decode cX2_stand 50 = .ok (.iload_n 2, 1) := by decide +kernel
theorem dX2_stand_51 : decode cX2_stand 51 = .ok (.putfield 46, 3) := by decide +kernel
theorem dX2_stand_54 : decode cX2_stand 54 = .ok (.aload_n 0, 1) := by decide +kernel
theorem dX2_stand_55 : decode cX2_stand 55 = .ok (.aload_n 1, 1) := by decide +kernel
theorem dX2_stand_56 : decode cX2_stand 56 = .ok (.getfield 49, 3) := by decide +kernel
theorem dX2_stand_59 : decode cX2_stand 59 = .ok (.putfield 52, 3) := by decide +kernel
theorem dX2_stand_62 : decode cX2_stand 62 = .ok (.aload_n 0, 1) := by decide +kernel
theorem dX2_stand_63 : decode cX2_stand 63 = .ok (.aload_n 1, 1) := by decide +kernel
theorem dX2_stand_64 : decode cX2_stand 64 = .ok (.getfield 53, 3) := by decide +kernel
theorem dX2_stand_67 : decode cX2_stand 67 = .ok (.putfield 56, 3) := by decide +kernel
theorem dX2_stand_70 : decode cX2_stand 70 = .ok (.return_, 1) := by decide +kernel
theorem dX2_leave_0 : decode cX2_leave 0 = .ok (.aload_n 0, 1) := by decide +kernel
theorem dX2_leave_1 : decode cX2_leave 1 = .ok (.iconst 0, 1) := by decide +kernel
theorem dX2_leave_2 : decode cX2_leave 2 = .ok (.putfield 9, 3) := by decide +kernel
theorem dX2_leave_5 : decode cX2_leave 5 = .ok (.return_, 1) := by decide +kernel
theorem dX2_copyFrom_0 : decode cX2_copyFrom 0 = .ok (.aload_n 0, 1) := by decide +kernel
theorem dX2_copyFrom_1 : decode cX2_copyFrom 1 = .ok (.aload_n 1, 1) := by decide +kernel
theorem dX2_copyFrom_2 : decode cX2_copyFrom 2 = .ok (.getfield 9, 3) := by decide +kernel
theorem dX2_copyFrom_5 : decode cX2_copyFrom 5 = .ok (.putfield 9, 3) := by decide +kernel
theorem dX2_copyFrom_8 : decode cX2_copyFrom 8 = .ok (.aload_n 0, 1) := by decide +kernel
theorem dX2_copyFrom_9 : decode cX2_copyFrom 9 = .ok (.aload_n 1, 1) := by decide +kernel
theorem dX2_copyFrom_10 : decode cX2_copyFrom 10 = .ok (.getfield 15, 3) := by decide +kernel
theorem dX2_copyFrom_13 : decode cX2_copyFrom 13 = .ok (.putfield 15, 3) := by decide +kernel
theorem dX2_copyFrom_16 : decode cX2_copyFrom 16 = .ok (.aload_n 0, 1) := by decide +kernel
theorem dX2_copyFrom_17 : decode cX2_copyFrom 17 = .ok (.aload_n 1, 1) := by decide +kernel
theorem dX2_copyFrom_18 : decode cX2_copyFrom 18 = .ok (.getfield 19, 3) := by decide +kernel
theorem dX2_copyFrom_21 : decode cX2_copyFrom 21 = .ok (.putfield 19, 3) := by decide +kernel
theorem dX2_copyFrom_24 : decode cX2_copyFrom 24 = .ok (.aload_n 0, 1) := by decide +kernel
theorem dX2_copyFrom_25 : decode cX2_copyFrom 25 = .ok (.aload_n 1, 1) := by decide +kernel
theorem dX2_copyFrom_26 : decode cX2_copyFrom 26 = .ok (.getfield 22, 3) := by decide +kernel
theorem dX2_copyFrom_29 : decode cX2_copyFrom 29 = .ok (.putfield 22, 3) := by decide +kernel
theorem dX2_copyFrom_32 : decode cX2_copyFrom 32 = .ok (.aload_n 0, 1) := by decide +kernel
theorem dX2_copyFrom_33 : decode cX2_copyFrom 33 = .ok (.aload_n 1, 1) := by decide +kernel
theorem dX2_copyFrom_34 : decode cX2_copyFrom 34 = .ok (.getfield 31, 3) := by decide +kernel
theorem dX2_copyFrom_37 : decode cX2_copyFrom 37 = .ok (.putfield 31, 3) := by decide +kernel
theorem dX2_copyFrom_40 : decode cX2_copyFrom 40 = .ok (.aload_n 0, 1) := by decide +kernel
theorem dX2_copyFrom_41 : decode cX2_copyFrom 41 = .ok (.aload_n 1, 1) := by decide +kernel
theorem dX2_copyFrom_42 : decode cX2_copyFrom 42 = .ok (.getfield 37, 3) := by decide +kernel
theorem dX2_copyFrom_45 : decode cX2_copyFrom 45 = .ok (.putfield 37, 3) := by decide +kernel
theorem dX2_copyFrom_48 : decode cX2_copyFrom 48 = .ok (.aload_n 0, 1) := by decide +kernel
theorem dX2_copyFrom_49 : decode cX2_copyFrom 49 = .ok (.aload_n 1, 1) := by decide +kernel
theorem dX2_copyFrom_50 : decode cX2_copyFrom 50 = .ok (.getfield 43, 3) := by decide +kernel
theorem dX2_copyFrom_53 : decode cX2_copyFrom 53 = .ok (.putfield 43, 3) := by decide +kernel
theorem dX2_copyFrom_56 : decode cX2_copyFrom 56 = .ok (.aload_n 0, 1) := by decide +kernel
theorem dX2_copyFrom_57 : decode cX2_copyFrom 57 = .ok (.aload_n 1, 1) := by decide +kernel
theorem dX2_copyFrom_58 : decode cX2_copyFrom 58 = .ok (.getfield 46, 3) := by decide +kernel
theorem dX2_copyFrom_61 : decode cX2_copyFrom 61 = .ok (.putfield 46, 3) := by decide +kernel
theorem dX2_copyFrom_64 : decode cX2_copyFrom 64 = .ok (.aload_n 0, 1) := by decide +kernel
theorem dX2_copyFrom_65 : decode cX2_copyFrom 65 = .ok (.aload_n 1, 1) := by decide +kernel
theorem dX2_copyFrom_66 : decode cX2_copyFrom 66 = .ok (.getfield 52, 3) := by decide +kernel
theorem dX2_copyFrom_69 : decode cX2_copyFrom 69 = .ok (.putfield 52, 3) := by decide +kernel
theorem dX2_copyFrom_72 : decode cX2_copyFrom 72 = .ok (.aload_n 0, 1) := by decide +kernel
theorem dX2_copyFrom_73 : decode cX2_copyFrom 73 = .ok (.aload_n 1, 1) := by decide +kernel
theorem dX2_copyFrom_74 : decode cX2_copyFrom 74 = .ok (.getfield 56, 3) := by decide +kernel
theorem dX2_copyFrom_77 : decode cX2_copyFrom 77 = .ok (.putfield 56, 3) := by decide +kernel
theorem dX2_copyFrom_80 : decode cX2_copyFrom 80 = .ok (.return_, 1) := by decide +kernel
theorem dX2_detail_0 : decode cX2_detail 0 = .ok (.iload_n 1, 1) := by decide +kernel
theorem dX2_detail_1 : decode cX2_detail 1 = .ok (.tableswitch 69 0 5 #[39, 44, 49, 54, 59, 64], 39) := by decide +kernel
theorem dX2_detail_40 : decode cX2_detail 40 = .ok (.aload_n 0, 1) := by decide +kernel
theorem dX2_detail_41 : decode cX2_detail 41 = .ok (.getfield 15, 3) := by decide +kernel
theorem dX2_detail_44 : decode cX2_detail 44 = .ok (.ireturn, 1) := by decide +kernel
theorem dX2_detail_45 : decode cX2_detail 45 = .ok (.aload_n 0, 1) := by decide +kernel
theorem dX2_detail_46 : decode cX2_detail 46 = .ok (.getfield 19, 3) := by decide +kernel
theorem dX2_detail_49 : decode cX2_detail 49 = .ok (.ireturn, 1) := by decide +kernel
theorem dX2_detail_50 : decode cX2_detail 50 = .ok (.aload_n 0, 1) := by decide +kernel
theorem dX2_detail_51 : decode cX2_detail 51 = .ok (.getfield 22, 3) := by decide +kernel
theorem dX2_detail_54 : decode cX2_detail 54 = .ok (.ireturn, 1) := by decide +kernel
theorem dX2_detail_55 : decode cX2_detail 55 = .ok (.aload_n 0, 1) := by decide +kernel
theorem dX2_detail_56 : decode cX2_detail 56 = .ok (.getfield 31, 3) := by decide +kernel
theorem dX2_detail_59 : decode cX2_detail 59 = .ok (.ireturn, 1) := by decide +kernel
theorem dX2_detail_60 : decode cX2_detail 60 = .ok (.aload_n 0, 1) := by decide +kernel
theorem dX2_detail_61 : decode cX2_detail 61 = .ok (.getfield 37, 3) := by decide +kernel
theorem dX2_detail_64 : decode cX2_detail 64 = .ok (.ireturn, 1) := by decide +kernel
theorem dX2_detail_65 : decode cX2_detail 65 = .ok (.aload_n 0, 1) := by decide +kernel
theorem dX2_detail_66 : decode cX2_detail 66 = .ok (.getfield 43, 3) := by decide +kernel
theorem dX2_detail_69 : decode cX2_detail 69 = .ok (.ireturn, 1) := by decide +kernel
theorem dX2_detail_70 : decode cX2_detail 70 = .ok (.aload_n 0, 1) := by decide +kernel
theorem dX2_detail_71 : decode cX2_detail 71 = .ok (.getfield 46, 3) := by decide +kernel
theorem dX2_detail_74 : decode cX2_detail 74 = .ok (.ireturn, 1) := by decide +kernel
theorem dX2_endAlong_0 : decode cX2_endAlong 0 = .ok (.iload_n 1, 1) := by decide +kernel
theorem dX2_endAlong_1 : decode cX2_endAlong 1 = .ok (.lookupswitch 47 #[(0, 27), (1, 37)], 27) := by decide +kernel
theorem dX2_endAlong_28 : decode cX2_endAlong 28 = .ok (.aload_n 0, 1) := by decide +kernel
theorem dX2_endAlong_29 : decode cX2_endAlong 29 = .ok (.getfield 15, 3) := by decide +kernel
theorem dX2_endAlong_32 : decode cX2_endAlong 32 = .ok (.aload_n 0, 1) := by decide +kernel
theorem dX2_endAlong_33 : decode cX2_endAlong 33 = .ok (.getfield 31, 3) := by decide +kernel
theorem dX2_endAlong_36 : decode cX2_endAlong 36 = .ok (.iadd, 1) := by decide +kernel
theorem dX2_endAlong_37 : decode cX2_endAlong 37 = .ok (.ireturn, 1) := by decide +kernel
theorem dX2_endAlong_38 : decode cX2_endAlong 38 = .ok (.aload_n 0, 1) := by decide +kernel
theorem dX2_endAlong_39 : decode cX2_endAlong 39 = .ok (.getfield 19, 3) := by decide +kernel
theorem dX2_endAlong_42 : decode cX2_endAlong 42 = .ok (.aload_n 0, 1) := by decide +kernel
theorem dX2_endAlong_43 : decode cX2_endAlong 43 = .ok (.getfield 37, 3) := by decide +kernel
theorem dX2_endAlong_46 : decode cX2_endAlong 46 = .ok (.iadd, 1) := by decide +kernel
theorem dX2_endAlong_47 : decode cX2_endAlong 47 = .ok (.ireturn, 1) := by decide +kernel
theorem dX2_endAlong_48 : decode cX2_endAlong 48 = .ok (.aload_n 0, 1) := by decide +kernel
theorem dX2_endAlong_49 : decode cX2_endAlong 49 = .ok (.getfield 22, 3) := by decide +kernel
theorem dX2_endAlong_52 : decode cX2_endAlong 52 = .ok (.aload_n 0, 1) := by decide +kernel
theorem dX2_endAlong_53 : decode cX2_endAlong 53 = .ok (.getfield 43, 3) := by decide +kernel
theorem dX2_endAlong_56 : decode cX2_endAlong 56 = .ok (.iadd, 1) := by decide +kernel
theorem dX2_endAlong_57 : decode cX2_endAlong 57 = .ok (.ireturn, 1) := by decide +kernel
theorem dX2_area_0 : decode cX2_area 0 = .ok (.aload_n 0, 1) := by decide +kernel
theorem dX2_area_1 : decode cX2_area 1 = .ok (.getfield 9, 3) := by decide +kernel
theorem dX2_area_4 : decode cX2_area 4 = .ok (.ifCond .eq 15, 3) := by decide +kernel
theorem dX2_area_7 : decode cX2_area 7 = .ok (.aload_n 0, 1) := by decide +kernel
theorem dX2_area_8 : decode cX2_area 8 = .ok (.getfield 31, 3) := by decide +kernel
theorem dX2_area_11 : decode cX2_area 11 = .ok (.aload_n 0, 1) := by decide +kernel
theorem dX2_area_12 : decode cX2_area 12 = .ok (.getfield 37, 3) := by decide +kernel
theorem dX2_area_15 : decode cX2_area 15 = .ok (.imul, 1) := by decide +kernel
theorem dX2_area_16 : decode cX2_area 16 = .ok (.goto 4, 3) := by decide +kernel
theorem dX2_area_19 : decode cX2_area 19 = .ok (.iconst 0, 1) := by decide +kernel
theorem dX2_area_20 : decode cX2_area 20 = .ok (.ireturn, 1) := by decide +kernel
theorem dX2_volume_0 : decode cX2_volume 0 = .ok (.aload_n 0, 1) := by decide +kernel
theorem dX2_volume_1 : decode cX2_volume 1 = .ok (.invokevirtual 57, 3) := by decide +kernel
theorem dX2_volume_4 : decode cX2_volume 4 = .ok (.aload_n 0, 1) := by decide +kernel
theorem dX2_volume_5 : decode cX2_volume 5 = .ok (.getfield 43, 3) := by decide +kernel
theorem dX2_volume_8 : decode cX2_volume 8 = .ok (.imul, 1) := by decide +kernel
theorem dX2_volume_9 : decode cX2_volume 9 = .ok (.ireturn, 1) := by decide +kernel
theorem dX2_covers_0 : decode cX2_covers 0 = .ok (.aload_n 0, 1) := by decide +kernel
theorem dX2_covers_1 : decode cX2_covers 1 = .ok (.getfield 15, 3) := by decide +kernel
theorem dX2_covers_4 : decode cX2_covers 4 = .ok (.iload_n 1, 1) := by decide +kernel
theorem dX2_covers_5 : decode cX2_covers 5 = .ok (.if_icmp .gt 62, 3) := by decide +kernel
theorem dX2_covers_8 : decode cX2_covers 8 = .ok (.iload_n 1, 1) := by decide +kernel
theorem dX2_covers_9 : decode cX2_covers 9 = .ok (.aload_n 0, 1) := by decide +kernel
theorem dX2_covers_10 : decode cX2_covers 10 = .ok (.getfield 15, 3) := by decide +kernel
theorem dX2_covers_13 : decode cX2_covers 13 = .ok (.aload_n 0, 1) := by decide +kernel
theorem dX2_covers_14 : decode cX2_covers 14 = .ok (.getfield 31, 3) := by decide +kernel
theorem dX2_covers_17 : decode cX2_covers 17 = .ok (.iadd, 1) := by decide +kernel
theorem dX2_covers_18 : decode cX2_covers 18 = .ok (.if_icmp .ge 49, 3) := by decide +kernel
theorem dX2_covers_21 : decode cX2_covers 21 = .ok (.aload_n 0, 1) := by decide +kernel
theorem dX2_covers_22 : decode cX2_covers 22 = .ok (.getfield 19, 3) := by decide +kernel
theorem dX2_covers_25 : decode cX2_covers 25 = .ok (.iload_n 2, 1) := by decide +kernel
theorem dX2_covers_26 : decode cX2_covers 26 = .ok (.if_icmp .gt 41, 3) := by decide +kernel
theorem dX2_covers_29 : decode cX2_covers 29 = .ok (.iload_n 2, 1) := by decide +kernel
theorem dX2_covers_30 : decode cX2_covers 30 = .ok (.aload_n 0, 1) := by decide +kernel
theorem dX2_covers_31 : decode cX2_covers 31 = .ok (.getfield 19, 3) := by decide +kernel
theorem dX2_covers_34 : decode cX2_covers 34 = .ok (.aload_n 0, 1) := by decide +kernel
theorem dX2_covers_35 : decode cX2_covers 35 = .ok (.getfield 37, 3) := by decide +kernel
theorem dX2_covers_38 : decode cX2_covers 38 = .ok (.iadd, 1) := by decide +kernel
theorem dX2_covers_39 : decode cX2_covers 39 = .ok (.if_icmp .ge 28, 3) := by decide +kernel
theorem dX2_covers_42 : decode cX2_covers 42 = .ok (.aload_n 0, 1) := by decide +kernel
theorem dX2_covers_43 : decode cX2_covers 43 = .ok (.getfield 22, 3) := by decide +kernel
theorem dX2_covers_46 : decode cX2_covers 46 = .ok (.iload_n 3, 1) := by decide +kernel
theorem dX2_covers_47 : decode cX2_covers 47 = .ok (.if_icmp .gt 20, 3) := by decide +kernel
theorem dX2_covers_50 : decode cX2_covers 50 = .ok (.iload_n 3, 1) := by decide +kernel
theorem dX2_covers_51 : decode cX2_covers 51 = .ok (.aload_n 0, 1) := by decide +kernel
theorem dX2_covers_52 : decode cX2_covers 52 = .ok (.getfield 22, 3) := by decide +kernel
theorem dX2_covers_55 : decode cX2_covers 55 = .ok (.aload_n 0, 1) := by decide +kernel
theorem dX2_covers_56 : decode cX2_covers 56 = .ok (.getfield 43, 3) := by decide +kernel
theorem dX2_covers_59 : decode cX2_covers 59 = .ok (.iadd, 1) := by decide +kernel
theorem dX2_covers_60 : decode cX2_covers 60 = .ok (.if_icmp .ge 7, 3) := by decide +kernel
theorem dX2_covers_63 : decode cX2_covers 63 = .ok (.iconst 1, 1) := by decide +kernel
theorem dX2_covers_64 : decode cX2_covers 64 = .ok (.goto 4, 3) := by decide +kernel
theorem dX2_covers_67 : decode cX2_covers 67 = .ok (.iconst 0, 1) := by decide +kernel
theorem dX2_covers_68 : decode cX2_covers 68 = .ok (.ireturn, 1) := by decide +kernel
theorem dX2_meetsFromAbove_0 : decode cX2_meetsFromAbove 0 = .ok (.aload_n 0, 1) := by decide +kernel
theorem dX2_meetsFromAbove_1 : decode cX2_meetsFromAbove 1 = .ok (.getfield 15, 3) := by decide +kernel
theorem dX2_meetsFromAbove_4 : decode cX2_meetsFromAbove 4 = .ok (.aload_n 1, 1) := by decide +kernel
theorem dX2_meetsFromAbove_5 : decode cX2_meetsFromAbove 5 = .ok (.getfield 15, 3) := by decide +kernel
theorem dX2_meetsFromAbove_8 : decode cX2_meetsFromAbove 8 = .ok (.aload_n 1, 1) := by decide +kernel
theorem dX2_meetsFromAbove_9 : decode cX2_meetsFromAbove 9 = .ok (.getfield 31, 3) := by decide +kernel
theorem dX2_meetsFromAbove_12 : decode cX2_meetsFromAbove 12 = .ok (.iadd, 1) := by decide +kernel
theorem dX2_meetsFromAbove_13 : decode cX2_meetsFromAbove 13 = .ok (.if_icmp .ge 55, 3) := by decide +kernel
theorem dX2_meetsFromAbove_16 : decode cX2_meetsFromAbove 16 = .ok (.aload_n 1, 1) := by decide +kernel
theorem dX2_meetsFromAbove_17 : decode cX2_meetsFromAbove 17 = .ok (.getfield 15, 3) := by decide +kernel
theorem dX2_meetsFromAbove_20 : decode cX2_meetsFromAbove 20 = .ok (.aload_n 0, 1) := by decide +kernel
theorem dX2_meetsFromAbove_21 : decode cX2_meetsFromAbove 21 = .ok (.getfield 15, 3) := by decide +kernel
theorem dX2_meetsFromAbove_24 : decode cX2_meetsFromAbove 24 = .ok (.aload_n 0, 1) := by decide +kernel
theorem dX2_meetsFromAbove_25 : decode cX2_meetsFromAbove 25 = .ok (.getfield 31, 3) := by decide +kernel
theorem dX2_meetsFromAbove_28 : decode cX2_meetsFromAbove 28 = .ok (.iadd, 1) := by decide +kernel
theorem dX2_meetsFromAbove_29 : decode cX2_meetsFromAbove 29 = .ok (.if_icmp .ge 39, 3) := by decide +kernel
theorem dX2_meetsFromAbove_32 : decode cX2_meetsFromAbove 32 = .ok (.aload_n 0, 1) := by decide +kernel
theorem dX2_meetsFromAbove_33 : decode cX2_meetsFromAbove 33 = .ok (.getfield 19, 3) := by decide +kernel
theorem dX2_meetsFromAbove_36 : decode cX2_meetsFromAbove 36 = .ok (.aload_n 1, 1) := by decide +kernel
theorem dX2_meetsFromAbove_37 : decode cX2_meetsFromAbove 37 = .ok (.getfield 19, 3) := by decide +kernel
theorem dX2_meetsFromAbove_40 : decode cX2_meetsFromAbove 40 = .ok (.aload_n 1, 1) := by decide +kernel
theorem dX2_meetsFromAbove_41 : decode cX2_meetsFromAbove 41 = .ok (.getfield 37, 3) := by decide +kernel
theorem dX2_meetsFromAbove_44 : decode cX2_meetsFromAbove 44 = .ok (.iadd, 1) := by decide +kernel
theorem dX2_meetsFromAbove_45 : decode cX2_meetsFromAbove 45 = .ok (.if_icmp .ge 23, 3) := by decide +kernel
theorem dX2_meetsFromAbove_48 : decode cX2_meetsFromAbove 48 = .ok (.aload_n 1, 1) := by decide +kernel
theorem dX2_meetsFromAbove_49 : decode cX2_meetsFromAbove 49 = .ok (.getfield 19, 3) := by decide +kernel
theorem dX2_meetsFromAbove_52 : decode cX2_meetsFromAbove 52 = .ok (.aload_n 0, 1) := by decide +kernel
theorem dX2_meetsFromAbove_53 : decode cX2_meetsFromAbove 53 = .ok (.getfield 19, 3) := by decide +kernel
theorem dX2_meetsFromAbove_56 : decode cX2_meetsFromAbove 56 = .ok (.aload_n 0, 1) := by decide +kernel
theorem dX2_meetsFromAbove_57 : decode cX2_meetsFromAbove 57 = .ok (.getfield 37, 3) := by decide +kernel
theorem dX2_meetsFromAbove_60 : decode cX2_meetsFromAbove 60 = .ok (.iadd, 1) := by decide +kernel
theorem dX2_meetsFromAbove_61 : decode cX2_meetsFromAbove 61 = .ok (.if_icmp .ge 7, 3) := by decide +kernel
theorem dX2_meetsFromAbove_64 : decode cX2_meetsFromAbove 64 = .ok (.iconst 1, 1) := by decide +kernel
theorem dX2_meetsFromAbove_65 : decode cX2_meetsFromAbove 65 = .ok (.goto 4, 3) := by decide +kernel
theorem dX2_meetsFromAbove_68 : decode cX2_meetsFromAbove 68 = .ok (.iconst 0, 1) := by decide +kernel
theorem dX2_meetsFromAbove_69 : decode cX2_meetsFromAbove 69 = .ok (.ireturn, 1) := by decide +kernel
theorem dX2_meets_0 : decode cX2_meets 0 = .ok (.aload_n 0, 1) := by decide +kernel
theorem dX2_meets_1 : decode cX2_meets 1 = .ok (.aload_n 1, 1) := by decide +kernel
theorem dX2_meets_2 : decode cX2_meets 2 = .ok (.invokevirtual 61, 3) := by decide +kernel
theorem dX2_meets_5 : decode cX2_meets 5 = .ok (.ifCond .eq 39, 3) := by decide +kernel
theorem dX2_meets_8 : decode cX2_meets 8 = .ok (.aload_n 0, 1) := by decide +kernel
theorem dX2_meets_9 : decode cX2_meets 9 = .ok (.getfield 22, 3) := by decide +kernel
theorem dX2_meets_12 : decode cX2_meets 12 = .ok (.aload_n 1, 1) := by decide +kernel
theorem dX2_meets_13 : decode cX2_meets 13 = .ok (.getfield 22, 3) := by decide +kernel
theorem dX2_meets_16 : decode cX2_meets 16 = .ok (.aload_n 1, 1) := by decide +kernel
theorem dX2_meets_17 : decode cX2_meets 17 = .ok (.getfield 43, 3) := by decide +kernel
theorem dX2_meets_20 : decode cX2_meets 20 = .ok (.iadd, 1) := by decide +kernel
theorem dX2_meets_21 : decode cX2_meets 21 = .ok (.if_icmp .ge 23, 3) := by decide +kernel
theorem dX2_meets_24 : decode cX2_meets 24 = .ok (.aload_n 1, 1) := by decide +kernel
theorem dX2_meets_25 : decode cX2_meets 25 = .ok (.getfield 22, 3) := by decide +kernel
theorem dX2_meets_28 : decode cX2_meets 28 = .ok (.aload_n 0, 1) := by decide +kernel
theorem dX2_meets_29 : decode cX2_meets 29 = .ok (.getfield 22, 3) := by decide +kernel
theorem dX2_meets_32 : decode cX2_meets 32 = .ok (.aload_n 0, 1) := by decide +kernel
theorem dX2_meets_33 : decode cX2_meets 33 = .ok (.getfield 43, 3) := by decide +kernel
theorem dX2_meets_36 : decode cX2_meets 36 = .ok (.iadd, 1) := by decide +kernel
theorem dX2_meets_37 : decode cX2_meets 37 = .ok (.if_icmp .ge 7, 3) := by decide +kernel
theorem dX2_meets_40 : decode cX2_meets 40 = .ok (.iconst 1, 1) := by decide +kernel
theorem dX2_meets_41 : decode cX2_meets 41 = .ok (.goto 4, 3) := by decide +kernel
theorem dX2_meets_44 : decode cX2_meets 44 = .ok (.iconst 0, 1) := by decide +kernel
theorem dX2_meets_45 : decode cX2_meets 45 = .ok (.ireturn, 1) := by decide +kernel
theorem dX2_standsOn_0 : decode cX2_standsOn 0 = .ok (.aload_n 0, 1) := by decide +kernel
theorem dX2_standsOn_1 : decode cX2_standsOn 1 = .ok (.getfield 22, 3) := by decide +kernel
theorem dX2_standsOn_4 : decode cX2_standsOn 4 = .ok (.aload_n 1, 1) := by decide +kernel
theorem dX2_standsOn_5 : decode cX2_standsOn 5 = .ok (.getfield 22, 3) := by decide +kernel
theorem dX2_standsOn_8 : decode cX2_standsOn 8 = .ok (.aload_n 1, 1) := by decide +kernel
theorem dX2_standsOn_9 : decode cX2_standsOn 9 = .ok (.getfield 43, 3) := by decide +kernel
theorem dX2_standsOn_12 : decode cX2_standsOn 12 = .ok (.iadd, 1) := by decide +kernel
theorem dX2_standsOn_13 : decode cX2_standsOn 13 = .ok (.if_icmp .ne 15, 3) := by decide +kernel
theorem dX2_standsOn_16 : decode cX2_standsOn 16 = .ok (.aload_n 0, 1) := by decide +kernel
theorem dX2_standsOn_17 : decode cX2_standsOn 17 = .ok (.aload_n 1, 1) := by decide +kernel
theorem dX2_standsOn_18 : decode cX2_standsOn 18 = .ok (.invokevirtual 61, 3) := by decide +kernel
theorem dX2_standsOn_21 : decode cX2_standsOn 21 = .ok (.ifCond .eq 7, 3) := by decide +kernel
theorem dX2_standsOn_24 : decode cX2_standsOn 24 = .ok (.iconst 1, 1) := by decide +kernel
theorem dX2_standsOn_25 : decode cX2_standsOn 25 = .ok (.goto 4, 3) := by decide +kernel
theorem dX2_standsOn_28 : decode cX2_standsOn 28 = .ok (.iconst 0, 1) := by decide +kernel
theorem dX2_standsOn_29 : decode cX2_standsOn 29 = .ok (.ireturn, 1) := by decide +kernel
theorem dX2_commonArea_0 : decode cX2_commonArea 0 = .ok (.aload_n 0, 1) := by decide +kernel
theorem dX2_commonArea_1 : decode cX2_commonArea 1 = .ok (.getfield 15, 3) := by decide +kernel
theorem dX2_commonArea_4 : decode cX2_commonArea 4 = .ok (.aload_n 0, 1) := by decide +kernel
theorem dX2_commonArea_5 : decode cX2_commonArea 5 = .ok (.getfield 31, 3) := by decide +kernel
theorem dX2_commonArea_8 : decode cX2_commonArea 8 = .ok (.iadd, 1) := by decide +kernel
theorem dX2_commonArea_9 : decode cX2_commonArea 9 = .ok (.aload_n 1, 1) := by decide +kernel
theorem dX2_commonArea_10 : decode cX2_commonArea 10 = .ok (.getfield 15, 3) := by decide +kernel
theorem dX2_commonArea_13 : decode cX2_commonArea 13 = .ok (.aload_n 1, 1) := by decide +kernel
theorem dX2_commonArea_14 : decode cX2_commonArea 14 = .ok (.getfield 31, 3) := by decide +kernel
theorem dX2_commonArea_17 : decode cX2_commonArea 17 = .ok (.iadd, 1) := by decide +kernel
theorem dX2_commonArea_18 : decode cX2_commonArea 18 = .ok (.invokestatic 65, 3) := by decide +kernel
theorem dX2_commonArea_21 : decode cX2_commonArea 21 = .ok (.aload_n 0, 1) := by decide +kernel
theorem dX2_commonArea_22 : decode cX2_commonArea 22 = .ok (.getfield 15, 3) := by decide +kernel
theorem dX2_commonArea_25 : decode cX2_commonArea 25 = .ok (.aload_n 1, 1) := by decide +kernel
theorem dX2_commonArea_26 : decode cX2_commonArea 26 = .ok (.getfield 15, 3) := by decide +kernel
theorem dX2_commonArea_29 : decode cX2_commonArea 29 = .ok (.invokestatic 71, 3) := by decide +kernel
theorem dX2_commonArea_32 : decode cX2_commonArea 32 = .ok (.isub, 1) := by decide +kernel
theorem dX2_commonArea_33 : decode cX2_commonArea 33 = .ok (.istore_n 2, 1) := by decide +kernel
theorem dX2_commonArea_34 : decode cX2_commonArea 34 = .ok (.aload_n 0, 1) := by decide +kernel
theorem dX2_commonArea_35 : decode cX2_commonArea 35 = .ok (.getfield 19, 3) := by decide +kernel
theorem dX2_commonArea_38 : decode cX2_commonArea 38 = .ok (.aload_n 0, 1) := by decide +kernel
theorem dX2_commonArea_39 : decode cX2_commonArea 39 = .ok (.getfield 37, 3) := by decide +kernel
theorem dX2_commonArea_42 : decode cX2_commonArea 42 = .ok (.iadd, 1) := by decide +kernel
theorem dX2_commonArea_43 : decode cX2_commonArea 43 = .ok (.aload_n 1, 1) := by decide +kernel
theorem dX2_commonArea_44 : decode cX2_commonArea 44 = .ok (.getfield 19, 3) := by decide +kernel
theorem dX2_commonArea_47 : decode cX2_commonArea 47 = .ok (.aload_n 1, 1) := by decide +kernel
theorem dX2_commonArea_48 : decode cX2_commonArea 48 = .ok (.getfield 37, 3) := by decide +kernel
theorem dX2_commonArea_51 : decode cX2_commonArea 51 = .ok (.iadd, 1) := by decide +kernel
theorem dX2_commonArea_52 : decode cX2_commonArea 52 = .ok (.invokestatic 65, 3) := by decide +kernel
theorem dX2_commonArea_55 : decode cX2_commonArea 55 = .ok (.aload_n 0, 1) := by decide +kernel
theorem dX2_commonArea_56 : decode cX2_commonArea 56 = .ok (.getfield 19, 3) := by decide +kernel
theorem dX2_commonArea_59 : decode cX2_commonArea 59 = .ok (.aload_n 1, 1) := by decide +kernel
theorem dX2_commonArea_60 : decode cX2_commonArea 60 = .ok (.getfield 19, 3) := by decide +kernel
theorem dX2_commonArea_63 : decode cX2_commonArea 63 = .ok (.invokestatic 71, 3) := by decide +kernel
theorem dX2_commonArea_66 : decode cX2_commonArea 66 = .ok (.isub, 1) := by decide +kernel
theorem dX2_commonArea_67 : decode cX2_commonArea 67 = .ok (.istore_n 3, 1) := by decide +kernel
theorem dX2_commonArea_68 : decode cX2_commonArea 68 = .ok (.iload_n 2, 1) := by decide +kernel
theorem dX2_commonArea_69 : decode cX2_commonArea 69 = .ok (.iload_n 3, 1) := by decide +kernel
theorem dX2_commonArea_70 : decode cX2_commonArea 70 = .ok (.imul, 1) := by decide +kernel
theorem dX2_commonArea_71 : decode cX2_commonArea 71 = .ok (.ireturn, 1) := by decide +kernel
