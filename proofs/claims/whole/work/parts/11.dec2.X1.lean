theorem dX1_init_0 : decode cX1_init 0 = .ok (.aload_n 0, 1) := by decide +kernel
theorem dX1_init_1 : decode cX1_init 1 = .ok (.invokespecial 3, 3) := by decide +kernel
theorem dX1_init_4 : decode cX1_init 4 = .ok (.aload_n 0, 1) := by decide +kernel
theorem dX1_init_5 : decode cX1_init 5 = .ok (.iload_n 1, 1) := by decide +kernel
theorem dX1_init_6 : decode cX1_init 6 = .ok (.putfield 9, 3) := by decide +kernel
theorem dX1_init_9 : decode cX1_init 9 = .ok (.aload_n 0, 1) := by decide +kernel
theorem dX1_init_10 : decode cX1_init 10 = .ok (.iload_n 2, 1) := by decide +kernel
theorem dX1_init_11 : decode cX1_init 11 = .ok (.putfield 15, 3) := by decide +kernel
theorem dX1_init_14 : decode cX1_init 14 = .ok (.aload_n 0, 1) := by decide +kernel
theorem dX1_init_15 : decode cX1_init 15 = .ok (.iload_n 3, 1) := by decide +kernel
theorem dX1_init_16 : decode cX1_init 16 = .ok (.putfield 18, 3) := by decide +kernel
theorem dX1_init_19 : decode cX1_init 19 = .ok (.aload_n 0, 1) := by decide +kernel
theorem dX1_init_20 : decode cX1_init 20 = .ok (.bipush 6, 2) := by decide +kernel
theorem dX1_init_22 : decode cX1_init 22 = .ok (.anewarray 21, 3) := by decide +kernel
theorem dX1_init_25 : decode cX1_init 25 = .ok (.putfield 23, 3) := by decide +kernel
theorem dX1_init_28 : decode cX1_init 28 = .ok (.iconst 0, 1) := by decide +kernel
theorem dX1_init_29 : decode cX1_init 29 = .ok (.istore 4, 2) := by decide +kernel
theorem dX1_init_31 : decode cX1_init 31 = .ok (.iload 4, 2) := by decide +kernel
theorem dX1_init_33 : decode cX1_init 33 = .ok (.aload_n 0, 1) := by decide +kernel
theorem dX1_init_34 : decode cX1_init 34 = .ok (.getfield 23, 3) := by decide +kernel
theorem dX1_init_37 : decode cX1_init 37 = .ok (.arraylength, 1) := by decide +kernel
theorem dX1_init_38 : decode cX1_init 38 = .ok (.if_icmp .ge 23, 3) := by decide +kernel
theorem dX1_init_41 : decode cX1_init 41 = .ok (.aload_n 0, 1) := by decide +kernel
theorem dX1_init_42 : decode cX1_init 42 = .ok (.getfield 23, 3) := by decide +kernel
theorem dX1_init_45 : decode cX1_init 45 = .ok (.iload 4, 2) := by decide +kernel
theorem dX1_init_47 : decode cX1_init 47 = .ok (.new 21, 3) := by decide +kernel
theorem dX1_init_50 : decode cX1_init 50 = .ok (.dup, 1) := by decide +kernel
theorem dX1_init_51 : decode cX1_init 51 = .ok (.invokespecial 27, 3) := by decide +kernel
theorem dX1_init_54 : decode cX1_init 54 = .ok (.aastore, 1) := by decide +kernel
theorem dX1_init_55 : decode cX1_init 55 = .ok (.iinc 4 1, 3) := by decide +kernel
theorem dX1_init_58 : decode cX1_init 58 = .ok (.goto (-27), 3) := by decide +kernel
theorem dX1_init_61 : decode cX1_init 61 = .ok (.return_, 1) := by decide +kernel
theorem dX1_clear_0 : decode cX1_clear 0 = .ok (.iconst 0, 1) := by decide +kernel
theorem dX1_clear_1 : decode cX1_clear 1 = .ok (.istore_n 1, 1) := by decide +kernel
theorem dX1_clear_2 : decode cX1_clear 2 = .ok (.iload_n 1, 1) := by decide +kernel
theorem dX1_clear_3 : decode cX1_clear 3 = .ok (.aload_n 0, 1) := by decide +kernel
theorem dX1_clear_4 : decode cX1_clear 4 = .ok (.getfield 23, 3) := by decide +kernel
theorem dX1_clear_7 : decode cX1_clear 7 = .ok (.arraylength, 1) := by decide +kernel
theorem dX1_clear_8 : decode cX1_clear 8 = .ok (.if_icmp .ge 18, 3) := by decide +kernel
theorem dX1_clear_11 : decode cX1_clear 11 = .ok (.aload_n 0, 1) := by decide +kernel
theorem dX1_clear_12 : decode cX1_clear 12 = .ok (.getfield 23, 3) := by decide +kernel
theorem dX1_clear_15 : decode cX1_clear 15 = .ok (.iload_n 1, 1) := by decide +kernel
theorem dX1_clear_16 : decode cX1_clear 16 = .ok (.aaload, 1) := by decide +kernel
theorem dX1_clear_17 : decode cX1_clear 17 = .ok (.invokevirtual 28, 3) := by decide +kernel
theorem dX1_clear_20 : decode cX1_clear 20 = .ok (.iinc 1 1, 3) := by decide +kernel
theorem dX1_clear_23 : decode cX1_clear 23 = .ok (.goto (-21), 3) := by decide +kernel
theorem dX1_clear_26 : decode cX1_clear 26 = .ok (.return_, 1) := by decide +kernel
theorem dX1_copyFrom_0 : decode cX1_copyFrom 0 = .ok (.iconst 0, 1) := by decide +kernel
theorem dX1_copyFrom_1 : decode cX1_copyFrom 1 = .ok (.istore_n 2, 1) := by decide +kernel
theorem dX1_copyFrom_2 : decode cX1_copyFrom 2 = .ok (.iload_n 2, 1) := by decide +kernel
theorem dX1_copyFrom_3 : decode cX1_copyFrom 3 = .ok (.aload_n 0, 1) := by decide +kernel
theorem dX1_copyFrom_4 : decode cX1_copyFrom 4 = .ok (.getfield 23, 3) := by decide +kernel
theorem dX1_copyFrom_7 : decode cX1_copyFrom 7 = .ok (.arraylength, 1) := by decide +kernel
theorem dX1_copyFrom_8 : decode cX1_copyFrom 8 = .ok (.if_icmp .ge 33, 3) := by decide +kernel
theorem dX1_copyFrom_11 : decode cX1_copyFrom 11 = .ok (.iload_n 2, 1) := by decide +kernel
theorem dX1_copyFrom_12 : decode cX1_copyFrom 12 = .ok (.aload_n 1, 1) := by decide +kernel
theorem dX1_copyFrom_13 : decode cX1_copyFrom 13 = .ok (.getfield 23, 3) := by decide +kernel
theorem dX1_copyFrom_16 : decode cX1_copyFrom 16 = .ok (.arraylength, 1) := by decide +kernel
theorem dX1_copyFrom_17 : decode cX1_copyFrom 17 = .ok (.if_icmp .ge 24, 3) := by decide +kernel
theorem dX1_copyFrom_20 : decode cX1_copyFrom 20 = .ok (.aload_n 0, 1) := by decide +kernel
theorem dX1_copyFrom_21 : decode cX1_copyFrom 21 = .ok (.getfield 23, 3) := by decide +kernel
theorem dX1_copyFrom_24 : decode cX1_copyFrom 24 = .ok (.iload_n 2, 1) := by decide +kernel
theorem dX1_copyFrom_25 : decode cX1_copyFrom 25 = .ok (.aaload, 1) := by decide +kernel
theorem dX1_copyFrom_26 : decode cX1_copyFrom 26 = .ok (.aload_n 1, 1) := by decide +kernel
theorem dX1_copyFrom_27 : decode cX1_copyFrom 27 = .ok (.getfield 23, 3) := by decide +kernel
theorem dX1_copyFrom_30 : decode cX1_copyFrom 30 = .ok (.iload_n 2, 1) := by decide +kernel
theorem dX1_copyFrom_31 : decode cX1_copyFrom 31 = .ok (.aaload, 1) := by decide +kernel
theorem dX1_copyFrom_32 : decode cX1_copyFrom 32 = .ok (.invokevirtual 31, 3) := by decide +kernel
theorem dX1_copyFrom_35 : decode cX1_copyFrom 35 = .ok (.iinc 2 1, 3) := by decide +kernel
theorem dX1_copyFrom_38 : decode cX1_copyFrom 38 = .ok (.goto (-36), 3) := by decide +kernel
theorem dX1_copyFrom_41 : decode cX1_copyFrom 41 = .ok (.return_, 1) := by decide +kernel
theorem dX1_boxVolume_0 : decode cX1_boxVolume 0 = .ok (.aload_n 0, 1) := by decide +kernel
theorem dX1_boxVolume_1 : decode cX1_boxVolume 1 = .ok (.getfield 9, 3) := by decide +kernel
theorem dX1_boxVolume_4 : decode cX1_boxVolume 4 = .ok (.aload_n 0, 1) := by decide +kernel
theorem dX1_boxVolume_5 : decode cX1_boxVolume 5 = .ok (.getfield 15, 3) := by decide +kernel
theorem dX1_boxVolume_8 : decode cX1_boxVolume 8 = .ok (.imul, 1) := by decide +kernel
theorem dX1_boxVolume_9 : decode cX1_boxVolume 9 = .ok (.aload_n 0, 1) := by decide +kernel
theorem dX1_boxVolume_10 : decode cX1_boxVolume 10 = .ok (.getfield 18, 3) := by decide +kernel
theorem dX1_boxVolume_13 : decode cX1_boxVolume 13 = .ok (.imul, 1) := by decide +kernel
theorem dX1_boxVolume_14 : decode cX1_boxVolume 14 = .ok (.ireturn, 1) := by decide +kernel
theorem dX1_takes_0 : decode cX1_takes 0 = .ok (.iload_n 1, 1) := by decide +kernel
theorem dX1_takes_1 : decode cX1_takes 1 = .ok (.aload_n 0, 1) := by decide +kernel
theorem dX1_takes_2 : decode cX1_takes 2 = .ok (.getfield 9, 3) := by decide +kernel
theorem dX1_takes_5 : decode cX1_takes 5 = .ok (.if_icmp .gt 23, 3) := by decide +kernel
theorem dX1_takes_8 : decode cX1_takes 8 = .ok (.iload_n 2, 1) := by decide +kernel
theorem dX1_takes_9 : decode cX1_takes 9 = .ok (.aload_n 0, 1) := by decide +kernel
theorem dX1_takes_10 : decode cX1_takes 10 = .ok (.getfield 15, 3) := by decide +kernel
theorem dX1_takes_13 : decode cX1_takes 13 = .ok (.if_icmp .gt 15, 3) := by decide +kernel
theorem dX1_takes_16 : decode cX1_takes 16 = .ok (.iload_n 3, 1) := by decide +kernel
theorem dX1_takes_17 : decode cX1_takes 17 = .ok (.aload_n 0, 1) := by decide +kernel
theorem dX1_takes_18 : decode cX1_takes 18 = .ok (.getfield 18, 3) := by decide +kernel
theorem dX1_takes_21 : decode cX1_takes 21 = .ok (.if_icmp .gt 7, 3) := by decide +kernel
theorem dX1_takes_24 : decode cX1_takes 24 = .ok (.iconst 1, 1) := by decide +kernel
theorem dX1_takes_25 : decode cX1_takes 25 = .ok (.goto 4, 3) := by decide +kernel
theorem dX1_takes_28 : decode cX1_takes 28 = .ok (.iconst 0, 1) := by decide +kernel
theorem dX1_takes_29 : decode cX1_takes 29 = .ok (.ireturn, 1) := by decide +kernel
theorem dX1_hasCell_0 : decode cX1_hasCell 0 = .ok (.iload_n 1, 1) := by decide +kernel
theorem dX1_hasCell_1 : decode cX1_hasCell 1 = .ok (.ifCond .lt 39, 3) := by decide +kernel
theorem dX1_hasCell_4 : decode cX1_hasCell 4 = .ok (.iload_n 1, 1) := by decide +kernel
theorem dX1_hasCell_5 : decode cX1_hasCell 5 = .ok (.aload_n 0, 1) := by decide +kernel
theorem dX1_hasCell_6 : decode cX1_hasCell 6 = .ok (.getfield 9, 3) := by decide +kernel
theorem dX1_hasCell_9 : decode cX1_hasCell 9 = .ok (.if_icmp .ge 31, 3) := by decide +kernel
theorem dX1_hasCell_12 : decode cX1_hasCell 12 = .ok (.iload_n 2, 1) := by decide +kernel
theorem dX1_hasCell_13 : decode cX1_hasCell 13 = .ok (.ifCond .lt 27, 3) := by decide +kernel
theorem dX1_hasCell_16 : decode cX1_hasCell 16 = .ok (.iload_n 2, 1) := by decide +kernel
theorem dX1_hasCell_17 : decode cX1_hasCell 17 = .ok (.aload_n 0, 1) := by decide +kernel
theorem dX1_hasCell_18 : decode cX1_hasCell 18 = .ok (.getfield 15, 3) := by decide +kernel
theorem dX1_hasCell_21 : decode cX1_hasCell 21 = .ok (.if_icmp .ge 19, 3) := by decide +kernel
theorem dX1_hasCell_24 : decode cX1_hasCell 24 = .ok (.iload_n 3, 1) := by decide +kernel
theorem dX1_hasCell_25 : decode cX1_hasCell 25 = .ok (.ifCond .lt 15, 3) := by decide +kernel
theorem dX1_hasCell_28 : decode cX1_hasCell 28 = .ok (.iload_n 3, 1) := by decide +kernel
theorem dX1_hasCell_29 : decode cX1_hasCell 29 = .ok (.aload_n 0, 1) := by decide +kernel
theorem dX1_hasCell_30 : decode cX1_hasCell 30 = .ok (.getfield 18, 3) := by decide +kernel
theorem dX1_hasCell_33 : decode cX1_hasCell 33 = .ok (.if_icmp .ge 7, 3) := by decide +kernel
theorem dX1_hasCell_36 : decode cX1_hasCell 36 = .ok (.iconst 1, 1) := by decide +kernel
theorem dX1_hasCell_37 : decode cX1_hasCell 37 = .ok (.goto 4, 3) := by decide +kernel
theorem dX1_hasCell_40 : decode cX1_hasCell 40 = .ok (.iconst 0, 1) := by decide +kernel
theorem dX1_hasCell_41 : decode cX1_hasCell 41 = .ok (.ireturn, 1) := by decide +kernel
theorem dX1_pieceIn_0 : decode cX1_pieceIn 0 = .ok (.iconst 0, 1) := by decide +kernel
theorem dX1_pieceIn_1 : decode cX1_pieceIn 1 = .ok (.istore 4, 2) := by decide +kernel
theorem dX1_pieceIn_3 : decode cX1_pieceIn 3 = .ok (.iload 4, 2) := by decide +kernel
theorem dX1_pieceIn_5 : decode cX1_pieceIn 5 = .ok (.aload_n 0, 1) := by decide +kernel
theorem dX1_pieceIn_6 : decode cX1_pieceIn 6 = .ok (.getfield 23, 3) := by decide +kernel
theorem dX1_pieceIn_9 : decode cX1_pieceIn 9 = .ok (.arraylength, 1) := by decide +kernel
theorem dX1_pieceIn_10 : decode cX1_pieceIn 10 = .ok (.if_icmp .ge 41, 3) := by decide +kernel
theorem dX1_pieceIn_13 : decode cX1_pieceIn 13 = .ok (.aload_n 0, 1) := by decide +kernel
theorem dX1_pieceIn_14 : decode cX1_pieceIn 14 = .ok (.getfield 23, 3) := by decide +kernel
theorem dX1_pieceIn_17 : decode cX1_pieceIn 17 = .ok (.iload 4, 2) := by decide +kernel
theorem dX1_pieceIn_19 : decode cX1_pieceIn 19 = .ok (.aaload, 1) := by decide +kernel
theorem dX1_pieceIn_20 : decode cX1_pieceIn 20 = .ok (.getfield 35, 3) := by decide +kernel
theorem dX1_pieceIn_23 : decode cX1_pieceIn 23 = .ok (.ifCond .eq 22, 3) := by decide +kernel
theorem dX1_pieceIn_26 : decode cX1_pieceIn 26 = .ok (.aload_n 0, 1) := by decide +kernel
theorem dX1_pieceIn_27 : decode cX1_pieceIn 27 = .ok (.getfield 23, 3) := by decide +kernel
theorem dX1_pieceIn_30 : decode cX1_pieceIn 30 = .ok (.iload 4, 2) := by decide +kernel
theorem dX1_pieceIn_32 : decode cX1_pieceIn 32 = .ok (.aaload, 1) := by decide +kernel
theorem dX1_pieceIn_33 : decode cX1_pieceIn 33 = .ok (.iload_n 1, 1) := by decide +kernel
theorem dX1_pieceIn_34 : decode cX1_pieceIn 34 = .ok (.iload_n 2, 1) := by decide +kernel
theorem dX1_pieceIn_35 : decode cX1_pieceIn 35 = .ok (.iload_n 3, 1) := by decide +kernel
theorem dX1_pieceIn_36 : decode cX1_pieceIn 36 = .ok (.invokevirtual 39, 3) := by decide +kernel
theorem dX1_pieceIn_39 : decode cX1_pieceIn 39 = .ok (.ifCond .eq 6, 3) := by decide +kernel
theorem dX1_pieceIn_42 : decode cX1_pieceIn 42 = .ok (.iload 4, 2) := by decide +kernel
theorem dX1_pieceIn_44 : decode cX1_pieceIn 44 = .ok (.ireturn, 1) := by decide +kernel
theorem dX1_pieceIn_45 : decode cX1_pieceIn 45 = .ok (.iinc 4 1, 3) := by decide +kernel
theorem dX1_pieceIn_48 : decode cX1_pieceIn 48 = .ok (.goto (-45), 3) := by decide +kernel
theorem dX1_pieceIn_51 : decode cX1_pieceIn 51 = .ok (.iconst (-1), 1) := by decide +kernel
theorem dX1_pieceIn_52 : decode cX1_pieceIn 52 = .ok (.ireturn, 1) := by decide +kernel
theorem dX1_size_0 : decode cX1_size 0 = .ok (.iconst 0, 1) := by decide +kernel
theorem dX1_size_1 : decode cX1_size 1 = .ok (.istore_n 1, 1) := by decide +kernel
theorem dX1_size_2 : decode cX1_size 2 = .ok (.iconst 0, 1) := by decide +kernel
theorem dX1_size_3 : decode cX1_size 3 = .ok (.istore_n 2, 1) := by decide +kernel
theorem dX1_size_4 : decode cX1_size 4 = .ok (.iload_n 2, 1) := by decide +kernel
theorem dX1_size_5 : decode cX1_size 5 = .ok (.aload_n 0, 1) := by decide +kernel
theorem dX1_size_6 : decode cX1_size 6 = .ok (.getfield 23, 3) := by decide +kernel
theorem dX1_size_9 : decode cX1_size 9 = .ok (.arraylength, 1) := by decide +kernel
theorem dX1_size_10 : decode cX1_size 10 = .ok (.if_icmp .ge 24, 3) := by decide +kernel
theorem dX1_size_13 : decode cX1_size 13 = .ok (.aload_n 0, 1) := by decide +kernel
theorem dX1_size_14 : decode cX1_size 14 = .ok (.getfield 23, 3) := by decide +kernel
theorem dX1_size_17 : decode cX1_size 17 = .ok (.iload_n 2, 1) := by decide +kernel
theorem dX1_size_18 : decode cX1_size 18 = .ok (.aaload, 1) := by decide +kernel
theorem dX1_size_19 : decode cX1_size 19 = .ok (.getfield 35, 3) := by decide +kernel
theorem dX1_size_22 : decode cX1_size 22 = .ok (.ifCond .eq 6, 3) := by decide +kernel
theorem dX1_size_25 : decode cX1_size 25 = .ok (.iinc 1 1, 3) := by decide +kernel
theorem dX1_size_28 : decode cX1_size 28 = .ok (.iinc 2 1, 3) := by decide +kernel
theorem dX1_size_31 : decode cX1_size 31 = .ok (.goto (-27), 3) := by decide +kernel
theorem dX1_size_34 : decode cX1_size 34 = .ok (.iload_n 1, 1) := by decide +kernel
theorem dX1_size_35 : decode cX1_size 35 = .ok (.ireturn, 1) := by decide +kernel
theorem dX1_volume_0 : decode cX1_volume 0 = .ok (.iconst 0, 1) := by decide +kernel
theorem dX1_volume_1 : decode cX1_volume 1 = .ok (.istore_n 1, 1) := by decide +kernel
theorem dX1_volume_2 : decode cX1_volume 2 = .ok (.iconst 0, 1) := by decide +kernel
theorem dX1_volume_3 : decode cX1_volume 3 = .ok (.istore_n 2, 1) := by decide +kernel
theorem dX1_volume_4 : decode cX1_volume 4 = .ok (.iload_n 2, 1) := by decide +kernel
theorem dX1_volume_5 : decode cX1_volume 5 = .ok (.aload_n 0, 1) := by decide +kernel
theorem dX1_volume_6 : decode cX1_volume 6 = .ok (.getfield 23, 3) := by decide +kernel
theorem dX1_volume_9 : decode cX1_volume 9 = .ok (.arraylength, 1) := by decide +kernel
theorem dX1_volume_10 : decode cX1_volume 10 = .ok (.if_icmp .ge 21, 3) := by decide +kernel
theorem dX1_volume_13 : decode cX1_volume 13 = .ok (.iload_n 1, 1) := by decide +kernel
theorem dX1_volume_14 : decode cX1_volume 14 = .ok (.aload_n 0, 1) := by decide +kernel
theorem dX1_volume_15 : decode cX1_volume 15 = .ok (.getfield 23, 3) := by decide +kernel
theorem dX1_volume_18 : decode cX1_volume 18 = .ok (.iload_n 2, 1) := by decide +kernel
theorem dX1_volume_19 : decode cX1_volume 19 = .ok (.aaload, 1) := by decide +kernel
theorem dX1_volume_20 : decode cX1_volume 20 = .ok (.invokevirtual 43, 3) := by decide +kernel
theorem dX1_volume_23 : decode cX1_volume 23 = .ok (.iadd, 1) := by decide +kernel
theorem dX1_volume_24 : decode cX1_volume 24 = .ok (.istore_n 1, 1) := by decide +kernel
theorem dX1_volume_25 : decode cX1_volume 25 = .ok (.iinc 2 1, 3) := by decide +kernel
theorem dX1_volume_28 : decode cX1_volume 28 = .ok (.goto (-24), 3) := by decide +kernel
theorem dX1_volume_31 : decode cX1_volume 31 = .ok (.iload_n 1, 1) := by decide +kernel
theorem dX1_volume_32 : decode cX1_volume 32 = .ok (.ireturn, 1) := by decide +kernel
theorem dX1_weight_0 : decode cX1_weight 0 = .ok (.iconst 0, 1) := by decide +kernel
theorem dX1_weight_1 : decode cX1_weight 1 = .ok (.istore_n 1, 1) := by decide +kernel
theorem dX1_weight_2 : decode cX1_weight 2 = .ok (.iconst 0, 1) := by decide +kernel
theorem dX1_weight_3 : decode cX1_weight 3 = .ok (.istore_n 2, 1) := by decide +kernel
theorem dX1_weight_4 : decode cX1_weight 4 = .ok (.iload_n 2, 1) := by decide +kernel
theorem dX1_weight_5 : decode cX1_weight 5 = .ok (.aload_n 0, 1) := by decide +kernel
theorem dX1_weight_6 : decode cX1_weight 6 = .ok (.getfield 23, 3) := by decide +kernel
theorem dX1_weight_9 : decode cX1_weight 9 = .ok (.arraylength, 1) := by decide +kernel
theorem dX1_weight_10 : decode cX1_weight 10 = .ok (.if_icmp .ge 33, 3) := by decide +kernel
theorem dX1_weight_13 : decode cX1_weight 13 = .ok (.aload_n 0, 1) := by decide +kernel
theorem dX1_weight_14 : decode cX1_weight 14 = .ok (.getfield 23, 3) := by decide +kernel
theorem dX1_weight_17 : decode cX1_weight 17 = .ok (.iload_n 2, 1) := by decide +kernel
theorem dX1_weight_18 : decode cX1_weight 18 = .ok (.aaload, 1) := by decide +kernel
theorem dX1_weight_19 : decode cX1_weight 19 = .ok (.getfield 35, 3) := by decide +kernel
theorem dX1_weight_22 : decode cX1_weight 22 = .ok (.ifCond .eq 15, 3) := by decide +kernel
theorem dX1_weight_25 : decode cX1_weight 25 = .ok (.iload_n 1, 1) := by decide +kernel
theorem dX1_weight_26 : decode cX1_weight 26 = .ok (.aload_n 0, 1) := by decide +kernel
theorem dX1_weight_27 : decode cX1_weight 27 = .ok (.getfield 23, 3) := by decide +kernel
theorem dX1_weight_30 : decode cX1_weight 30 = .ok (.iload_n 2, 1) := by decide +kernel
theorem dX1_weight_31 : decode cX1_weight 31 = .ok (.aaload, 1) := by decide +kernel
theorem dX1_weight_32 : decode cX1_weight 32 = .ok (.getfield 47, 3) := by decide +kernel
theorem dX1_weight_35 : decode cX1_weight 35 = .ok (.iadd, 1) := by decide +kernel
theorem dX1_weight_36 : decode cX1_weight 36 = .ok (.istore_n 1, 1) := by decide +kernel
theorem dX1_weight_37 : decode cX1_weight 37 = .ok (.iinc 2 1, 3) := by decide +kernel
theorem dX1_weight_40 : decode cX1_weight 40 = .ok (.goto (-36), 3) := by decide +kernel
theorem dX1_weight_43 : decode cX1_weight 43 = .ok (.iload_n 1, 1) := by decide +kernel
theorem dX1_weight_44 : decode cX1_weight 44 = .ok (.ireturn, 1) := by decide +kernel
theorem dX1_top_0 : decode cX1_top 0 = .ok (.iconst 0, 1) := by decide +kernel
theorem dX1_top_1 : decode cX1_top 1 = .ok (.istore_n 1, 1) := by decide +kernel
theorem dX1_top_2 : decode cX1_top 2 = .ok (.iconst 0, 1) := by decide +kernel
theorem dX1_top_3 : decode cX1_top 3 = .ok (.istore_n 2, 1) := by decide +kernel
theorem dX1_top_4 : decode cX1_top 4 = .ok (.iload_n 2, 1) := by decide +kernel
theorem dX1_top_5 : decode cX1_top 5 = .ok (.aload_n 0, 1) := by decide +kernel
theorem dX1_top_6 : decode cX1_top 6 = .ok (.getfield 23, 3) := by decide +kernel
theorem dX1_top_9 : decode cX1_top 9 = .ok (.arraylength, 1) := by decide +kernel
theorem dX1_top_10 : decode cX1_top 10 = .ok (.if_icmp .ge 36, 3) := by decide +kernel
theorem dX1_top_13 : decode cX1_top 13 = .ok (.aload_n 0, 1) := by decide +kernel
theorem dX1_top_14 : decode cX1_top 14 = .ok (.getfield 23, 3) := by decide +kernel
theorem dX1_top_17 : decode cX1_top 17 = .ok (.iload_n 2, 1) := by decide +kernel
theorem dX1_top_18 : decode cX1_top 18 = .ok (.aaload, 1) := by decide +kernel
theorem dX1_top_19 : decode cX1_top 19 = .ok (.getfield 35, 3) := by decide +kernel
theorem dX1_top_22 : decode cX1_top 22 = .ok (.ifCond .eq 18, 3) := by decide +kernel
theorem dX1_top_25 : decode cX1_top 25 = .ok (.iload_n 1, 1) := by decide +kernel
theorem dX1_top_26 : decode cX1_top 26 = .ok (.aload_n 0, 1) := by decide +kernel
theorem dX1_top_27 : decode cX1_top 27 = .ok (.getfield 23, 3) := by decide +kernel
theorem dX1_top_30 : decode cX1_top 30 = .ok (.iload_n 2, 1) := by decide +kernel
theorem dX1_top_31 : decode cX1_top 31 = .ok (.aaload, 1) := by decide +kernel
theorem dX1_top_32 : decode cX1_top 32 = .ok (.iconst 2, 1) := by decide +kernel
theorem dX1_top_33 : decode cX1_top 33 = .ok (.invokevirtual 50, 3) := by decide +kernel
theorem dX1_top_36 : decode cX1_top 36 = .ok (.invokestatic 54, 3) := by decide +kernel
theorem dX1_top_39 : decode cX1_top 39 = .ok (.istore_n 1, 1) := by decide +kernel
theorem dX1_top_40 : decode cX1_top 40 = .ok (.iinc 2 1, 3) := by decide +kernel
theorem dX1_top_43 : decode cX1_top 43 = .ok (.goto (-39), 3) := by decide +kernel
theorem dX1_top_46 : decode cX1_top 46 = .ok (.iload_n 1, 1) := by decide +kernel
theorem dX1_top_47 : decode cX1_top 47 = .ok (.ireturn, 1) := by decide +kernel
theorem dX1_ends_0 : decode cX1_ends 0 = .ok (.iconst 1, 1) := by decide +kernel
theorem dX1_ends_1 : decode cX1_ends 1 = .ok (.istore_n 2, 1) := by decide +kernel
theorem dX1_ends_2 : decode cX1_ends 2 = .ok (.iconst 0, 1) := by decide +kernel
theorem dX1_ends_3 : decode cX1_ends 3 = .ok (.istore_n 3, 1) := by decide +kernel
theorem dX1_ends_4 : decode cX1_ends 4 = .ok (.iload_n 3, 1) := by decide +kernel
theorem dX1_ends_5 : decode cX1_ends 5 = .ok (.aload_n 0, 1) := by decide +kernel
theorem dX1_ends_6 : decode cX1_ends 6 = .ok (.getfield 23, 3) := by decide +kernel
theorem dX1_ends_9 : decode cX1_ends 9 = .ok (.arraylength, 1) := by decide +kernel
theorem dX1_ends_10 : decode cX1_ends 10 = .ok (.if_icmp .ge 36, 3) := by decide +kernel
theorem dX1_ends_13 : decode cX1_ends 13 = .ok (.aload_n 0, 1) := by decide +kernel
theorem dX1_ends_14 : decode cX1_ends 14 = .ok (.getfield 23, 3) := by decide +kernel
theorem dX1_ends_17 : decode cX1_ends 17 = .ok (.iload_n 3, 1) := by decide +kernel
theorem dX1_ends_18 : decode cX1_ends 18 = .ok (.aaload, 1) := by decide +kernel
theorem dX1_ends_19 : decode cX1_ends 19 = .ok (.getfield 35, 3) := by decide +kernel
theorem dX1_ends_22 : decode cX1_ends 22 = .ok (.ifCond .eq 18, 3) := by decide +kernel
theorem dX1_ends_25 : decode cX1_ends 25 = .ok (.iload_n 2, 1) := by decide +kernel
theorem dX1_ends_26 : decode cX1_ends 26 = .ok (.iconst 1, 1) := by decide +kernel
theorem dX1_ends_27 : decode cX1_ends 27 = .ok (.aload_n 0, 1) := by decide +kernel
theorem dX1_ends_28 : decode cX1_ends 28 = .ok (.getfield 23, 3) := by decide +kernel
theorem dX1_ends_31 : decode cX1_ends 31 = .ok (.iload_n 3, 1) := by decide +kernel
theorem dX1_ends_32 : decode cX1_ends 32 = .ok (.aaload, 1) := by decide +kernel
theorem dX1_ends_33 : decode cX1_ends 33 = .ok (.iload_n 1, 1) := by decide +kernel
theorem dX1_ends_34 : decode cX1_ends 34 = .ok (.invokevirtual 50, 3) := by decide +kernel
theorem dX1_ends_37 : decode cX1_ends 37 = .ok (.ishl, 1) := by decide +kernel
theorem dX1_ends_38 : decode cX1_ends 38 = .ok (.ior, 1) := by decide +kernel
theorem dX1_ends_39 : decode cX1_ends 39 = .ok (.istore_n 2, 1) := by decide +kernel
theorem dX1_ends_40 : decode cX1_ends 40 = .ok (.iinc 3 1, 3) := by decide +kernel
theorem dX1_ends_43 : decode cX1_ends 43 = .ok (.goto (-39), 3) := by decide +kernel
theorem dX1_ends_46 : decode cX1_ends 46 = .ok (.iload_n 2, 1) := by decide +kernel
theorem dX1_ends_47 : decode cX1_ends 47 = .ok (.ireturn, 1) := by decide +kernel
theorem dX1_isPlanWith_0 : decode cX1_isPlanWith 0 = .ok (.aload_n 0, 1) := by decide +kernel
theorem dX1_isPlanWith_1 : decode cX1_isPlanWith 1 = .ok (.aload_n 1, 1) := by decide +kernel
theorem dX1_isPlanWith_2 : decode cX1_isPlanWith 2 = .ok (.getfield 60, 3) := by decide +kernel
theorem dX1_isPlanWith_5 : decode cX1_isPlanWith 5 = .ok (.aload_n 1, 1) := by decide +kernel
theorem dX1_isPlanWith_6 : decode cX1_isPlanWith 6 = .ok (.getfield 63, 3) := by decide +kernel
theorem dX1_isPlanWith_9 : decode cX1_isPlanWith 9 = .ok (.iadd, 1) := by decide +kernel
theorem dX1_isPlanWith_10 : decode cX1_isPlanWith 10 = .ok (.aload_n 1, 1) := by decide +kernel
theorem dX1_isPlanWith_11 : decode cX1_isPlanWith 11 = .ok (.getfield 66, 3) := by decide +kernel
theorem dX1_isPlanWith_14 : decode cX1_isPlanWith 14 = .ok (.aload_n 1, 1) := by decide +kernel
theorem dX1_isPlanWith_15 : decode cX1_isPlanWith 15 = .ok (.getfield 69, 3) := by decide +kernel
theorem dX1_isPlanWith_18 : decode cX1_isPlanWith 18 = .ok (.iadd, 1) := by decide +kernel
theorem dX1_isPlanWith_19 : decode cX1_isPlanWith 19 = .ok (.aload_n 1, 1) := by decide +kernel
theorem dX1_isPlanWith_20 : decode cX1_isPlanWith 20 = .ok (.getfield 72, 3) := by decide +kernel
theorem dX1_isPlanWith_23 : decode cX1_isPlanWith 23 = .ok (.aload_n 1, 1) := by decide +kernel
theorem dX1_isPlanWith_24 : decode cX1_isPlanWith 24 = .ok (.getfield 75, 3) := by decide +kernel
theorem dX1_isPlanWith_27 : decode cX1_isPlanWith 27 = .ok (.iadd, 1) := by decide +kernel
theorem dX1_isPlanWith_28 : decode cX1_isPlanWith 28 = .ok (.invokevirtual 78, 3) := by decide +kernel
theorem dX1_isPlanWith_31 : decode cX1_isPlanWith 31 = .ok (.ifCond .eq 39, 3) := by decide +kernel
theorem dX1_isPlanWith_34 : decode cX1_isPlanWith 34 = .ok (.aload_n 0, 1) := by decide +kernel
theorem dX1_isPlanWith_35 : decode cX1_isPlanWith 35 = .ok (.aload_n 1, 1) := by decide +kernel
theorem dX1_isPlanWith_36 : decode cX1_isPlanWith 36 = .ok (.invokevirtual 81, 3) := by decide +kernel
theorem dX1_isPlanWith_39 : decode cX1_isPlanWith 39 = .ok (.ifCond .eq 31, 3) := by decide +kernel
theorem dX1_isPlanWith_42 : decode cX1_isPlanWith 42 = .ok (.bipush 100, 2) := by decide +kernel
theorem dX1_isPlanWith_44 : decode cX1_isPlanWith 44 = .ok (.aload_n 0, 1) := by decide +kernel
theorem dX1_isPlanWith_45 : decode cX1_isPlanWith 45 = .ok (.aload_n 1, 1) := by decide +kernel
theorem dX1_isPlanWith_46 : decode cX1_isPlanWith 46 = .ok (.invokevirtual 85, 3) := by decide +kernel
theorem dX1_isPlanWith_49 : decode cX1_isPlanWith 49 = .ok (.imul, 1) := by decide +kernel
theorem dX1_isPlanWith_50 : decode cX1_isPlanWith 50 = .ok (.iload_n 2, 1) := by decide +kernel
theorem dX1_isPlanWith_51 : decode cX1_isPlanWith 51 = .ok (.aload_n 1, 1) := by decide +kernel
theorem dX1_isPlanWith_52 : decode cX1_isPlanWith 52 = .ok (.invokevirtual 89, 3) := by decide +kernel
theorem dX1_isPlanWith_55 : decode cX1_isPlanWith 55 = .ok (.imul, 1) := by decide +kernel
theorem dX1_isPlanWith_56 : decode cX1_isPlanWith 56 = .ok (.if_icmp .lt 14, 3) := by decide +kernel
theorem dX1_isPlanWith_59 : decode cX1_isPlanWith 59 = .ok (.aload_n 0, 1) := by decide +kernel
theorem dX1_isPlanWith_60 : decode cX1_isPlanWith 60 = .ok (.invokevirtual 92, 3) := by decide +kernel
theorem dX1_isPlanWith_63 : decode cX1_isPlanWith 63 = .ok (.ifCond .eq 7, 3) := by decide +kernel
theorem dX1_isPlanWith_66 : decode cX1_isPlanWith 66 = .ok (.iconst 1, 1) := by decide +kernel
theorem dX1_isPlanWith_67 : decode cX1_isPlanWith 67 = .ok (.goto 4, 3) := by decide +kernel
theorem dX1_isPlanWith_70 : decode cX1_isPlanWith 70 = .ok (.iconst 0, 1) := by decide +kernel
theorem dX1_isPlanWith_71 : decode cX1_isPlanWith 71 = .ok (.ireturn, 1) := by decide +kernel
theorem dX1_hasRoomFor_0 : decode cX1_hasRoomFor 0 = .ok (.iconst 0, 1) := by decide +kernel
theorem dX1_hasRoomFor_1 : decode cX1_hasRoomFor 1 = .ok (.istore_n 2, 1) := by decide +kernel
theorem dX1_hasRoomFor_2 : decode cX1_hasRoomFor 2 = .ok (.iload_n 2, 1) := by decide +kernel
theorem dX1_hasRoomFor_3 : decode cX1_hasRoomFor 3 = .ok (.aload_n 0, 1) := by decide +kernel
theorem dX1_hasRoomFor_4 : decode cX1_hasRoomFor 4 = .ok (.getfield 23, 3) := by decide +kernel
theorem dX1_hasRoomFor_7 : decode cX1_hasRoomFor 7 = .ok (.arraylength, 1) := by decide +kernel
theorem dX1_hasRoomFor_8 : decode cX1_hasRoomFor 8 = .ok (.if_icmp .ge 46, 3) := by decide +kernel
theorem dX1_hasRoomFor_11 : decode cX1_hasRoomFor 11 = .ok (.aload_n 0, 1) := by decide +kernel
theorem dX1_hasRoomFor_12 : decode cX1_hasRoomFor 12 = .ok (.getfield 23, 3) := by decide +kernel
theorem dX1_hasRoomFor_15 : decode cX1_hasRoomFor 15 = .ok (.iload_n 2, 1) := by decide +kernel
theorem dX1_hasRoomFor_16 : decode cX1_hasRoomFor 16 = .ok (.aaload, 1) := by decide +kernel
theorem dX1_hasRoomFor_17 : decode cX1_hasRoomFor 17 = .ok (.getfield 35, 3) := by decide +kernel
theorem dX1_hasRoomFor_20 : decode cX1_hasRoomFor 20 = .ok (.ifCond .eq 28, 3) := by decide +kernel
theorem dX1_hasRoomFor_23 : decode cX1_hasRoomFor 23 = .ok (.aload_n 0, 1) := by decide +kernel
theorem dX1_hasRoomFor_24 : decode cX1_hasRoomFor 24 = .ok (.getfield 23, 3) := by decide +kernel
theorem dX1_hasRoomFor_27 : decode cX1_hasRoomFor 27 = .ok (.iload_n 2, 1) := by decide +kernel
theorem dX1_hasRoomFor_28 : decode cX1_hasRoomFor 28 = .ok (.aaload, 1) := by decide +kernel
theorem dX1_hasRoomFor_29 : decode cX1_hasRoomFor 29 = .ok (.aload_n 1, 1) := by decide +kernel
theorem dX1_hasRoomFor_30 : decode cX1_hasRoomFor 30 = .ok (.if_acmp .eq 18, 3) := by decide +kernel
theorem dX1_hasRoomFor_33 : decode cX1_hasRoomFor 33 = .ok (.aload_n 0, 1) := by decide +kernel
theorem dX1_hasRoomFor_34 : decode cX1_hasRoomFor 34 = .ok (.getfield 23, 3) := by decide +kernel
theorem dX1_hasRoomFor_37 : decode cX1_hasRoomFor 37 = .ok (.iload_n 2, 1) := by decide +kernel
theorem dX1_hasRoomFor_38 : decode cX1_hasRoomFor 38 = .ok (.aaload, 1) := by decide +kernel
theorem dX1_hasRoomFor_39 : decode cX1_hasRoomFor 39 = .ok (.aload_n 1, 1) := by decide +kernel
theorem dX1_hasRoomFor_40 : decode cX1_hasRoomFor 40 = .ok (.invokevirtual 96, 3) := by decide +kernel
theorem dX1_hasRoomFor_43 : decode cX1_hasRoomFor 43 = .ok (.ifCond .eq 5, 3) := by decide +kernel
theorem dX1_hasRoomFor_46 : decode cX1_hasRoomFor 46 = .ok (.iconst 0, 1) := by decide +kernel
theorem dX1_hasRoomFor_47 : decode cX1_hasRoomFor 47 = .ok (.ireturn, 1) := by decide +kernel
theorem dX1_hasRoomFor_48 : decode cX1_hasRoomFor 48 = .ok (.iinc 2 1, 3) := by decide +kernel
theorem dX1_hasRoomFor_51 : decode cX1_hasRoomFor 51 = .ok (.goto (-49), 3) := by decide +kernel
theorem dX1_hasRoomFor_54 : decode cX1_hasRoomFor 54 = .ok (.iconst 1, 1) := by decide +kernel
theorem dX1_hasRoomFor_55 : decode cX1_hasRoomFor 55 = .ok (.ireturn, 1) := by decide +kernel
theorem dX1_supportOf_0 : decode cX1_supportOf 0 = .ok (.aload_n 1, 1) := by decide +kernel
theorem dX1_supportOf_1 : decode cX1_supportOf 1 = .ok (.getfield 72, 3) := by decide +kernel
theorem dX1_supportOf_4 : decode cX1_supportOf 4 = .ok (.ifCond .ne 8, 3) := by decide +kernel
theorem dX1_supportOf_7 : decode cX1_supportOf 7 = .ok (.aload_n 1, 1) := by decide +kernel
theorem dX1_supportOf_8 : decode cX1_supportOf 8 = .ok (.invokevirtual 89, 3) := by decide +kernel
theorem dX1_supportOf_11 : decode cX1_supportOf 11 = .ok (.ireturn, 1) := by decide +kernel
theorem dX1_supportOf_12 : decode cX1_supportOf 12 = .ok (.iconst 0, 1) := by decide +kernel
theorem dX1_supportOf_13 : decode cX1_supportOf 13 = .ok (.istore_n 2, 1) := by decide +kernel
theorem dX1_supportOf_14 : decode cX1_supportOf 14 = .ok (.iconst 0, 1) := by decide +kernel
theorem dX1_supportOf_15 : decode cX1_supportOf 15 = .ok (.istore_n 3, 1) := by decide +kernel
theorem dX1_supportOf_16 : decode cX1_supportOf 16 = .ok (.iload_n 3, 1) := by decide +kernel
theorem dX1_supportOf_17 : decode cX1_supportOf 17 = .ok (.aload_n 0, 1) := by decide +kernel
theorem dX1_supportOf_18 : decode cX1_supportOf 18 = .ok (.getfield 23, 3) := by decide +kernel
theorem dX1_supportOf_21 : decode cX1_supportOf 21 = .ok (.arraylength, 1) := by decide +kernel
theorem dX1_supportOf_22 : decode cX1_supportOf 22 = .ok (.if_icmp .ge 47, 3) := by decide +kernel
theorem dX1_supportOf_25 : decode cX1_supportOf 25 = .ok (.aload_n 0, 1) := by decide +kernel
theorem dX1_supportOf_26 : decode cX1_supportOf 26 = .ok (.getfield 23, 3) := by decide +kernel
theorem dX1_supportOf_29 : decode cX1_supportOf 29 = .ok (.iload_n 3, 1) := by decide +kernel
theorem dX1_supportOf_30 : decode cX1_supportOf 30 = .ok (.aaload, 1) := by decide +kernel
theorem dX1_supportOf_31 : decode cX1_supportOf 31 = .ok (.getfield 35, 3) := by decide +kernel
theorem dX1_supportOf_34 : decode cX1_supportOf 34 = .ok (.ifCond .eq 29, 3) := by decide +kernel
theorem dX1_supportOf_37 : decode cX1_supportOf 37 = .ok (.aload_n 1, 1) := by decide +kernel
theorem dX1_supportOf_38 : decode cX1_supportOf 38 = .ok (.aload_n 0, 1) := by decide +kernel
theorem dX1_supportOf_39 : decode cX1_supportOf 39 = .ok (.getfield 23, 3) := by decide +kernel
theorem dX1_supportOf_42 : decode cX1_supportOf 42 = .ok (.iload_n 3, 1) := by decide +kernel
theorem dX1_supportOf_43 : decode cX1_supportOf 43 = .ok (.aaload, 1) := by decide +kernel
theorem dX1_supportOf_44 : decode cX1_supportOf 44 = .ok (.invokevirtual 99, 3) := by decide +kernel
theorem dX1_supportOf_47 : decode cX1_supportOf 47 = .ok (.ifCond .eq 16, 3) := by decide +kernel
theorem dX1_supportOf_50 : decode cX1_supportOf 50 = .ok (.iload_n 2, 1) := by decide +kernel
theorem dX1_supportOf_51 : decode cX1_supportOf 51 = .ok (.aload_n 1, 1) := by decide +kernel
theorem dX1_supportOf_52 : decode cX1_supportOf 52 = .ok (.aload_n 0, 1) := by decide +kernel
theorem dX1_supportOf_53 : decode cX1_supportOf 53 = .ok (.getfield 23, 3) := by decide +kernel
theorem dX1_supportOf_56 : decode cX1_supportOf 56 = .ok (.iload_n 3, 1) := by decide +kernel
theorem dX1_supportOf_57 : decode cX1_supportOf 57 = .ok (.aaload, 1) := by decide +kernel
theorem dX1_supportOf_58 : decode cX1_supportOf 58 = .ok (.invokevirtual 102, 3) := by decide +kernel
theorem dX1_supportOf_61 : decode cX1_supportOf 61 = .ok (.iadd, 1) := by decide +kernel
theorem dX1_supportOf_62 : decode cX1_supportOf 62 = .ok (.istore_n 2, 1) := by decide +kernel
theorem dX1_supportOf_63 : decode cX1_supportOf 63 = .ok (.iinc 3 1, 3) := by decide +kernel
theorem dX1_supportOf_66 : decode cX1_supportOf 66 = .ok (.goto (-50), 3) := by decide +kernel
theorem dX1_supportOf_69 : decode cX1_supportOf 69 = .ok (.iload_n 2, 1) := by decide +kernel
theorem dX1_supportOf_70 : decode cX1_supportOf 70 = .ok (.ireturn, 1) := by decide +kernel
theorem dX1_weightsAreBorne_0 : decode cX1_weightsAreBorne 0 = .ok (.aload_n 0, 1) := by decide +kernel
theorem dX1_weightsAreBorne_1 : decode cX1_weightsAreBorne 1 = .ok (.invokevirtual 105, 3) := by decide +kernel
theorem dX1_weightsAreBorne_4 : decode cX1_weightsAreBorne 4 = .ok (.iconst 0, 1) := by decide +kernel
theorem dX1_weightsAreBorne_5 : decode cX1_weightsAreBorne 5 = .ok (.istore_n 1, 1) := by decide +kernel
theorem dX1_weightsAreBorne_6 : decode cX1_weightsAreBorne 6 = .ok (.iload_n 1, 1) := by decide +kernel
theorem dX1_weightsAreBorne_7 : decode cX1_weightsAreBorne 7 = .ok (.aload_n 0, 1) := by decide +kernel
theorem dX1_weightsAreBorne_8 : decode cX1_weightsAreBorne 8 = .ok (.getfield 23, 3) := by decide +kernel
theorem dX1_weightsAreBorne_11 : decode cX1_weightsAreBorne 11 = .ok (.arraylength, 1) := by decide +kernel
theorem dX1_weightsAreBorne_12 : decode cX1_weightsAreBorne 12 = .ok (.if_icmp .ge 58, 3) := by decide +kernel
theorem dX1_weightsAreBorne_15 : decode cX1_weightsAreBorne 15 = .ok (.aload_n 0, 1) := by decide +kernel
theorem dX1_weightsAreBorne_16 : decode cX1_weightsAreBorne 16 = .ok (.getfield 23, 3) := by decide +kernel
theorem dX1_weightsAreBorne_19 : decode cX1_weightsAreBorne 19 = .ok (.iload_n 1, 1) := by decide +kernel
theorem dX1_weightsAreBorne_20 : decode cX1_weightsAreBorne 20 = .ok (.aaload, 1) := by decide +kernel
theorem dX1_weightsAreBorne_21 : decode cX1_weightsAreBorne 21 = .ok (.getfield 35, 3) := by decide +kernel
theorem dX1_weightsAreBorne_24 : decode cX1_weightsAreBorne 24 = .ok (.ifCond .eq 40, 3) := by decide +kernel
theorem dX1_weightsAreBorne_27 : decode cX1_weightsAreBorne 27 = .ok (.aload_n 0, 1) := by decide +kernel
theorem dX1_weightsAreBorne_28 : decode cX1_weightsAreBorne 28 = .ok (.getfield 23, 3) := by decide +kernel
theorem dX1_weightsAreBorne_31 : decode cX1_weightsAreBorne 31 = .ok (.iload_n 1, 1) := by decide +kernel
theorem dX1_weightsAreBorne_32 : decode cX1_weightsAreBorne 32 = .ok (.aaload, 1) := by decide +kernel
theorem dX1_weightsAreBorne_33 : decode cX1_weightsAreBorne 33 = .ok (.getfield 108, 3) := by decide +kernel
theorem dX1_weightsAreBorne_36 : decode cX1_weightsAreBorne 36 = .ok (.iconst (-1), 1) := by decide +kernel
theorem dX1_weightsAreBorne_37 : decode cX1_weightsAreBorne 37 = .ok (.if_icmp .eq 27, 3) := by decide +kernel
theorem dX1_weightsAreBorne_40 : decode cX1_weightsAreBorne 40 = .ok (.aload_n 0, 1) := by decide +kernel
theorem dX1_weightsAreBorne_41 : decode cX1_weightsAreBorne 41 = .ok (.aload_n 0, 1) := by decide +kernel
theorem dX1_weightsAreBorne_42 : decode cX1_weightsAreBorne 42 = .ok (.getfield 23, 3) := by decide +kernel
theorem dX1_weightsAreBorne_45 : decode cX1_weightsAreBorne 45 = .ok (.iload_n 1, 1) := by decide +kernel
theorem dX1_weightsAreBorne_46 : decode cX1_weightsAreBorne 46 = .ok (.aaload, 1) := by decide +kernel
theorem dX1_weightsAreBorne_47 : decode cX1_weightsAreBorne 47 = .ok (.invokevirtual 111, 3) := by decide +kernel
theorem dX1_weightsAreBorne_50 : decode cX1_weightsAreBorne 50 = .ok (.aload_n 0, 1) := by decide +kernel
theorem dX1_weightsAreBorne_51 : decode cX1_weightsAreBorne 51 = .ok (.getfield 23, 3) := by decide +kernel
theorem dX1_weightsAreBorne_54 : decode cX1_weightsAreBorne 54 = .ok (.iload_n 1, 1) := by decide +kernel
theorem dX1_weightsAreBorne_55 : decode cX1_weightsAreBorne 55 = .ok (.aaload, 1) := by decide +kernel
theorem dX1_weightsAreBorne_56 : decode cX1_weightsAreBorne 56 = .ok (.getfield 108, 3) := by decide +kernel
theorem dX1_weightsAreBorne_59 : decode cX1_weightsAreBorne 59 = .ok (.if_icmp .le 5, 3) := by decide +kernel
theorem dX1_weightsAreBorne_62 : decode cX1_weightsAreBorne 62 = .ok (.iconst 0, 1) := by decide +kernel
theorem dX1_weightsAreBorne_63 : decode cX1_weightsAreBorne 63 = .ok (.ireturn, 1) := by decide +kernel
theorem dX1_weightsAreBorne_64 : decode cX1_weightsAreBorne 64 = .ok (.iinc 1 1, 3) := by decide +kernel
theorem dX1_weightsAreBorne_67 : decode cX1_weightsAreBorne 67 = .ok (.goto (-61), 3) := by decide +kernel
theorem dX1_weightsAreBorne_70 : decode cX1_weightsAreBorne 70 = .ok (.iconst 1, 1) := by decide +kernel
theorem dX1_weightsAreBorne_71 : decode cX1_weightsAreBorne 71 = .ok (.ireturn, 1) := by decide +kernel
theorem dX1_noteStanders_0 : decode cX1_noteStanders 0 = .ok (.iconst 0, 1) := by decide +kernel
theorem dX1_noteStanders_1 : decode cX1_noteStanders 1 = .ok (.istore_n 1, 1) := by decide +kernel
theorem dX1_noteStanders_2 : decode cX1_noteStanders 2 = .ok (.iload_n 1, 1) := by decide +kernel
theorem dX1_noteStanders_3 : decode cX1_noteStanders 3 = .ok (.aload_n 0, 1) := by decide +kernel
theorem dX1_noteStanders_4 : decode cX1_noteStanders 4 = .ok (.getfield 23, 3) := by decide +kernel
theorem dX1_noteStanders_7 : decode cX1_noteStanders 7 = .ok (.arraylength, 1) := by decide +kernel
theorem dX1_noteStanders_8 : decode cX1_noteStanders 8 = .ok (.if_icmp .ge 95, 3) := by decide +kernel
theorem dX1_noteStanders_11 : decode cX1_noteStanders 11 = .ok (.aload_n 0, 1) := by decide +kernel
theorem dX1_noteStanders_12 : decode cX1_noteStanders 12 = .ok (.getfield 23, 3) := by decide +kernel
theorem dX1_noteStanders_15 : decode cX1_noteStanders 15 = .ok (.iload_n 1, 1) := by decide +kernel
theorem dX1_noteStanders_16 : decode cX1_noteStanders 16 = .ok (.aaload, 1) := by decide +kernel
theorem dX1_noteStanders_17 : decode cX1_noteStanders 17 = .ok (.iconst 0, 1) := by decide +kernel
theorem dX1_noteStanders_18 : decode cX1_noteStanders 18 = .ok (.putfield 114, 3) := by decide +kernel
theorem dX1_noteStanders_21 : decode cX1_noteStanders 21 = .ok (.iconst 0, 1) := by decide +kernel
theorem dX1_noteStanders_22 : decode cX1_noteStanders 22 = .ok (.istore_n 2, 1) := by decide +kernel
theorem dX1_noteStanders_23 : decode cX1_noteStanders 23 = .ok (.iload_n 2, 1) := by decide +kernel
theorem dX1_noteStanders_24 : decode cX1_noteStanders 24 = .ok (.aload_n 0, 1) := by decide +kernel
theorem dX1_noteStanders_25 : decode cX1_noteStanders 25 = .ok (.getfield 23, 3) := by decide +kernel
theorem dX1_noteStanders_28 : decode cX1_noteStanders 28 = .ok (.arraylength, 1) := by decide +kernel
theorem dX1_noteStanders_29 : decode cX1_noteStanders 29 = .ok (.if_icmp .ge 68, 3) := by decide +kernel
theorem dX1_noteStanders_32 : decode cX1_noteStanders 32 = .ok (.aload_n 0, 1) := by decide +kernel
theorem dX1_noteStanders_33 : decode cX1_noteStanders 33 = .ok (.getfield 23, 3) := by decide +kernel
theorem dX1_noteStanders_36 : decode cX1_noteStanders 36 = .ok (.iload_n 1, 1) := by decide +kernel
theorem dX1_noteStanders_37 : decode cX1_noteStanders 37 = .ok (.aaload, 1) := by decide +kernel
theorem dX1_noteStanders_38 : decode cX1_noteStanders 38 = .ok (.getfield 35, 3) := by decide +kernel
theorem dX1_noteStanders_41 : decode cX1_noteStanders 41 = .ok (.ifCond .eq 56, 3) := by decide +kernel
theorem dX1_noteStanders_44 : decode cX1_noteStanders 44 = .ok (.aload_n 0, 1) := by decide +kernel
theorem dX1_noteStanders_45 : decode cX1_noteStanders 45 = .ok (.getfield 23, 3) := by decide +kernel
theorem dX1_noteStanders_48 : decode cX1_noteStanders 48 = .ok (.iload_n 2, 1) := by decide +kernel
theorem dX1_noteStanders_49 : decode cX1_noteStanders 49 = .ok (.aaload, 1) := by decide +kernel
theorem dX1_noteStanders_50 : decode cX1_noteStanders 50 = .ok (.getfield 35, 3) := by decide +kernel
theorem dX1_noteStanders_53 : decode cX1_noteStanders 53 = .ok (.ifCond .eq 38, 3) := by decide +kernel
theorem dX1_noteStanders_56 : decode cX1_noteStanders 56 = .ok (.aload_n 0, 1) := by decide +kernel
theorem dX1_noteStanders_57 : decode cX1_noteStanders 57 = .ok (.getfield 23, 3) := by decide +kernel
theorem dX1_noteStanders_60 : decode cX1_noteStanders 60 = .ok (.iload_n 2, 1) := by decide +kernel
theorem dX1_noteStanders_61 : decode cX1_noteStanders 61 = .ok (.aaload, 1) := by decide +kernel
theorem dX1_noteStanders_62 : decode cX1_noteStanders 62 = .ok (.aload_n 0, 1) := by decide +kernel
theorem dX1_noteStanders_63 : decode cX1_noteStanders 63 = .ok (.getfield 23, 3) := by decide +kernel
theorem dX1_noteStanders_66 : decode cX1_noteStanders 66 = .ok (.iload_n 1, 1) := by decide +kernel
theorem dX1_noteStanders_67 : decode cX1_noteStanders 67 = .ok (.aaload, 1) := by decide +kernel
theorem dX1_noteStanders_68 : decode cX1_noteStanders 68 = .ok (.invokevirtual 99, 3) := by decide +kernel
theorem dX1_noteStanders_71 : decode cX1_noteStanders 71 = .ok (.ifCond .eq 20, 3) := by decide +kernel
theorem dX1_noteStanders_74 : decode cX1_noteStanders 74 = .ok (.aload_n 0, 1) := by decide +kernel
theorem dX1_noteStanders_75 : decode cX1_noteStanders 75 = .ok (.getfield 23, 3) := by decide +kernel
theorem dX1_noteStanders_78 : decode cX1_noteStanders 78 = .ok (.iload_n 1, 1) := by decide +kernel
theorem dX1_noteStanders_79 : decode cX1_noteStanders 79 = .ok (.aaload, 1) := by decide +kernel
theorem dX1_noteStanders_80 : decode cX1_noteStanders 80 = .ok (.dup, 1) := by decide +kernel
theorem dX1_noteStanders_81 : decode cX1_noteStanders 81 = .ok (.getfield 114, 3) := by decide +kernel
theorem dX1_noteStanders_84 : decode cX1_noteStanders 84 = .ok (.iconst 1, 1) := by decide +kernel
theorem dX1_noteStanders_85 : decode cX1_noteStanders 85 = .ok (.iload_n 2, 1) := by decide +kernel
theorem dX1_noteStanders_86 : decode cX1_noteStanders 86 = .ok (.ishl, 1) := by decide +kernel
theorem dX1_noteStanders_87 : decode cX1_noteStanders 87 = .ok (.ior, 1) := by decide +kernel
theorem dX1_noteStanders_88 : decode cX1_noteStanders 88 = .ok (.putfield 114, 3) := by decide +kernel
theorem dX1_noteStanders_91 : decode cX1_noteStanders 91 = .ok (.iinc 2 1, 3) := by decide +kernel
theorem dX1_noteStanders_94 : decode cX1_noteStanders 94 = .ok (.goto (-71), 3) := by decide +kernel
theorem dX1_noteStanders_97 : decode cX1_noteStanders 97 = .ok (.iinc 1 1, 3) := by decide +kernel
theorem dX1_noteStanders_100 : decode cX1_noteStanders 100 = .ok (.goto (-98), 3) := by decide +kernel
theorem dX1_noteStanders_103 : decode cX1_noteStanders 103 = .ok (.return_, 1) := by decide +kernel
theorem dX1_weightOn_0 : decode cX1_weightOn 0 = .ok (.aload_n 1, 1) := by decide +kernel
theorem dX1_weightOn_1 : decode cX1_weightOn 1 = .ok (.getfield 114, 3) := by decide +kernel
theorem dX1_weightOn_4 : decode cX1_weightOn 4 = .ok (.istore_n 2, 1) := by decide +kernel
theorem dX1_weightOn_5 : decode cX1_weightOn 5 = .ok (.iconst 0, 1) := by decide +kernel
theorem dX1_weightOn_6 : decode cX1_weightOn 6 = .ok (.istore_n 3, 1) := by decide +kernel
theorem dX1_weightOn_7 : decode cX1_weightOn 7 = .ok (.iconst 0, 1) := by decide +kernel
theorem dX1_weightOn_8 : decode cX1_weightOn 8 = .ok (.istore 4, 2) := by decide +kernel
theorem dX1_weightOn_10 : decode cX1_weightOn 10 = .ok (.iload 4, 2) := by decide +kernel
theorem dX1_weightOn_12 : decode cX1_weightOn 12 = .ok (.aload_n 0, 1) := by decide +kernel
theorem dX1_weightOn_13 : decode cX1_weightOn 13 = .ok (.getfield 23, 3) := by decide +kernel
theorem dX1_weightOn_16 : decode cX1_weightOn 16 = .ok (.arraylength, 1) := by decide +kernel
theorem dX1_weightOn_17 : decode cX1_weightOn 17 = .ok (.if_icmp .ge 57, 3) := by decide +kernel
theorem dX1_weightOn_20 : decode cX1_weightOn 20 = .ok (.iload_n 3, 1) := by decide +kernel
theorem dX1_weightOn_21 : decode cX1_weightOn 21 = .ok (.iload_n 2, 1) := by decide +kernel
theorem dX1_weightOn_22 : decode cX1_weightOn 22 = .ok (.if_icmp .eq 52, 3) := by decide +kernel
theorem dX1_weightOn_25 : decode cX1_weightOn 25 = .ok (.iload_n 2, 1) := by decide +kernel
theorem dX1_weightOn_26 : decode cX1_weightOn 26 = .ok (.istore_n 3, 1) := by decide +kernel
theorem dX1_weightOn_27 : decode cX1_weightOn 27 = .ok (.iconst 0, 1) := by decide +kernel
theorem dX1_weightOn_28 : decode cX1_weightOn 28 = .ok (.istore 5, 2) := by decide +kernel
theorem dX1_weightOn_30 : decode cX1_weightOn 30 = .ok (.iload 5, 2) := by decide +kernel
theorem dX1_weightOn_32 : decode cX1_weightOn 32 = .ok (.aload_n 0, 1) := by decide +kernel
theorem dX1_weightOn_33 : decode cX1_weightOn 33 = .ok (.getfield 23, 3) := by decide +kernel
theorem dX1_weightOn_36 : decode cX1_weightOn 36 = .ok (.arraylength, 1) := by decide +kernel
theorem dX1_weightOn_37 : decode cX1_weightOn 37 = .ok (.if_icmp .ge 31, 3) := by decide +kernel
theorem dX1_weightOn_40 : decode cX1_weightOn 40 = .ok (.iload_n 2, 1) := by decide +kernel
theorem dX1_weightOn_41 : decode cX1_weightOn 41 = .ok (.iload 5, 2) := by decide +kernel
theorem dX1_weightOn_43 : decode cX1_weightOn 43 = .ok (.invokestatic 117, 3) := by decide +kernel
theorem dX1_weightOn_46 : decode cX1_weightOn 46 = .ok (.ifCond .eq 16, 3) := by decide +kernel
theorem dX1_weightOn_49 : decode cX1_weightOn 49 = .ok (.iload_n 2, 1) := by decide +kernel
theorem dX1_weightOn_50 : decode cX1_weightOn 50 = .ok (.aload_n 0, 1) := by decide +kernel
theorem dX1_weightOn_51 : decode cX1_weightOn 51 = .ok (.getfield 23, 3) := by decide +kernel
theorem dX1_weightOn_54 : decode cX1_weightOn 54 = .ok (.iload 5, 2) := by decide +kernel
theorem dX1_weightOn_56 : decode cX1_weightOn 56 = .ok (.aaload, 1) := by decide +kernel
theorem dX1_weightOn_57 : decode cX1_weightOn 57 = .ok (.getfield 114, 3) := by decide +kernel
theorem dX1_weightOn_60 : decode cX1_weightOn 60 = .ok (.ior, 1) := by decide +kernel
theorem dX1_weightOn_61 : decode cX1_weightOn 61 = .ok (.istore_n 2, 1) := by decide +kernel
theorem dX1_weightOn_62 : decode cX1_weightOn 62 = .ok (.iinc 5 1, 3) := by decide +kernel
theorem dX1_weightOn_65 : decode cX1_weightOn 65 = .ok (.goto (-35), 3) := by decide +kernel
theorem dX1_weightOn_68 : decode cX1_weightOn 68 = .ok (.iinc 4 1, 3) := by decide +kernel
theorem dX1_weightOn_71 : decode cX1_weightOn 71 = .ok (.goto (-61), 3) := by decide +kernel
theorem dX1_weightOn_74 : decode cX1_weightOn 74 = .ok (.iconst 0, 1) := by decide +kernel
theorem dX1_weightOn_75 : decode cX1_weightOn 75 = .ok (.istore 4, 2) := by decide +kernel
theorem dX1_weightOn_77 : decode cX1_weightOn 77 = .ok (.iconst 0, 1) := by decide +kernel
theorem dX1_weightOn_78 : decode cX1_weightOn 78 = .ok (.istore 5, 2) := by decide +kernel
theorem dX1_weightOn_80 : decode cX1_weightOn 80 = .ok (.iload 5, 2) := by decide +kernel
theorem dX1_weightOn_82 : decode cX1_weightOn 82 = .ok (.aload_n 0, 1) := by decide +kernel
theorem dX1_weightOn_83 : decode cX1_weightOn 83 = .ok (.getfield 23, 3) := by decide +kernel
theorem dX1_weightOn_86 : decode cX1_weightOn 86 = .ok (.arraylength, 1) := by decide +kernel
theorem dX1_weightOn_87 : decode cX1_weightOn 87 = .ok (.if_icmp .ge 33, 3) := by decide +kernel
theorem dX1_weightOn_90 : decode cX1_weightOn 90 = .ok (.iload_n 2, 1) := by decide +kernel
theorem dX1_weightOn_91 : decode cX1_weightOn 91 = .ok (.iload 5, 2) := by decide +kernel
theorem dX1_weightOn_93 : decode cX1_weightOn 93 = .ok (.invokestatic 117, 3) := by decide +kernel
theorem dX1_weightOn_96 : decode cX1_weightOn 96 = .ok (.ifCond .eq 18, 3) := by decide +kernel
theorem dX1_weightOn_99 : decode cX1_weightOn 99 = .ok (.iload 4, 2) := by decide +kernel
theorem dX1_weightOn_101 : decode cX1_weightOn 101 = .ok (.aload_n 0, 1) := by decide +kernel
theorem dX1_weightOn_102 : decode cX1_weightOn 102 = .ok (.getfield 23, 3) := by decide +kernel
theorem dX1_weightOn_105 : decode cX1_weightOn 105 = .ok (.iload 5, 2) := by decide +kernel
theorem dX1_weightOn_107 : decode cX1_weightOn 107 = .ok (.aaload, 1) := by decide +kernel
theorem dX1_weightOn_108 : decode cX1_weightOn 108 = .ok (.getfield 47, 3) := by decide +kernel
theorem dX1_weightOn_111 : decode cX1_weightOn 111 = .ok (.iadd, 1) := by decide +kernel
theorem dX1_weightOn_112 : decode cX1_weightOn 112 = .ok (.istore 4, 2) := by decide +kernel
theorem dX1_weightOn_114 : decode cX1_weightOn 114 = .ok (.iinc 5 1, 3) := by decide +kernel
theorem dX1_weightOn_117 : decode cX1_weightOn 117 = .ok (.goto (-37), 3) := by decide +kernel
theorem dX1_weightOn_120 : decode cX1_weightOn 120 = .ok (.iload 4, 2) := by decide +kernel
theorem dX1_weightOn_122 : decode cX1_weightOn 122 = .ok (.ireturn, 1) := by decide +kernel
