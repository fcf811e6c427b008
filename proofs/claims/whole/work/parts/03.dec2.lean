theorem dX10_blows_83 : decode cX10_blows 83 = .ok (.iload_n 2, 1) := by decide +kernel
theorem dX10_blows_84 : decode cX10_blows 84 = .ok (.iload 4, 2) := by decide +kernel
theorem dX10_blows_86 : decode cX10_blows 86 = .ok (.iastore, 1) := by decide +kernel
theorem dX10_blows_87 : decode cX10_blows 87 = .ok (.iload 6, 2) := by decide +kernel
theorem dX10_blows_89 : decode cX10_blows 89 = .ok (.ireturn, 1) := by decide +kernel
theorem dX10_swing_0 : decode cX10_swing 0 = .ok (.aload_n 0, 1) := by decide +kernel
theorem dX10_swing_1 : decode cX10_swing 1 = .ok (.iload_n 1, 1) := by decide +kernel
theorem dX10_swing_2 : decode cX10_swing 2 = .ok (.invokevirtual 161, 3) := by decide +kernel
theorem dX10_swing_5 : decode cX10_swing 5 = .ok (.ifCond .eq 16, 3) := by decide +kernel
theorem dX10_swing_8 : decode cX10_swing 8 = .ok (.iload_n 2, 1) := by decide +kernel
theorem dX10_swing_9 : decode cX10_swing 9 = .ok (.sipush (-359), 3) := by decide +kernel
theorem dX10_swing_12 : decode cX10_swing 12 = .ok (.sipush 359, 3) := by decide +kernel
theorem dX10_swing_15 : decode cX10_swing 15 = .ok (.invokestatic 118, 3) := by decide +kernel
theorem dX10_swing_18 : decode cX10_swing 18 = .ok (.ifCond .ne 5, 3) := by decide +kernel
theorem dX10_swing_21 : decode cX10_swing 21 = .ok (.iconst (-1), 1) := by decide +kernel
theorem dX10_swing_22 : decode cX10_swing 22 = .ok (.ireturn, 1) := by decide +kernel
theorem dX10_swing_23 : decode cX10_swing 23 = .ok (.aload_n 0, 1) := by decide +kernel
theorem dX10_swing_24 : decode cX10_swing 24 = .ok (.getfield 29, 3) := by decide +kernel
theorem dX10_swing_27 : decode cX10_swing 27 = .ok (.iload_n 1, 1) := by decide +kernel
theorem dX10_swing_28 : decode cX10_swing 28 = .ok (.aaload, 1) := by decide +kernel
theorem dX10_swing_29 : decode cX10_swing 29 = .ok (.iload_n 2, 1) := by decide +kernel
theorem dX10_swing_30 : decode cX10_swing 30 = .ok (.invokevirtual 173, 3) := by decide +kernel
theorem dX10_swing_33 : decode cX10_swing 33 = .ok (.iconst 1, 1) := by decide +kernel
theorem dX10_swing_34 : decode cX10_swing 34 = .ok (.ireturn, 1) := by decide +kernel
theorem dX10_tree_0 : decode cX10_tree 0 = .ok (.iload_n 1, 1) := by decide +kernel
theorem dX10_tree_1 : decode cX10_tree 1 = .ok (.sipush (-9000), 3) := by decide +kernel
theorem dX10_tree_4 : decode cX10_tree 4 = .ok (.sipush 9000, 3) := by decide +kernel
theorem dX10_tree_7 : decode cX10_tree 7 = .ok (.invokestatic 118, 3) := by decide +kernel
theorem dX10_tree_10 : decode cX10_tree 10 = .ok (.ifCond .eq 43, 3) := by decide +kernel
theorem dX10_tree_13 : decode cX10_tree 13 = .ok (.iload_n 2, 1) := by decide +kernel
theorem dX10_tree_14 : decode cX10_tree 14 = .ok (.sipush (-9000), 3) := by decide +kernel
theorem dX10_tree_17 : decode cX10_tree 17 = .ok (.sipush 9000, 3) := by decide +kernel
theorem dX10_tree_20 : decode cX10_tree 20 = .ok (.invokestatic 118, 3) := by decide +kernel
theorem dX10_tree_23 : decode cX10_tree 23 = .ok (.ifCond .eq 30, 3) := by decide +kernel
theorem dX10_tree_26 : decode cX10_tree 26 = .ok (.iload_n 3, 1) := by decide +kernel
theorem dX10_tree_27 : decode cX10_tree 27 = .ok (.iconst 1, 1) := by decide +kernel
theorem dX10_tree_28 : decode cX10_tree 28 = .ok (.sipush 500, 3) := by decide +kernel
theorem dX10_tree_31 : decode cX10_tree 31 = .ok (.invokestatic 118, 3) := by decide +kernel
theorem dX10_tree_34 : decode cX10_tree 34 = .ok (.ifCond .eq 19, 3) := by decide +kernel
theorem dX10_tree_37 : decode cX10_tree 37 = .ok (.iload 4, 2) := by decide +kernel
theorem dX10_tree_39 : decode cX10_tree 39 = .ok (.iconst 1, 1) := by decide +kernel
theorem dX10_tree_40 : decode cX10_tree 40 = .ok (.sipush 3000, 3) := by decide +kernel
theorem dX10_tree_43 : decode cX10_tree 43 = .ok (.invokestatic 118, 3) := by decide +kernel
theorem dX10_tree_46 : decode cX10_tree 46 = .ok (.ifCond .eq 7, 3) := by decide +kernel
theorem dX10_tree_49 : decode cX10_tree 49 = .ok (.iconst 1, 1) := by decide +kernel
theorem dX10_tree_50 : decode cX10_tree 50 = .ok (.goto 4, 3) := by decide +kernel
theorem dX10_tree_53 : decode cX10_tree 53 = .ok (.iconst 0, 1) := by decide +kernel
theorem dX10_tree_54 : decode cX10_tree 54 = .ok (.istore 5, 2) := by decide +kernel
theorem dX10_tree_56 : decode cX10_tree 56 = .ok (.iload 5, 2) := by decide +kernel
theorem dX10_tree_58 : decode cX10_tree 58 = .ok (.ifCond .ne 5, 3) := by decide +kernel
theorem dX10_tree_61 : decode cX10_tree 61 = .ok (.iconst (-1), 1) := by decide +kernel
theorem dX10_tree_62 : decode cX10_tree 62 = .ok (.ireturn, 1) := by decide +kernel
theorem dX10_tree_63 : decode cX10_tree 63 = .ok (.aload_n 0, 1) := by decide +kernel
theorem dX10_tree_64 : decode cX10_tree 64 = .ok (.getfield 44, 3) := by decide +kernel
theorem dX10_tree_67 : decode cX10_tree 67 = .ok (.iload_n 1, 1) := by decide +kernel
theorem dX10_tree_68 : decode cX10_tree 68 = .ok (.iload_n 2, 1) := by decide +kernel
theorem dX10_tree_69 : decode cX10_tree 69 = .ok (.iload_n 3, 1) := by decide +kernel
theorem dX10_tree_70 : decode cX10_tree 70 = .ok (.iload 4, 2) := by decide +kernel
theorem dX10_tree_72 : decode cX10_tree 72 = .ok (.invokevirtual 177, 3) := by decide +kernel
theorem dX10_tree_75 : decode cX10_tree 75 = .ok (.ireturn, 1) := by decide +kernel
theorem dX10_ring_0 : decode cX10_ring 0 = .ok (.iload_n 1, 1) := by decide +kernel
theorem dX10_ring_1 : decode cX10_ring 1 = .ok (.iconst 1, 1) := by decide +kernel
theorem dX10_ring_2 : decode cX10_ring 2 = .ok (.sipush 2000, 3) := by decide +kernel
theorem dX10_ring_5 : decode cX10_ring 5 = .ok (.invokestatic 118, 3) := by decide +kernel
theorem dX10_ring_8 : decode cX10_ring 8 = .ok (.ifCond .ne 5, 3) := by decide +kernel
theorem dX10_ring_11 : decode cX10_ring 11 = .ok (.iconst (-1), 1) := by decide +kernel
theorem dX10_ring_12 : decode cX10_ring 12 = .ok (.ireturn, 1) := by decide +kernel
theorem dX10_ring_13 : decode cX10_ring 13 = .ok (.aload_n 0, 1) := by decide +kernel
theorem dX10_ring_14 : decode cX10_ring 14 = .ok (.getfield 44, 3) := by decide +kernel
theorem dX10_ring_17 : decode cX10_ring 17 = .ok (.getfield 181, 3) := by decide +kernel
theorem dX10_ring_20 : decode cX10_ring 20 = .ok (.istore_n 2, 1) := by decide +kernel
theorem dX10_ring_21 : decode cX10_ring 21 = .ok (.aload_n 0, 1) := by decide +kernel
theorem dX10_ring_22 : decode cX10_ring 22 = .ok (.getfield 44, 3) := by decide +kernel
theorem dX10_ring_25 : decode cX10_ring 25 = .ok (.iload_n 1, 1) := by decide +kernel
theorem dX10_ring_26 : decode cX10_ring 26 = .ok (.putfield 181, 3) := by decide +kernel
theorem dX10_ring_29 : decode cX10_ring 29 = .ok (.iload_n 2, 1) := by decide +kernel
theorem dX10_ring_30 : decode cX10_ring 30 = .ok (.ireturn, 1) := by decide +kernel
theorem dX10_table_0 : decode cX10_table 0 = .ok (.iload_n 1, 1) := by decide +kernel
theorem dX10_table_1 : decode cX10_table 1 = .ok (.iconst 0, 1) := by decide +kernel
theorem dX10_table_2 : decode cX10_table 2 = .ok (.iconst 1, 1) := by decide +kernel
theorem dX10_table_3 : decode cX10_table 3 = .ok (.invokestatic 118, 3) := by decide +kernel
theorem dX10_table_6 : decode cX10_table 6 = .ok (.ifCond .eq 10, 3) := by decide +kernel
theorem dX10_table_9 : decode cX10_table 9 = .ok (.iload_n 2, 1) := by decide +kernel
theorem dX10_table_10 : decode cX10_table 10 = .ok (.invokestatic 164, 3) := by decide +kernel
theorem dX10_table_13 : decode cX10_table 13 = .ok (.ifCond .ne 7, 3) := by decide +kernel
theorem dX10_table_16 : decode cX10_table 16 = .ok (.sipush (-10001), 3) := by decide +kernel
theorem dX10_table_19 : decode cX10_table 19 = .ok (.ireturn, 1) := by decide +kernel
theorem dX10_table_20 : decode cX10_table 20 = .ok (.aload_n 0, 1) := by decide +kernel
theorem dX10_table_21 : decode cX10_table 21 = .ok (.getfield 13, 3) := by decide +kernel
theorem dX10_table_24 : decode cX10_table 24 = .ok (.iload_n 1, 1) := by decide +kernel
theorem dX10_table_25 : decode cX10_table 25 = .ok (.ifCond .ne 7, 3) := by decide +kernel
theorem dX10_table_28 : decode cX10_table 28 = .ok (.iload_n 2, 1) := by decide +kernel
theorem dX10_table_29 : decode cX10_table 29 = .ok (.goto 7, 3) := by decide +kernel
theorem dX10_table_32 : decode cX10_table 32 = .ok (.iload_n 2, 1) := by decide +kernel
theorem dX10_table_33 : decode cX10_table 33 = .ok (.bipush 90, 2) := by decide +kernel
theorem dX10_table_35 : decode cX10_table 35 = .ok (.iadd, 1) := by decide +kernel
theorem dX10_table_36 : decode cX10_table 36 = .ok (.iaload, 1) := by decide +kernel
theorem dX10_table_37 : decode cX10_table 37 = .ok (.ireturn, 1) := by decide +kernel
theorem dX10_fly_0 : decode cX10_fly 0 = .ok (.aload_n 0, 1) := by decide +kernel
theorem dX10_fly_1 : decode cX10_fly 1 = .ok (.iload_n 1, 1) := by decide +kernel
theorem dX10_fly_2 : decode cX10_fly 2 = .ok (.iload_n 2, 1) := by decide +kernel
theorem dX10_fly_3 : decode cX10_fly 3 = .ok (.iload_n 3, 1) := by decide +kernel
theorem dX10_fly_4 : decode cX10_fly 4 = .ok (.iload 4, 2) := by decide +kernel
theorem dX10_fly_6 : decode cX10_fly 6 = .ok (.iload 5, 2) := by decide +kernel
theorem dX10_fly_8 : decode cX10_fly 8 = .ok (.iload 6, 2) := by decide +kernel
theorem dX10_fly_10 : decode cX10_fly 10 = .ok (.invokevirtual 184, 3) := by decide +kernel
theorem dX10_fly_13 : decode cX10_fly 13 = .ok (.ifCond .ne 5, 3) := by decide +kernel
theorem dX10_fly_16 : decode cX10_fly 16 = .ok (.iconst (-1), 1) := by decide +kernel
theorem dX10_fly_17 : decode cX10_fly 17 = .ok (.ireturn, 1) := by decide +kernel
theorem dX10_fly_18 : decode cX10_fly 18 = .ok (.aload_n 0, 1) := by decide +kernel
theorem dX10_fly_19 : decode cX10_fly 19 = .ok (.getfield 63, 3) := by decide +kernel
theorem dX10_fly_22 : decode cX10_fly 22 = .ok (.iload_n 1, 1) := by decide +kernel
theorem dX10_fly_23 : decode cX10_fly 23 = .ok (.iload_n 2, 1) := by decide +kernel
theorem dX10_fly_24 : decode cX10_fly 24 = .ok (.iload_n 3, 1) := by decide +kernel
theorem dX10_fly_25 : decode cX10_fly 25 = .ok (.iload 4, 2) := by decide +kernel
theorem dX10_fly_27 : decode cX10_fly 27 = .ok (.iload 5, 2) := by decide +kernel
theorem dX10_fly_29 : decode cX10_fly 29 = .ok (.iload 6, 2) := by decide +kernel
theorem dX10_fly_31 : decode cX10_fly 31 = .ok (.invokevirtual 188, 3) := by decide +kernel
theorem dX10_fly_34 : decode cX10_fly 34 = .ok (.aload_n 0, 1) := by decide +kernel
theorem dX10_fly_35 : decode cX10_fly 35 = .ok (.aload_n 0, 1) := by decide +kernel
theorem dX10_fly_36 : decode cX10_fly 36 = .ok (.getfield 53, 3) := by decide +kernel
theorem dX10_fly_39 : decode cX10_fly 39 = .ok (.aload_n 0, 1) := by decide +kernel
theorem dX10_fly_40 : decode cX10_fly 40 = .ok (.getfield 63, 3) := by decide +kernel
theorem dX10_fly_43 : decode cX10_fly 43 = .ok (.aload_n 0, 1) := by decide +kernel
theorem dX10_fly_44 : decode cX10_fly 44 = .ok (.getfield 19, 3) := by decide +kernel
theorem dX10_fly_47 : decode cX10_fly 47 = .ok (.iload_n 1, 1) := by decide +kernel
theorem dX10_fly_48 : decode cX10_fly 48 = .ok (.aaload, 1) := by decide +kernel
theorem dX10_fly_49 : decode cX10_fly 49 = .ok (.getfield 136, 3) := by decide +kernel
theorem dX10_fly_52 : decode cX10_fly 52 = .ok (.invokevirtual 192, 3) := by decide +kernel
theorem dX10_fly_55 : decode cX10_fly 55 = .ok (.ireturn, 1) := by decide +kernel
theorem dX10_at_0 : decode cX10_at 0 = .ok (.aload_n 0, 1) := by decide +kernel
theorem dX10_at_1 : decode cX10_at 1 = .ok (.iload_n 1, 1) := by decide +kernel
theorem dX10_at_2 : decode cX10_at 2 = .ok (.invokevirtual 196, 3) := by decide +kernel
theorem dX10_at_5 : decode cX10_at 5 = .ok (.ifCond .eq 13, 3) := by decide +kernel
theorem dX10_at_8 : decode cX10_at 8 = .ok (.iload_n 2, 1) := by decide +kernel
theorem dX10_at_9 : decode cX10_at 9 = .ok (.iconst 0, 1) := by decide +kernel
theorem dX10_at_10 : decode cX10_at 10 = .ok (.bipush 7, 2) := by decide +kernel
theorem dX10_at_12 : decode cX10_at 12 = .ok (.invokestatic 118, 3) := by decide +kernel
theorem dX10_at_15 : decode cX10_at 15 = .ok (.ifCond .ne 6, 3) := by decide +kernel
theorem dX10_at_18 : decode cX10_at 18 = .ok (.ldc 199, 2) := by decide +kernel
theorem dX10_at_20 : decode cX10_at 20 = .ok (.ireturn, 1) := by decide +kernel
theorem dX10_at_21 : decode cX10_at 21 = .ok (.aload_n 0, 1) := by decide +kernel
theorem dX10_at_22 : decode cX10_at 22 = .ok (.getfield 53, 3) := by decide +kernel
theorem dX10_at_25 : decode cX10_at 25 = .ok (.iload_n 1, 1) := by decide +kernel
theorem dX10_at_26 : decode cX10_at 26 = .ok (.iload_n 2, 1) := by decide +kernel
theorem dX10_at_27 : decode cX10_at 27 = .ok (.invokevirtual 200, 3) := by decide +kernel
theorem dX10_at_30 : decode cX10_at 30 = .ok (.ireturn, 1) := by decide +kernel
theorem dX10_ticks_0 : decode cX10_ticks 0 = .ok (.aload_n 0, 1) := by decide +kernel
theorem dX10_ticks_1 : decode cX10_ticks 1 = .ok (.getfield 53, 3) := by decide +kernel
theorem dX10_ticks_4 : decode cX10_ticks 4 = .ok (.getfield 204, 3) := by decide +kernel
theorem dX10_ticks_7 : decode cX10_ticks 7 = .ok (.ireturn, 1) := by decide +kernel
theorem dX10_hit_0 : decode cX10_hit 0 = .ok (.aload_n 0, 1) := by decide +kernel
theorem dX10_hit_1 : decode cX10_hit 1 = .ok (.getfield 53, 3) := by decide +kernel
theorem dX10_hit_4 : decode cX10_hit 4 = .ok (.getfield 207, 3) := by decide +kernel
theorem dX10_hit_7 : decode cX10_hit 7 = .ok (.ireturn, 1) := by decide +kernel
theorem dX10_choose_0 : decode cX10_choose 0 = .ok (.iload_n 1, 1) := by decide +kernel
theorem dX10_choose_1 : decode cX10_choose 1 = .ok (.aload_n 0, 1) := by decide +kernel
theorem dX10_choose_2 : decode cX10_choose 2 = .ok (.getfield 23, 3) := by decide +kernel
theorem dX10_choose_5 : decode cX10_choose 5 = .ok (.invokestatic 210, 3) := by decide +kernel
theorem dX10_choose_8 : decode cX10_choose 8 = .ok (.ifCond .eq 14, 3) := by decide +kernel
theorem dX10_choose_11 : decode cX10_choose 11 = .ok (.iload_n 2, 1) := by decide +kernel
theorem dX10_choose_12 : decode cX10_choose 12 = .ok (.aload_n 0, 1) := by decide +kernel
theorem dX10_choose_13 : decode cX10_choose 13 = .ok (.getfield 33, 3) := by decide +kernel
theorem dX10_choose_16 : decode cX10_choose 16 = .ok (.invokestatic 210, 3) := by decide +kernel
theorem dX10_choose_19 : decode cX10_choose 19 = .ok (.ifCond .ne 5, 3) := by decide +kernel
theorem dX10_choose_22 : decode cX10_choose 22 = .ok (.iconst (-1), 1) := by decide +kernel
theorem dX10_choose_23 : decode cX10_choose 23 = .ok (.ireturn, 1) := by decide +kernel
theorem dX10_choose_24 : decode cX10_choose 24 = .ok (.iload_n 1, 1) := by decide +kernel
theorem dX10_choose_25 : decode cX10_choose 25 = .ok (.aload_n 0, 1) := by decide +kernel
theorem dX10_choose_26 : decode cX10_choose 26 = .ok (.invokevirtual 214, 3) := by decide +kernel
theorem dX10_choose_29 : decode cX10_choose 29 = .ok (.iand, 1) := by decide +kernel
theorem dX10_choose_30 : decode cX10_choose 30 = .ok (.istore_n 3, 1) := by decide +kernel
theorem dX10_choose_31 : decode cX10_choose 31 = .ok (.iload_n 3, 1) := by decide +kernel
theorem dX10_choose_32 : decode cX10_choose 32 = .ok (.ifCond .ne 6, 3) := by decide +kernel
theorem dX10_choose_35 : decode cX10_choose 35 = .ok (.bipush (-2), 2) := by decide +kernel
theorem dX10_choose_37 : decode cX10_choose 37 = .ok (.ireturn, 1) := by decide +kernel
theorem dX10_choose_38 : decode cX10_choose 38 = .ok (.iconst (-1), 1) := by decide +kernel
theorem dX10_choose_39 : decode cX10_choose 39 = .ok (.istore 4, 2) := by decide +kernel
theorem dX10_choose_41 : decode cX10_choose 41 = .ok (.iconst 0, 1) := by decide +kernel
theorem dX10_choose_42 : decode cX10_choose 42 = .ok (.istore 5, 2) := by decide +kernel
theorem dX10_choose_44 : decode cX10_choose 44 = .ok (.iload 5, 2) := by decide +kernel
theorem dX10_choose_46 : decode cX10_choose 46 = .ok (.aload_n 0, 1) := by decide +kernel
theorem dX10_choose_47 : decode cX10_choose 47 = .ok (.getfield 23, 3) := by decide +kernel
theorem dX10_choose_50 : decode cX10_choose 50 = .ok (.if_icmp .ge 30, 3) := by decide +kernel
theorem dX10_choose_53 : decode cX10_choose 53 = .ok (.iload_n 3, 1) := by decide +kernel
theorem dX10_choose_54 : decode cX10_choose 54 = .ok (.iload 5, 2) := by decide +kernel
theorem dX10_choose_56 : decode cX10_choose 56 = .ok (.ishr, 1) := by decide +kernel
theorem dX10_choose_57 : decode cX10_choose 57 = .ok (.iconst 1, 1) := by decide +kernel
theorem dX10_choose_58 : decode cX10_choose 58 = .ok (.iand, 1) := by decide +kernel
theorem dX10_choose_59 : decode cX10_choose 59 = .ok (.iconst 1, 1) := by decide +kernel
theorem dX10_choose_60 : decode cX10_choose 60 = .ok (.if_icmp .ne 14, 3) := by decide +kernel
theorem dX10_choose_63 : decode cX10_choose 63 = .ok (.aload_n 0, 1) := by decide +kernel
theorem dX10_choose_64 : decode cX10_choose 64 = .ok (.iload 5, 2) := by decide +kernel
theorem dX10_choose_66 : decode cX10_choose 66 = .ok (.iload_n 2, 1) := by decide +kernel
theorem dX10_choose_67 : decode cX10_choose 67 = .ok (.iload 4, 2) := by decide +kernel
theorem dX10_choose_69 : decode cX10_choose 69 = .ok (.invokevirtual 218, 3) := by decide +kernel
theorem dX10_choose_72 : decode cX10_choose 72 = .ok (.istore 4, 2) := by decide +kernel
theorem dX10_choose_74 : decode cX10_choose 74 = .ok (.iinc 5 1, 3) := by decide +kernel
theorem dX10_choose_77 : decode cX10_choose 77 = .ok (.goto (-33), 3) := by decide +kernel
theorem dX10_choose_80 : decode cX10_choose 80 = .ok (.aload_n 0, 1) := by decide +kernel
theorem dX10_choose_81 : decode cX10_choose 81 = .ok (.iconst 1, 1) := by decide +kernel
theorem dX10_choose_82 : decode cX10_choose 82 = .ok (.putfield 70, 3) := by decide +kernel
theorem dX10_choose_85 : decode cX10_choose 85 = .ok (.iload 4, 2) := by decide +kernel
theorem dX10_choose_87 : decode cX10_choose 87 = .ok (.ireturn, 1) := by decide +kernel
theorem dX10_chosen_0 : decode cX10_chosen 0 = .ok (.aload_n 0, 1) := by decide +kernel
theorem dX10_chosen_1 : decode cX10_chosen 1 = .ok (.getfield 70, 3) := by decide +kernel
theorem dX10_chosen_4 : decode cX10_chosen 4 = .ok (.ifCond .eq 12, 3) := by decide +kernel
theorem dX10_chosen_7 : decode cX10_chosen 7 = .ok (.iload_n 1, 1) := by decide +kernel
theorem dX10_chosen_8 : decode cX10_chosen 8 = .ok (.iconst 0, 1) := by decide +kernel
theorem dX10_chosen_9 : decode cX10_chosen 9 = .ok (.iconst 3, 1) := by decide +kernel
theorem dX10_chosen_10 : decode cX10_chosen 10 = .ok (.invokestatic 118, 3) := by decide +kernel
theorem dX10_chosen_13 : decode cX10_chosen 13 = .ok (.ifCond .ne 5, 3) := by decide +kernel
theorem dX10_chosen_16 : decode cX10_chosen 16 = .ok (.iconst (-1), 1) := by decide +kernel
theorem dX10_chosen_17 : decode cX10_chosen 17 = .ok (.ireturn, 1) := by decide +kernel
theorem dX10_chosen_18 : decode cX10_chosen 18 = .ok (.aload_n 0, 1) := by decide +kernel
theorem dX10_chosen_19 : decode cX10_chosen 19 = .ok (.getfield 67, 3) := by decide +kernel
theorem dX10_chosen_22 : decode cX10_chosen 22 = .ok (.iload_n 1, 1) := by decide +kernel
theorem dX10_chosen_23 : decode cX10_chosen 23 = .ok (.iaload, 1) := by decide +kernel
theorem dX10_chosen_24 : decode cX10_chosen 24 = .ok (.ireturn, 1) := by decide +kernel
theorem dX10_keep_0 : decode cX10_keep 0 = .ok (.iload_n 1, 1) := by decide +kernel
theorem dX10_keep_1 : decode cX10_keep 1 = .ok (.iconst 0, 1) := by decide +kernel
theorem dX10_keep_2 : decode cX10_keep 2 = .ok (.iconst 1, 1) := by decide +kernel
theorem dX10_keep_3 : decode cX10_keep 3 = .ok (.invokestatic 118, 3) := by decide +kernel
theorem dX10_keep_6 : decode cX10_keep 6 = .ok (.ifCond .eq 20, 3) := by decide +kernel
theorem dX10_keep_9 : decode cX10_keep 9 = .ok (.aload_n 0, 1) := by decide +kernel
theorem dX10_keep_10 : decode cX10_keep 10 = .ok (.iload_n 2, 1) := by decide +kernel
theorem dX10_keep_11 : decode cX10_keep 11 = .ok (.iload_n 3, 1) := by decide +kernel
theorem dX10_keep_12 : decode cX10_keep 12 = .ok (.iload 4, 2) := by decide +kernel
theorem dX10_keep_14 : decode cX10_keep 14 = .ok (.iload 5, 2) := by decide +kernel
theorem dX10_keep_16 : decode cX10_keep 16 = .ok (.iload 6, 2) := by decide +kernel
theorem dX10_keep_18 : decode cX10_keep 18 = .ok (.iload 7, 2) := by decide +kernel
theorem dX10_keep_20 : decode cX10_keep 20 = .ok (.invokevirtual 184, 3) := by decide +kernel
theorem dX10_keep_23 : decode cX10_keep 23 = .ok (.ifCond .ne 5, 3) := by decide +kernel
theorem dX10_keep_26 : decode cX10_keep 26 = .ok (.iconst (-1), 1) := by decide +kernel
theorem dX10_keep_27 : decode cX10_keep 27 = .ok (.ireturn, 1) := by decide +kernel
theorem dX10_keep_28 : decode cX10_keep 28 = .ok (.aload_n 0, 1) := by decide +kernel
theorem dX10_keep_29 : decode cX10_keep 29 = .ok (.getfield 74, 3) := by decide +kernel
theorem dX10_keep_32 : decode cX10_keep 32 = .ok (.iload_n 1, 1) := by decide +kernel
theorem dX10_keep_33 : decode cX10_keep 33 = .ok (.aaload, 1) := by decide +kernel
theorem dX10_keep_34 : decode cX10_keep 34 = .ok (.iload_n 2, 1) := by decide +kernel
theorem dX10_keep_35 : decode cX10_keep 35 = .ok (.iload_n 3, 1) := by decide +kernel
theorem dX10_keep_36 : decode cX10_keep 36 = .ok (.iload 4, 2) := by decide +kernel
theorem dX10_keep_38 : decode cX10_keep 38 = .ok (.iload 5, 2) := by decide +kernel
theorem dX10_keep_40 : decode cX10_keep 40 = .ok (.iload 6, 2) := by decide +kernel
theorem dX10_keep_42 : decode cX10_keep 42 = .ok (.iload 7, 2) := by decide +kernel
theorem dX10_keep_44 : decode cX10_keep 44 = .ok (.invokevirtual 188, 3) := by decide +kernel
theorem dX10_keep_47 : decode cX10_keep 47 = .ok (.aload_n 0, 1) := by decide +kernel
theorem dX10_keep_48 : decode cX10_keep 48 = .ok (.getfield 78, 3) := by decide +kernel
theorem dX10_keep_51 : decode cX10_keep 51 = .ok (.iload_n 1, 1) := by decide +kernel
theorem dX10_keep_52 : decode cX10_keep 52 = .ok (.iconst 1, 1) := by decide +kernel
theorem dX10_keep_53 : decode cX10_keep 53 = .ok (.bastore, 1) := by decide +kernel
theorem dX10_keep_54 : decode cX10_keep 54 = .ok (.iconst 1, 1) := by decide +kernel
theorem dX10_keep_55 : decode cX10_keep 55 = .ok (.ireturn, 1) := by decide +kernel
theorem dX10_two_0 : decode cX10_two 0 = .ok (.iload_n 1, 1) := by decide +kernel
theorem dX10_two_1 : decode cX10_two 1 = .ok (.iconst 1, 1) := by decide +kernel
theorem dX10_two_2 : decode cX10_two 2 = .ok (.bipush 100, 2) := by decide +kernel
theorem dX10_two_4 : decode cX10_two 4 = .ok (.invokestatic 118, 3) := by decide +kernel
theorem dX10_two_7 : decode cX10_two 7 = .ok (.ifCond .ne 5, 3) := by decide +kernel
theorem dX10_two_10 : decode cX10_two 10 = .ok (.iconst (-1), 1) := by decide +kernel
theorem dX10_two_11 : decode cX10_two 11 = .ok (.ireturn, 1) := by decide +kernel
theorem dX10_two_12 : decode cX10_two 12 = .ok (.aload_n 0, 1) := by decide +kernel
theorem dX10_two_13 : decode cX10_two 13 = .ok (.getfield 78, 3) := by decide +kernel
theorem dX10_two_16 : decode cX10_two 16 = .ok (.iconst 0, 1) := by decide +kernel
theorem dX10_two_17 : decode cX10_two 17 = .ok (.baload, 1) := by decide +kernel
theorem dX10_two_18 : decode cX10_two 18 = .ok (.ifCond .eq 33, 3) := by decide +kernel
theorem dX10_two_21 : decode cX10_two 21 = .ok (.aload_n 0, 1) := by decide +kernel
theorem dX10_two_22 : decode cX10_two 22 = .ok (.getfield 78, 3) := by decide +kernel
theorem dX10_two_25 : decode cX10_two 25 = .ok (.iconst 1, 1) := by decide +kernel
theorem dX10_two_26 : decode cX10_two 26 = .ok (.baload, 1) := by decide +kernel
theorem dX10_two_27 : decode cX10_two 27 = .ok (.ifCond .eq 24, 3) := by decide +kernel
theorem dX10_two_30 : decode cX10_two 30 = .ok (.aload_n 0, 1) := by decide +kernel
theorem dX10_two_31 : decode cX10_two 31 = .ok (.getfield 74, 3) := by decide +kernel
theorem dX10_two_34 : decode cX10_two 34 = .ok (.iconst 0, 1) := by decide +kernel
theorem dX10_two_35 : decode cX10_two 35 = .ok (.aaload, 1) := by decide +kernel
theorem dX10_two_36 : decode cX10_two 36 = .ok (.getfield 222, 3) := by decide +kernel
theorem dX10_two_39 : decode cX10_two 39 = .ok (.aload_n 0, 1) := by decide +kernel
theorem dX10_two_40 : decode cX10_two 40 = .ok (.getfield 74, 3) := by decide +kernel
theorem dX10_two_43 : decode cX10_two 43 = .ok (.iconst 1, 1) := by decide +kernel
theorem dX10_two_44 : decode cX10_two 44 = .ok (.aaload, 1) := by decide +kernel
theorem dX10_two_45 : decode cX10_two 45 = .ok (.getfield 222, 3) := by decide +kernel
theorem dX10_two_48 : decode cX10_two 48 = .ok (.if_icmp .ne 6, 3) := by decide +kernel
theorem dX10_two_51 : decode cX10_two 51 = .ok (.bipush (-2), 2) := by decide +kernel
theorem dX10_two_53 : decode cX10_two 53 = .ok (.ireturn, 1) := by decide +kernel
theorem dX10_two_54 : decode cX10_two 54 = .ok (.aload_n 0, 1) := by decide +kernel
theorem dX10_two_55 : decode cX10_two 55 = .ok (.aload_n 0, 1) := by decide +kernel
theorem dX10_two_56 : decode cX10_two 56 = .ok (.getfield 74, 3) := by decide +kernel
theorem dX10_two_59 : decode cX10_two 59 = .ok (.iconst 0, 1) := by decide +kernel
theorem dX10_two_60 : decode cX10_two 60 = .ok (.aaload, 1) := by decide +kernel
theorem dX10_two_61 : decode cX10_two 61 = .ok (.invokevirtual 225, 3) := by decide +kernel
theorem dX10_two_64 : decode cX10_two 64 = .ok (.ifCond .ne 6, 3) := by decide +kernel
theorem dX10_two_67 : decode cX10_two 67 = .ok (.bipush (-4), 2) := by decide +kernel
theorem dX10_two_69 : decode cX10_two 69 = .ok (.ireturn, 1) := by decide +kernel
theorem dX10_two_70 : decode cX10_two 70 = .ok (.aload_n 0, 1) := by decide +kernel
theorem dX10_two_71 : decode cX10_two 71 = .ok (.getfield 57, 3) := by decide +kernel
theorem dX10_two_74 : decode cX10_two 74 = .ok (.getfield 204, 3) := by decide +kernel
theorem dX10_two_77 : decode cX10_two 77 = .ok (.istore_n 2, 1) := by decide +kernel
theorem dX10_two_78 : decode cX10_two 78 = .ok (.aload_n 0, 1) := by decide +kernel
theorem dX10_two_79 : decode cX10_two 79 = .ok (.aload_n 0, 1) := by decide +kernel
theorem dX10_two_80 : decode cX10_two 80 = .ok (.getfield 74, 3) := by decide +kernel
theorem dX10_two_83 : decode cX10_two 83 = .ok (.iconst 1, 1) := by decide +kernel
theorem dX10_two_84 : decode cX10_two 84 = .ok (.aaload, 1) := by decide +kernel
theorem dX10_two_85 : decode cX10_two 85 = .ok (.invokevirtual 225, 3) := by decide +kernel
theorem dX10_two_88 : decode cX10_two 88 = .ok (.ifCond .ne 6, 3) := by decide +kernel
theorem dX10_two_91 : decode cX10_two 91 = .ok (.bipush (-4), 2) := by decide +kernel
theorem dX10_two_93 : decode cX10_two 93 = .ok (.ireturn, 1) := by decide +kernel
theorem dX10_two_94 : decode cX10_two 94 = .ok (.aload_n 0, 1) := by decide +kernel
theorem dX10_two_95 : decode cX10_two 95 = .ok (.getfield 57, 3) := by decide +kernel
theorem dX10_two_98 : decode cX10_two 98 = .ok (.getfield 204, 3) := by decide +kernel
theorem dX10_two_101 : decode cX10_two 101 = .ok (.iload_n 2, 1) := by decide +kernel
theorem dX10_two_102 : decode cX10_two 102 = .ok (.isub, 1) := by decide +kernel
theorem dX10_two_103 : decode cX10_two 103 = .ok (.istore_n 3, 1) := by decide +kernel
theorem dX10_two_104 : decode cX10_two 104 = .ok (.iconst 1, 1) := by decide +kernel
theorem dX10_two_105 : decode cX10_two 105 = .ok (.istore 4, 2) := by decide +kernel
theorem dX10_two_107 : decode cX10_two 107 = .ok (.iload 4, 2) := by decide +kernel
theorem dX10_two_109 : decode cX10_two 109 = .ok (.sipush 200, 3) := by decide +kernel
theorem dX10_two_112 : decode cX10_two 112 = .ok (.if_icmp .gt 23, 3) := by decide +kernel
theorem dX10_two_115 : decode cX10_two 115 = .ok (.iload 4, 2) := by decide +kernel
theorem dX10_two_117 : decode cX10_two 117 = .ok (.iload_n 3, 1) := by decide +kernel
theorem dX10_two_118 : decode cX10_two 118 = .ok (.iadd, 1) := by decide +kernel
theorem dX10_two_119 : decode cX10_two 119 = .ok (.invokestatic 229, 3) := by decide +kernel
theorem dX10_two_122 : decode cX10_two 122 = .ok (.iload_n 1, 1) := by decide +kernel
theorem dX10_two_123 : decode cX10_two 123 = .ok (.if_icmp .lt 6, 3) := by decide +kernel
theorem dX10_two_126 : decode cX10_two 126 = .ok (.iload 4, 2) := by decide +kernel
theorem dX10_two_128 : decode cX10_two 128 = .ok (.ireturn, 1) := by decide +kernel
theorem dX10_two_129 : decode cX10_two 129 = .ok (.iinc 4 1, 3) := by decide +kernel
theorem dX10_two_132 : decode cX10_two 132 = .ok (.goto (-25), 3) := by decide +kernel
theorem dX10_two_135 : decode cX10_two 135 = .ok (.bipush (-4), 2) := by decide +kernel
theorem dX10_two_137 : decode cX10_two 137 = .ok (.ireturn, 1) := by decide +kernel
theorem dX10_match_0 : decode cX10_match 0 = .ok (.iload_n 1, 1) := by decide +kernel
theorem dX10_match_1 : decode cX10_match 1 = .ok (.iconst 0, 1) := by decide +kernel
theorem dX10_match_2 : decode cX10_match 2 = .ok (.iconst 4, 1) := by decide +kernel
theorem dX10_match_3 : decode cX10_match 3 = .ok (.invokestatic 118, 3) := by decide +kernel
theorem dX10_match_6 : decode cX10_match 6 = .ok (.ifCond .eq 17, 3) := by decide +kernel
theorem dX10_match_9 : decode cX10_match 9 = .ok (.iload_n 2, 1) := by decide +kernel
theorem dX10_match_10 : decode cX10_match 10 = .ok (.bipush (-2), 2) := by decide +kernel
theorem dX10_match_12 : decode cX10_match 12 = .ok (.if_icmp .eq 14, 3) := by decide +kernel
theorem dX10_match_15 : decode cX10_match 15 = .ok (.aload_n 0, 1) := by decide +kernel
theorem dX10_match_16 : decode cX10_match 16 = .ok (.iload_n 2, 1) := by decide +kernel
theorem dX10_match_17 : decode cX10_match 17 = .ok (.invokevirtual 235, 3) := by decide +kernel
theorem dX10_match_20 : decode cX10_match 20 = .ok (.ifCond .ne 6, 3) := by decide +kernel
theorem dX10_match_23 : decode cX10_match 23 = .ok (.bipush (-11), 2) := by decide +kernel
theorem dX10_match_25 : decode cX10_match 25 = .ok (.ireturn, 1) := by decide +kernel
theorem dX10_match_26 : decode cX10_match 26 = .ok (.aload_n 0, 1) := by decide +kernel
theorem dX10_match_27 : decode cX10_match 27 = .ok (.getfield 85, 3) := by decide +kernel
theorem dX10_match_30 : decode cX10_match 30 = .ok (.getfield 238, 3) := by decide +kernel
theorem dX10_match_33 : decode cX10_match 33 = .ok (.iload_n 1, 1) := by decide +kernel
theorem dX10_match_34 : decode cX10_match 34 = .ok (.iaload, 1) := by decide +kernel
theorem dX10_match_35 : decode cX10_match 35 = .ok (.istore_n 3, 1) := by decide +kernel
theorem dX10_match_36 : decode cX10_match 36 = .ok (.aload_n 0, 1) := by decide +kernel
theorem dX10_match_37 : decode cX10_match 37 = .ok (.getfield 85, 3) := by decide +kernel
theorem dX10_match_40 : decode cX10_match 40 = .ok (.getfield 238, 3) := by decide +kernel
theorem dX10_match_43 : decode cX10_match 43 = .ok (.iload_n 1, 1) := by decide +kernel
theorem dX10_match_44 : decode cX10_match 44 = .ok (.iload_n 2, 1) := by decide +kernel
theorem dX10_match_45 : decode cX10_match 45 = .ok (.iastore, 1) := by decide +kernel
theorem dX10_match_46 : decode cX10_match 46 = .ok (.iload_n 3, 1) := by decide +kernel
theorem dX10_match_47 : decode cX10_match 47 = .ok (.ireturn, 1) := by decide +kernel
theorem dX10_style_0 : decode cX10_style 0 = .ok (.iload_n 1, 1) := by decide +kernel
theorem dX10_style_1 : decode cX10_style 1 = .ok (.iload_n 2, 1) := by decide +kernel
theorem dX10_style_2 : decode cX10_style 2 = .ok (.iload_n 3, 1) := by decide +kernel
theorem dX10_style_3 : decode cX10_style 3 = .ok (.iload 4, 2) := by decide +kernel
theorem dX10_style_5 : decode cX10_style 5 = .ok (.invokestatic 241, 3) := by decide +kernel
theorem dX10_style_8 : decode cX10_style 8 = .ok (.ifCond .ne 5, 3) := by decide +kernel
theorem dX10_style_11 : decode cX10_style 11 = .ok (.iconst (-1), 1) := by decide +kernel
theorem dX10_style_12 : decode cX10_style 12 = .ok (.ireturn, 1) := by decide +kernel
theorem dX10_style_13 : decode cX10_style 13 = .ok (.aload_n 0, 1) := by decide +kernel
theorem dX10_style_14 : decode cX10_style 14 = .ok (.getfield 85, 3) := by decide +kernel
theorem dX10_style_17 : decode cX10_style 17 = .ok (.getfield 245, 3) := by decide +kernel
theorem dX10_style_20 : decode cX10_style 20 = .ok (.iconst 0, 1) := by decide +kernel
theorem dX10_style_21 : decode cX10_style 21 = .ok (.iload_n 1, 1) := by decide +kernel
theorem dX10_style_22 : decode cX10_style 22 = .ok (.iload_n 2, 1) := by decide +kernel
theorem dX10_style_23 : decode cX10_style 23 = .ok (.iload_n 3, 1) := by decide +kernel
theorem dX10_style_24 : decode cX10_style 24 = .ok (.iload 4, 2) := by decide +kernel
theorem dX10_style_26 : decode cX10_style 26 = .ok (.iconst (-1), 1) := by decide +kernel
theorem dX10_style_27 : decode cX10_style 27 = .ok (.invokevirtual 188, 3) := by decide +kernel
theorem dX10_style_30 : decode cX10_style 30 = .ok (.iconst 1, 1) := by decide +kernel
theorem dX10_style_31 : decode cX10_style 31 = .ok (.ireturn, 1) := by decide +kernel
theorem dX10_points_0 : decode cX10_points 0 = .ok (.aload_n 0, 1) := by decide +kernel
theorem dX10_points_1 : decode cX10_points 1 = .ok (.iload_n 1, 1) := by decide +kernel
theorem dX10_points_2 : decode cX10_points 2 = .ok (.invokevirtual 126, 3) := by decide +kernel
theorem dX10_points_5 : decode cX10_points 5 = .ok (.ifCond .eq 11, 3) := by decide +kernel
theorem dX10_points_8 : decode cX10_points 8 = .ok (.aload_n 0, 1) := by decide +kernel
theorem dX10_points_9 : decode cX10_points 9 = .ok (.iload_n 2, 1) := by decide +kernel
theorem dX10_points_10 : decode cX10_points 10 = .ok (.invokevirtual 235, 3) := by decide +kernel
theorem dX10_points_13 : decode cX10_points 13 = .ok (.ifCond .ne 5, 3) := by decide +kernel
theorem dX10_points_16 : decode cX10_points 16 = .ok (.iconst (-1), 1) := by decide +kernel
theorem dX10_points_17 : decode cX10_points 17 = .ok (.ireturn, 1) := by decide +kernel
theorem dX10_points_18 : decode cX10_points 18 = .ok (.aload_n 0, 1) := by decide +kernel
theorem dX10_points_19 : decode cX10_points 19 = .ok (.iload_n 1, 1) := by decide +kernel
theorem dX10_points_20 : decode cX10_points 20 = .ok (.iload_n 2, 1) := by decide +kernel
theorem dX10_points_21 : decode cX10_points 21 = .ok (.invokevirtual 248, 3) := by decide +kernel
theorem dX10_points_24 : decode cX10_points 24 = .ok (.ireturn, 1) := by decide +kernel
theorem dX10_best_0 : decode cX10_best 0 = .ok (.aload_n 0, 1) := by decide +kernel
theorem dX10_best_1 : decode cX10_best 1 = .ok (.getfield 85, 3) := by decide +kernel
theorem dX10_best_4 : decode cX10_best 4 = .ok (.invokevirtual 251, 3) := by decide +kernel
theorem dX10_best_7 : decode cX10_best 7 = .ok (.istore_n 1, 1) := by decide +kernel
theorem dX10_best_8 : decode cX10_best 8 = .ok (.iload_n 1, 1) := by decide +kernel
theorem dX10_best_9 : decode cX10_best 9 = .ok (.ifCond .ne 6, 3) := by decide +kernel
theorem dX10_best_12 : decode cX10_best 12 = .ok (.bipush (-2), 2) := by decide +kernel
theorem dX10_best_14 : decode cX10_best 14 = .ok (.ireturn, 1) := by decide +kernel
theorem dX10_best_15 : decode cX10_best 15 = .ok (.iload_n 1, 1) := by decide +kernel
theorem dX10_best_16 : decode cX10_best 16 = .ok (.aload_n 0, 1) := by decide +kernel
theorem dX10_best_17 : decode cX10_best 17 = .ok (.invokevirtual 214, 3) := by decide +kernel
theorem dX10_best_20 : decode cX10_best 20 = .ok (.invokestatic 254, 3) := by decide +kernel
theorem dX10_best_23 : decode cX10_best 23 = .ok (.if_icmp .le 6, 3) := by decide +kernel
theorem dX10_best_26 : decode cX10_best 26 = .ok (.bipush (-4), 2) := by decide +kernel
theorem dX10_best_28 : decode cX10_best 28 = .ok (.ireturn, 1) := by decide +kernel
theorem dX10_best_29 : decode cX10_best 29 = .ok (.aload_n 0, 1) := by decide +kernel
theorem dX10_best_30 : decode cX10_best 30 = .ok (.invokevirtual 259, 3) := by decide +kernel
theorem dX10_best_33 : decode cX10_best 33 = .ok (.aload_n 0, 1) := by decide +kernel
theorem dX10_best_34 : decode cX10_best 34 = .ok (.getfield 85, 3) := by decide +kernel
theorem dX10_best_37 : decode cX10_best 37 = .ok (.getfield 262, 3) := by decide +kernel
theorem dX10_best_40 : decode cX10_best 40 = .ok (.ireturn, 1) := by decide +kernel
theorem dX10_order_0 : decode cX10_order 0 = .ok (.iload_n 1, 1) := by decide +kernel
theorem dX10_order_1 : decode cX10_order 1 = .ok (.iconst 0, 1) := by decide +kernel
theorem dX10_order_2 : decode cX10_order 2 = .ok (.iconst 4, 1) := by decide +kernel
theorem dX10_order_3 : decode cX10_order 3 = .ok (.invokestatic 118, 3) := by decide +kernel
theorem dX10_order_6 : decode cX10_order 6 = .ok (.ifCond .eq 17, 3) := by decide +kernel
theorem dX10_order_9 : decode cX10_order 9 = .ok (.aload_n 0, 1) := by decide +kernel
theorem dX10_order_10 : decode cX10_order 10 = .ok (.getfield 85, 3) := by decide +kernel
theorem dX10_order_13 : decode cX10_order 13 = .ok (.getfield 238, 3) := by decide +kernel
theorem dX10_order_16 : decode cX10_order 16 = .ok (.iload_n 1, 1) := by decide +kernel
theorem dX10_order_17 : decode cX10_order 17 = .ok (.iaload, 1) := by decide +kernel
theorem dX10_order_18 : decode cX10_order 18 = .ok (.bipush (-2), 2) := by decide +kernel
theorem dX10_order_20 : decode cX10_order 20 = .ok (.if_icmp .ne 5, 3) := by decide +kernel
theorem dX10_order_23 : decode cX10_order 23 = .ok (.iconst (-1), 1) := by decide +kernel
theorem dX10_order_24 : decode cX10_order 24 = .ok (.ireturn, 1) := by decide +kernel
theorem dX10_order_25 : decode cX10_order 25 = .ok (.aload_n 0, 1) := by decide +kernel
theorem dX10_order_26 : decode cX10_order 26 = .ok (.getfield 85, 3) := by decide +kernel
theorem dX10_order_29 : decode cX10_order 29 = .ok (.invokevirtual 251, 3) := by decide +kernel
theorem dX10_order_32 : decode cX10_order 32 = .ok (.aload_n 0, 1) := by decide +kernel
theorem dX10_order_33 : decode cX10_order 33 = .ok (.invokevirtual 214, 3) := by decide +kernel
theorem dX10_order_36 : decode cX10_order 36 = .ok (.invokestatic 254, 3) := by decide +kernel
theorem dX10_order_39 : decode cX10_order 39 = .ok (.if_icmp .le 6, 3) := by decide +kernel
theorem dX10_order_42 : decode cX10_order 42 = .ok (.bipush (-4), 2) := by decide +kernel
theorem dX10_order_44 : decode cX10_order 44 = .ok (.ireturn, 1) := by decide +kernel
theorem dX10_order_45 : decode cX10_order 45 = .ok (.aload_n 0, 1) := by decide +kernel
theorem dX10_order_46 : decode cX10_order 46 = .ok (.invokevirtual 259, 3) := by decide +kernel
theorem dX10_order_49 : decode cX10_order 49 = .ok (.aload_n 0, 1) := by decide +kernel
theorem dX10_order_50 : decode cX10_order 50 = .ok (.getfield 85, 3) := by decide +kernel
theorem dX10_order_53 : decode cX10_order 53 = .ok (.getfield 265, 3) := by decide +kernel
theorem dX10_order_56 : decode cX10_order 56 = .ok (.iload_n 1, 1) := by decide +kernel
theorem dX10_order_57 : decode cX10_order 57 = .ok (.iaload, 1) := by decide +kernel
theorem dX10_order_58 : decode cX10_order 58 = .ok (.ireturn, 1) := by decide +kernel
theorem dX10_row_0 : decode cX10_row 0 = .ok (.aload_n 0, 1) := by decide +kernel
theorem dX10_row_1 : decode cX10_row 1 = .ok (.iload_n 1, 1) := by decide +kernel
theorem dX10_row_2 : decode cX10_row 2 = .ok (.iload_n 2, 1) := by decide +kernel
theorem dX10_row_3 : decode cX10_row 3 = .ok (.iload_n 3, 1) := by decide +kernel
theorem dX10_row_4 : decode cX10_row 4 = .ok (.iload 4, 2) := by decide +kernel
theorem dX10_row_6 : decode cX10_row 6 = .ok (.iload 5, 2) := by decide +kernel
theorem dX10_row_8 : decode cX10_row 8 = .ok (.iload 6, 2) := by decide +kernel
theorem dX10_row_10 : decode cX10_row 10 = .ok (.iload 7, 2) := by decide +kernel
theorem dX10_row_12 : decode cX10_row 12 = .ok (.invokevirtual 268, 3) := by decide +kernel
theorem dX10_row_15 : decode cX10_row 15 = .ok (.ifCond .ne 5, 3) := by decide +kernel
theorem dX10_row_18 : decode cX10_row 18 = .ok (.iconst (-1), 1) := by decide +kernel
theorem dX10_row_19 : decode cX10_row 19 = .ok (.ireturn, 1) := by decide +kernel
theorem dX10_row_20 : decode cX10_row 20 = .ok (.aload_n 0, 1) := by decide +kernel
theorem dX10_row_21 : decode cX10_row 21 = .ok (.getfield 95, 3) := by decide +kernel
theorem dX10_row_24 : decode cX10_row 24 = .ok (.bipush 30, 2) := by decide +kernel
theorem dX10_row_26 : decode cX10_row 26 = .ok (.if_icmp .lt 6, 3) := by decide +kernel
theorem dX10_row_29 : decode cX10_row 29 = .ok (.bipush (-3), 2) := by decide +kernel
theorem dX10_row_31 : decode cX10_row 31 = .ok (.ireturn, 1) := by decide +kernel
theorem dX10_row_32 : decode cX10_row 32 = .ok (.aload_n 0, 1) := by decide +kernel
theorem dX10_row_33 : decode cX10_row 33 = .ok (.iload_n 1, 1) := by decide +kernel
theorem dX10_row_34 : decode cX10_row 34 = .ok (.iload_n 2, 1) := by decide +kernel
theorem dX10_row_35 : decode cX10_row 35 = .ok (.iload_n 3, 1) := by decide +kernel
theorem dX10_row_36 : decode cX10_row 36 = .ok (.iload 4, 2) := by decide +kernel
theorem dX10_row_38 : decode cX10_row 38 = .ok (.iload 5, 2) := by decide +kernel
theorem dX10_row_40 : decode cX10_row 40 = .ok (.iload 6, 2) := by decide +kernel
theorem dX10_row_42 : decode cX10_row 42 = .ok (.iload 7, 2) := by decide +kernel
theorem dX10_row_44 : decode cX10_row 44 = .ok (.invokevirtual 272, 3) := by decide +kernel
theorem dX10_row_47 : decode cX10_row 47 = .ok (.aload_n 0, 1) := by decide +kernel
theorem dX10_row_48 : decode cX10_row 48 = .ok (.getfield 95, 3) := by decide +kernel
theorem dX10_row_51 : decode cX10_row 51 = .ok (.iconst 1, 1) := by decide +kernel
theorem dX10_row_52 : decode cX10_row 52 = .ok (.isub, 1) := by decide +kernel
theorem dX10_row_53 : decode cX10_row 53 = .ok (.ireturn, 1) := by decide +kernel
theorem dX10_miss_0 : decode cX10_miss 0 = .ok (.iload_n 1, 1) := by decide +kernel
theorem dX10_miss_1 : decode cX10_miss 1 = .ok (.iconst 0, 1) := by decide +kernel
theorem dX10_miss_2 : decode cX10_miss 2 = .ok (.aload_n 0, 1) := by decide +kernel
theorem dX10_miss_3 : decode cX10_miss 3 = .ok (.getfield 95, 3) := by decide +kernel
theorem dX10_miss_6 : decode cX10_miss 6 = .ok (.iconst 1, 1) := by decide +kernel
theorem dX10_miss_7 : decode cX10_miss 7 = .ok (.isub, 1) := by decide +kernel
theorem dX10_miss_8 : decode cX10_miss 8 = .ok (.invokestatic 118, 3) := by decide +kernel
theorem dX10_miss_11 : decode cX10_miss 11 = .ok (.ifCond .eq 10, 3) := by decide +kernel
theorem dX10_miss_14 : decode cX10_miss 14 = .ok (.iload_n 2, 1) := by decide +kernel
theorem dX10_miss_15 : decode cX10_miss 15 = .ok (.invokestatic 133, 3) := by decide +kernel
theorem dX10_miss_18 : decode cX10_miss 18 = .ok (.ifCond .ne 5, 3) := by decide +kernel
theorem dX10_miss_21 : decode cX10_miss 21 = .ok (.iconst (-1), 1) := by decide +kernel
theorem dX10_miss_22 : decode cX10_miss 22 = .ok (.ireturn, 1) := by decide +kernel
theorem dX10_miss_23 : decode cX10_miss 23 = .ok (.aload_n 0, 1) := by decide +kernel
theorem dX10_miss_24 : decode cX10_miss 24 = .ok (.aload_n 0, 1) := by decide +kernel
theorem dX10_miss_25 : decode cX10_miss 25 = .ok (.getfield 91, 3) := by decide +kernel
theorem dX10_miss_28 : decode cX10_miss 28 = .ok (.iload_n 1, 1) := by decide +kernel
theorem dX10_miss_29 : decode cX10_miss 29 = .ok (.aaload, 1) := by decide +kernel
theorem dX10_miss_30 : decode cX10_miss 30 = .ok (.iload_n 2, 1) := by decide +kernel
theorem dX10_miss_31 : decode cX10_miss 31 = .ok (.invokevirtual 276, 3) := by decide +kernel
theorem dX10_miss_34 : decode cX10_miss 34 = .ok (.ireturn, 1) := by decide +kernel
theorem dX10_explain_0 : decode cX10_explain 0 = .ok (.aload_n 0, 1) := by decide +kernel
theorem dX10_explain_1 : decode cX10_explain 1 = .ok (.iload_n 1, 1) := by decide +kernel
theorem dX10_explain_2 : decode cX10_explain 2 = .ok (.invokevirtual 126, 3) := by decide +kernel
theorem dX10_explain_5 : decode cX10_explain 5 = .ok (.ifCond .ne 6, 3) := by decide +kernel
theorem dX10_explain_8 : decode cX10_explain 8 = .ok (.bipush (-11), 2) := by decide +kernel
theorem dX10_explain_10 : decode cX10_explain 10 = .ok (.ireturn, 1) := by decide +kernel
theorem dX10_explain_11 : decode cX10_explain 11 = .ok (.aload_n 0, 1) := by decide +kernel
theorem dX10_explain_12 : decode cX10_explain 12 = .ok (.iload_n 1, 1) := by decide +kernel
theorem dX10_explain_13 : decode cX10_explain 13 = .ok (.invokevirtual 280, 3) := by decide +kernel
theorem dX10_explain_16 : decode cX10_explain 16 = .ok (.ifCond .ne 6, 3) := by decide +kernel
theorem dX10_explain_19 : decode cX10_explain 19 = .ok (.bipush (-14), 2) := by decide +kernel
theorem dX10_explain_21 : decode cX10_explain 21 = .ok (.ireturn, 1) := by decide +kernel
theorem dX10_explain_22 : decode cX10_explain 22 = .ok (.aload_n 0, 1) := by decide +kernel
theorem dX10_explain_23 : decode cX10_explain 23 = .ok (.iload_n 1, 1) := by decide +kernel
theorem dX10_explain_24 : decode cX10_explain 24 = .ok (.invokevirtual 283, 3) := by decide +kernel
theorem dX10_explain_27 : decode cX10_explain 27 = .ok (.ireturn, 1) := by decide +kernel
theorem dX10_sure_0 : decode cX10_sure 0 = .ok (.aload_n 0, 1) := by decide +kernel
theorem dX10_sure_1 : decode cX10_sure 1 = .ok (.iload_n 1, 1) := by decide +kernel
theorem dX10_sure_2 : decode cX10_sure 2 = .ok (.invokevirtual 126, 3) := by decide +kernel
theorem dX10_sure_5 : decode cX10_sure 5 = .ok (.ifCond .ne 5, 3) := by decide +kernel
theorem dX10_sure_8 : decode cX10_sure 8 = .ok (.iconst (-1), 1) := by decide +kernel
theorem dX10_sure_9 : decode cX10_sure 9 = .ok (.ireturn, 1) := by decide +kernel
theorem dX10_sure_10 : decode cX10_sure 10 = .ok (.aload_n 0, 1) := by decide +kernel
theorem dX10_sure_11 : decode cX10_sure 11 = .ok (.iload_n 1, 1) := by decide +kernel
theorem dX10_sure_12 : decode cX10_sure 12 = .ok (.invokevirtual 280, 3) := by decide +kernel
theorem dX10_sure_15 : decode cX10_sure 15 = .ok (.istore_n 2, 1) := by decide +kernel
theorem dX10_sure_16 : decode cX10_sure 16 = .ok (.iload_n 2, 1) := by decide +kernel
theorem dX10_sure_17 : decode cX10_sure 17 = .ok (.ifCond .ne 6, 3) := by decide +kernel
theorem dX10_sure_20 : decode cX10_sure 20 = .ok (.bipush (-4), 2) := by decide +kernel
theorem dX10_sure_22 : decode cX10_sure 22 = .ok (.ireturn, 1) := by decide +kernel
theorem dX10_sure_23 : decode cX10_sure 23 = .ok (.iload_n 2, 1) := by decide +kernel
theorem dX10_sure_24 : decode cX10_sure 24 = .ok (.iconst 3, 1) := by decide +kernel
theorem dX10_sure_25 : decode cX10_sure 25 = .ok (.if_icmp .ge 5, 3) := by decide +kernel
theorem dX10_sure_28 : decode cX10_sure 28 = .ok (.iconst 0, 1) := by decide +kernel
theorem dX10_sure_29 : decode cX10_sure 29 = .ok (.ireturn, 1) := by decide +kernel
theorem dX10_sure_30 : decode cX10_sure 30 = .ok (.aload_n 0, 1) := by decide +kernel
theorem dX10_sure_31 : decode cX10_sure 31 = .ok (.iload_n 1, 1) := by decide +kernel
theorem dX10_sure_32 : decode cX10_sure 32 = .ok (.aload_n 0, 1) := by decide +kernel
theorem dX10_sure_33 : decode cX10_sure 33 = .ok (.iload_n 1, 1) := by decide +kernel
theorem dX10_sure_34 : decode cX10_sure 34 = .ok (.invokevirtual 283, 3) := by decide +kernel
theorem dX10_sure_37 : decode cX10_sure 37 = .ok (.invokevirtual 286, 3) := by decide +kernel
theorem dX10_sure_40 : decode cX10_sure 40 = .ok (.istore_n 3, 1) := by decide +kernel
theorem dX10_sure_41 : decode cX10_sure 41 = .ok (.aload_n 0, 1) := by decide +kernel
theorem dX10_sure_42 : decode cX10_sure 42 = .ok (.iload_n 1, 1) := by decide +kernel
theorem dX10_sure_43 : decode cX10_sure 43 = .ok (.iconst 0, 1) := by decide +kernel
theorem dX10_sure_44 : decode cX10_sure 44 = .ok (.invokevirtual 286, 3) := by decide +kernel
theorem dX10_sure_47 : decode cX10_sure 47 = .ok (.iconst 2, 1) := by decide +kernel
theorem dX10_sure_48 : decode cX10_sure 48 = .ok (.iload_n 3, 1) := by decide +kernel
theorem dX10_sure_49 : decode cX10_sure 49 = .ok (.imul, 1) := by decide +kernel
theorem dX10_sure_50 : decode cX10_sure 50 = .ok (.if_icmp .le 7, 3) := by decide +kernel
theorem dX10_sure_53 : decode cX10_sure 53 = .ok (.iconst 1, 1) := by decide +kernel
theorem dX10_sure_54 : decode cX10_sure 54 = .ok (.goto 4, 3) := by decide +kernel
theorem dX10_sure_57 : decode cX10_sure 57 = .ok (.iconst 0, 1) := by decide +kernel
theorem dX10_sure_58 : decode cX10_sure 58 = .ok (.ireturn, 1) := by decide +kernel
theorem dX10_unrow_0 : decode cX10_unrow 0 = .ok (.aload_n 0, 1) := by decide +kernel
theorem dX10_unrow_1 : decode cX10_unrow 1 = .ok (.getfield 95, 3) := by decide +kernel
theorem dX10_unrow_4 : decode cX10_unrow 4 = .ok (.ifCond .ne 6, 3) := by decide +kernel
theorem dX10_unrow_7 : decode cX10_unrow 7 = .ok (.bipush (-2), 2) := by decide +kernel
theorem dX10_unrow_9 : decode cX10_unrow 9 = .ok (.ireturn, 1) := by decide +kernel
theorem dX10_unrow_10 : decode cX10_unrow 10 = .ok (.aload_n 0, 1) := by decide +kernel
theorem dX10_unrow_11 : decode cX10_unrow 11 = .ok (.dup, 1) := by decide +kernel
theorem dX10_unrow_12 : decode cX10_unrow 12 = .ok (.getfield 95, 3) := by decide +kernel
theorem dX10_unrow_15 : decode cX10_unrow 15 = .ok (.iconst 1, 1) := by decide +kernel
theorem dX10_unrow_16 : decode cX10_unrow 16 = .ok (.isub, 1) := by decide +kernel
theorem dX10_unrow_17 : decode cX10_unrow 17 = .ok (.putfield 95, 3) := by decide +kernel
theorem dX10_unrow_20 : decode cX10_unrow 20 = .ok (.aload_n 0, 1) := by decide +kernel
theorem dX10_unrow_21 : decode cX10_unrow 21 = .ok (.getfield 95, 3) := by decide +kernel
theorem dX10_unrow_24 : decode cX10_unrow 24 = .ok (.ireturn, 1) := by decide +kernel
theorem dX10_rows_0 : decode cX10_rows 0 = .ok (.iload 4, 2) := by decide +kernel
theorem dX10_rows_2 : decode cX10_rows 2 = .ok (.iconst 0, 1) := by decide +kernel
theorem dX10_rows_3 : decode cX10_rows 3 = .ok (.bipush 8, 2) := by decide +kernel
theorem dX10_rows_5 : decode cX10_rows 5 = .ok (.invokestatic 118, 3) := by decide +kernel
theorem dX10_rows_8 : decode cX10_rows 8 = .ok (.ifCond .ne 5, 3) := by decide +kernel
theorem dX10_rows_11 : decode cX10_rows 11 = .ok (.iconst (-1), 1) := by decide +kernel
theorem dX10_rows_12 : decode cX10_rows 12 = .ok (.ireturn, 1) := by decide +kernel
theorem dX10_rows_13 : decode cX10_rows 13 = .ok (.aload_n 0, 1) := by decide +kernel
theorem dX10_rows_14 : decode cX10_rows 14 = .ok (.iload_n 1, 1) := by decide +kernel
theorem dX10_rows_15 : decode cX10_rows 15 = .ok (.iload_n 2, 1) := by decide +kernel
theorem dX10_rows_16 : decode cX10_rows 16 = .ok (.invokevirtual 289, 3) := by decide +kernel
theorem dX10_rows_19 : decode cX10_rows 19 = .ok (.istore 5, 2) := by decide +kernel
theorem dX10_rows_21 : decode cX10_rows 21 = .ok (.iload 5, 2) := by decide +kernel
theorem dX10_rows_23 : decode cX10_rows 23 = .ok (.ifCond .eq 6, 3) := by decide +kernel
theorem dX10_rows_26 : decode cX10_rows 26 = .ok (.iload 5, 2) := by decide +kernel
theorem dX10_rows_28 : decode cX10_rows 28 = .ok (.ireturn, 1) := by decide +kernel
theorem dX10_rows_29 : decode cX10_rows 29 = .ok (.aload_n 0, 1) := by decide +kernel
theorem dX10_rows_30 : decode cX10_rows 30 = .ok (.getfield 107, 3) := by decide +kernel
theorem dX10_rows_33 : decode cX10_rows 33 = .ok (.iload_n 1, 1) := by decide +kernel
theorem dX10_rows_34 : decode cX10_rows 34 = .ok (.aaload, 1) := by decide +kernel
theorem dX10_rows_35 : decode cX10_rows 35 = .ok (.astore 6, 2) := by decide +kernel
theorem dX10_rows_37 : decode cX10_rows 37 = .ok (.aload 6, 2) := by decide +kernel
theorem dX10_rows_39 : decode cX10_rows 39 = .ok (.iload_n 3, 1) := by decide +kernel
theorem dX10_rows_40 : decode cX10_rows 40 = .ok (.iload 4, 2) := by decide +kernel
theorem dX10_rows_42 : decode cX10_rows 42 = .ok (.bipush 7, 2) := by decide +kernel
theorem dX10_rows_44 : decode cX10_rows 44 = .ok (.imul, 1) := by decide +kernel
theorem dX10_rows_45 : decode cX10_rows 45 = .ok (.invokevirtual 292, 3) := by decide +kernel
theorem dX10_rows_48 : decode cX10_rows 48 = .ok (.ifCond .ne 6, 3) := by decide +kernel
theorem dX10_rows_51 : decode cX10_rows 51 = .ok (.bipush (-13), 2) := by decide +kernel
theorem dX10_rows_53 : decode cX10_rows 53 = .ok (.ireturn, 1) := by decide +kernel
theorem dX10_rows_54 : decode cX10_rows 54 = .ok (.iconst 0, 1) := by decide +kernel
theorem dX10_rows_55 : decode cX10_rows 55 = .ok (.istore 7, 2) := by decide +kernel
theorem dX10_rows_57 : decode cX10_rows 57 = .ok (.iload 7, 2) := by decide +kernel
theorem dX10_rows_59 : decode cX10_rows 59 = .ok (.iload 4, 2) := by decide +kernel
theorem dX10_rows_61 : decode cX10_rows 61 = .ok (.if_icmp .ge 31, 3) := by decide +kernel
theorem dX10_rows_64 : decode cX10_rows 64 = .ok (.aload_n 0, 1) := by decide +kernel
theorem dX10_rows_65 : decode cX10_rows 65 = .ok (.aload 6, 2) := by decide +kernel
theorem dX10_rows_67 : decode cX10_rows 67 = .ok (.getfield 295, 3) := by decide +kernel
theorem dX10_rows_70 : decode cX10_rows 70 = .ok (.iload_n 3, 1) := by decide +kernel
theorem dX10_rows_71 : decode cX10_rows 71 = .ok (.iload 7, 2) := by decide +kernel
theorem dX10_rows_73 : decode cX10_rows 73 = .ok (.bipush 7, 2) := by decide +kernel
theorem dX10_rows_75 : decode cX10_rows 75 = .ok (.imul, 1) := by decide +kernel
theorem dX10_rows_76 : decode cX10_rows 76 = .ok (.iadd, 1) := by decide +kernel
theorem dX10_rows_77 : decode cX10_rows 77 = .ok (.invokevirtual 298, 3) := by decide +kernel
theorem dX10_rows_80 : decode cX10_rows 80 = .ok (.ifCond .ne 6, 3) := by decide +kernel
theorem dX10_rows_83 : decode cX10_rows 83 = .ok (.bipush (-2), 2) := by decide +kernel
theorem dX10_rows_85 : decode cX10_rows 85 = .ok (.ireturn, 1) := by decide +kernel
theorem dX10_rows_86 : decode cX10_rows 86 = .ok (.iinc 7 1, 3) := by decide +kernel
theorem dX10_rows_89 : decode cX10_rows 89 = .ok (.goto (-32), 3) := by decide +kernel
theorem dX10_rows_92 : decode cX10_rows 92 = .ok (.iload 4, 2) := by decide +kernel
theorem dX10_rows_94 : decode cX10_rows 94 = .ok (.bipush 30, 2) := by decide +kernel
theorem dX10_rows_96 : decode cX10_rows 96 = .ok (.aload_n 0, 1) := by decide +kernel
theorem dX10_rows_97 : decode cX10_rows 97 = .ok (.getfield 95, 3) := by decide +kernel
theorem dX10_rows_100 : decode cX10_rows 100 = .ok (.isub, 1) := by decide +kernel
theorem dX10_rows_101 : decode cX10_rows 101 = .ok (.if_icmp .le 6, 3) := by decide +kernel
theorem dX10_rows_104 : decode cX10_rows 104 = .ok (.bipush (-3), 2) := by decide +kernel
theorem dX10_rows_106 : decode cX10_rows 106 = .ok (.ireturn, 1) := by decide +kernel
theorem dX10_rows_107 : decode cX10_rows 107 = .ok (.iconst 0, 1) := by decide +kernel
theorem dX10_rows_108 : decode cX10_rows 108 = .ok (.istore 7, 2) := by decide +kernel
theorem dX10_rows_110 : decode cX10_rows 110 = .ok (.iload 7, 2) := by decide +kernel
theorem dX10_rows_112 : decode cX10_rows 112 = .ok (.iload 4, 2) := by decide +kernel
theorem dX10_rows_114 : decode cX10_rows 114 = .ok (.if_icmp .ge 25, 3) := by decide +kernel
theorem dX10_rows_117 : decode cX10_rows 117 = .ok (.aload_n 0, 1) := by decide +kernel
theorem dX10_rows_118 : decode cX10_rows 118 = .ok (.aload 6, 2) := by decide +kernel
theorem dX10_rows_120 : decode cX10_rows 120 = .ok (.getfield 295, 3) := by decide +kernel
theorem dX10_rows_123 : decode cX10_rows 123 = .ok (.iload_n 3, 1) := by decide +kernel
theorem dX10_rows_124 : decode cX10_rows 124 = .ok (.iload 7, 2) := by decide +kernel
theorem dX10_rows_126 : decode cX10_rows 126 = .ok (.bipush 7, 2) := by decide +kernel
theorem dX10_rows_128 : decode cX10_rows 128 = .ok (.imul, 1) := by decide +kernel
theorem dX10_rows_129 : decode cX10_rows 129 = .ok (.iadd, 1) := by decide +kernel
theorem dX10_rows_130 : decode cX10_rows 130 = .ok (.invokevirtual 302, 3) := by decide +kernel
theorem dX10_rows_133 : decode cX10_rows 133 = .ok (.iinc 7 1, 3) := by decide +kernel
theorem dX10_rows_136 : decode cX10_rows 136 = .ok (.goto (-26), 3) := by decide +kernel
theorem dX10_rows_139 : decode cX10_rows 139 = .ok (.aload_n 0, 1) := by decide +kernel
theorem dX10_rows_140 : decode cX10_rows 140 = .ok (.getfield 95, 3) := by decide +kernel
theorem dX10_rows_143 : decode cX10_rows 143 = .ok (.ireturn, 1) := by decide +kernel
theorem dX10_seen_0 : decode cX10_seen 0 = .ok (.aload_n 0, 1) := by decide +kernel
theorem dX10_seen_1 : decode cX10_seen 1 = .ok (.iload_n 1, 1) := by decide +kernel
theorem dX10_seen_2 : decode cX10_seen 2 = .ok (.invokevirtual 196, 3) := by decide +kernel
theorem dX10_seen_5 : decode cX10_seen 5 = .ok (.ifCond .ne 5, 3) := by decide +kernel
theorem dX10_seen_8 : decode cX10_seen 8 = .ok (.iconst (-1), 1) := by decide +kernel
theorem dX10_seen_9 : decode cX10_seen 9 = .ok (.ireturn, 1) := by decide +kernel
theorem dX10_seen_10 : decode cX10_seen 10 = .ok (.aload_n 0, 1) := by decide +kernel
theorem dX10_seen_11 : decode cX10_seen 11 = .ok (.getfield 53, 3) := by decide +kernel
theorem dX10_seen_14 : decode cX10_seen 14 = .ok (.getfield 305, 3) := by decide +kernel
theorem dX10_seen_17 : decode cX10_seen 17 = .ok (.aload_n 0, 1) := by decide +kernel
theorem dX10_seen_18 : decode cX10_seen 18 = .ok (.getfield 53, 3) := by decide +kernel
theorem dX10_seen_21 : decode cX10_seen 21 = .ok (.iload_n 1, 1) := by decide +kernel
theorem dX10_seen_22 : decode cX10_seen 22 = .ok (.iconst 0, 1) := by decide +kernel
theorem dX10_seen_23 : decode cX10_seen 23 = .ok (.invokevirtual 200, 3) := by decide +kernel
theorem dX10_seen_26 : decode cX10_seen 26 = .ok (.isub, 1) := by decide +kernel
theorem dX10_seen_27 : decode cX10_seen 27 = .ok (.invokestatic 308, 3) := by decide +kernel
theorem dX10_seen_30 : decode cX10_seen 30 = .ok (.istore_n 2, 1) := by decide +kernel
theorem dX10_seen_31 : decode cX10_seen 31 = .ok (.aload_n 0, 1) := by decide +kernel
theorem dX10_seen_32 : decode cX10_seen 32 = .ok (.getfield 53, 3) := by decide +kernel
theorem dX10_seen_35 : decode cX10_seen 35 = .ok (.getfield 311, 3) := by decide +kernel
theorem dX10_seen_38 : decode cX10_seen 38 = .ok (.aload_n 0, 1) := by decide +kernel
theorem dX10_seen_39 : decode cX10_seen 39 = .ok (.getfield 53, 3) := by decide +kernel
theorem dX10_seen_42 : decode cX10_seen 42 = .ok (.iload_n 1, 1) := by decide +kernel
theorem dX10_seen_43 : decode cX10_seen 43 = .ok (.iconst 1, 1) := by decide +kernel
theorem dX10_seen_44 : decode cX10_seen 44 = .ok (.invokevirtual 200, 3) := by decide +kernel
theorem dX10_seen_47 : decode cX10_seen 47 = .ok (.isub, 1) := by decide +kernel
theorem dX10_seen_48 : decode cX10_seen 48 = .ok (.invokestatic 308, 3) := by decide +kernel
theorem dX10_seen_51 : decode cX10_seen 51 = .ok (.istore_n 3, 1) := by decide +kernel
theorem dX10_seen_52 : decode cX10_seen 52 = .ok (.aload_n 0, 1) := by decide +kernel
theorem dX10_seen_53 : decode cX10_seen 53 = .ok (.getfield 101, 3) := by decide +kernel
theorem dX10_seen_56 : decode cX10_seen 56 = .ok (.iload_n 2, 1) := by decide +kernel
theorem dX10_seen_57 : decode cX10_seen 57 = .ok (.iload_n 3, 1) := by decide +kernel
theorem dX10_seen_58 : decode cX10_seen 58 = .ok (.invokevirtual 314, 3) := by decide +kernel
theorem dX10_seen_61 : decode cX10_seen 61 = .ok (.ireturn, 1) := by decide +kernel
theorem dX10_patch_0 : decode cX10_patch 0 = .ok (.iload_n 1, 1) := by decide +kernel
theorem dX10_patch_1 : decode cX10_patch 1 = .ok (.invokestatic 317, 3) := by decide +kernel
theorem dX10_patch_4 : decode cX10_patch 4 = .ok (.ifCond .eq 24, 3) := by decide +kernel
theorem dX10_patch_7 : decode cX10_patch 7 = .ok (.iload_n 2, 1) := by decide +kernel
theorem dX10_patch_8 : decode cX10_patch 8 = .ok (.iconst 0, 1) := by decide +kernel
theorem dX10_patch_9 : decode cX10_patch 9 = .ok (.sipush 1000, 3) := by decide +kernel
theorem dX10_patch_12 : decode cX10_patch 12 = .ok (.invokestatic 118, 3) := by decide +kernel
theorem dX10_patch_15 : decode cX10_patch 15 = .ok (.ifCond .eq 13, 3) := by decide +kernel
theorem dX10_patch_18 : decode cX10_patch 18 = .ok (.iload_n 3, 1) := by decide +kernel
theorem dX10_patch_19 : decode cX10_patch 19 = .ok (.iconst 1, 1) := by decide +kernel
theorem dX10_patch_20 : decode cX10_patch 20 = .ok (.bipush 9, 2) := by decide +kernel
theorem dX10_patch_22 : decode cX10_patch 22 = .ok (.invokestatic 118, 3) := by decide +kernel
theorem dX10_patch_25 : decode cX10_patch 25 = .ok (.ifCond .ne 5, 3) := by decide +kernel
theorem dX10_patch_28 : decode cX10_patch 28 = .ok (.iconst (-1), 1) := by decide +kernel
theorem dX10_patch_29 : decode cX10_patch 29 = .ok (.ireturn, 1) := by decide +kernel
theorem dX10_patch_30 : decode cX10_patch 30 = .ok (.aload_n 0, 1) := by decide +kernel
theorem dX10_patch_31 : decode cX10_patch 31 = .ok (.getfield 101, 3) := by decide +kernel
theorem dX10_patch_34 : decode cX10_patch 34 = .ok (.getfield 320, 3) := by decide +kernel
theorem dX10_patch_37 : decode cX10_patch 37 = .ok (.iload_n 1, 1) := by decide +kernel
theorem dX10_patch_38 : decode cX10_patch 38 = .ok (.iaload, 1) := by decide +kernel
theorem dX10_patch_39 : decode cX10_patch 39 = .ok (.istore 4, 2) := by decide +kernel
theorem dX10_patch_41 : decode cX10_patch 41 = .ok (.aload_n 0, 1) := by decide +kernel
theorem dX10_patch_42 : decode cX10_patch 42 = .ok (.getfield 101, 3) := by decide +kernel
theorem dX10_patch_45 : decode cX10_patch 45 = .ok (.getfield 320, 3) := by decide +kernel
theorem dX10_patch_48 : decode cX10_patch 48 = .ok (.iload_n 1, 1) := by decide +kernel
theorem dX10_patch_49 : decode cX10_patch 49 = .ok (.iload_n 2, 1) := by decide +kernel
theorem dX10_patch_50 : decode cX10_patch 50 = .ok (.iastore, 1) := by decide +kernel
theorem dX10_patch_51 : decode cX10_patch 51 = .ok (.aload_n 0, 1) := by decide +kernel
theorem dX10_patch_52 : decode cX10_patch 52 = .ok (.getfield 101, 3) := by decide +kernel
theorem dX10_patch_55 : decode cX10_patch 55 = .ok (.getfield 323, 3) := by decide +kernel
theorem dX10_patch_58 : decode cX10_patch 58 = .ok (.iload_n 1, 1) := by decide +kernel
theorem dX10_patch_59 : decode cX10_patch 59 = .ok (.iload_n 3, 1) := by decide +kernel
theorem dX10_patch_60 : decode cX10_patch 60 = .ok (.iastore, 1) := by decide +kernel
theorem dX10_patch_61 : decode cX10_patch 61 = .ok (.iload 4, 2) := by decide +kernel
theorem dX10_patch_63 : decode cX10_patch 63 = .ok (.ireturn, 1) := by decide +kernel
theorem dX10_grass_0 : decode cX10_grass 0 = .ok (.iload_n 1, 1) := by decide +kernel
theorem dX10_grass_1 : decode cX10_grass 1 = .ok (.invokestatic 317, 3) := by decide +kernel
theorem dX10_grass_4 : decode cX10_grass 4 = .ok (.ifCond .eq 12, 3) := by decide +kernel
theorem dX10_grass_7 : decode cX10_grass 7 = .ok (.iload_n 2, 1) := by decide +kernel
theorem dX10_grass_8 : decode cX10_grass 8 = .ok (.iconst 0, 1) := by decide +kernel
theorem dX10_grass_9 : decode cX10_grass 9 = .ok (.iconst 1, 1) := by decide +kernel
theorem dX10_grass_10 : decode cX10_grass 10 = .ok (.invokestatic 118, 3) := by decide +kernel
theorem dX10_grass_13 : decode cX10_grass 13 = .ok (.ifCond .ne 5, 3) := by decide +kernel
theorem dX10_grass_16 : decode cX10_grass 16 = .ok (.iconst (-1), 1) := by decide +kernel
theorem dX10_grass_17 : decode cX10_grass 17 = .ok (.ireturn, 1) := by decide +kernel
theorem dX10_grass_18 : decode cX10_grass 18 = .ok (.iload_n 2, 1) := by decide +kernel
theorem dX10_grass_19 : decode cX10_grass 19 = .ok (.ifCond .ne 15, 3) := by decide +kernel
theorem dX10_grass_22 : decode cX10_grass 22 = .ok (.aload_n 0, 1) := by decide +kernel
theorem dX10_grass_23 : decode cX10_grass 23 = .ok (.getfield 101, 3) := by decide +kernel
theorem dX10_grass_26 : decode cX10_grass 26 = .ok (.getfield 320, 3) := by decide +kernel
theorem dX10_grass_29 : decode cX10_grass 29 = .ok (.iload_n 1, 1) := by decide +kernel
theorem dX10_grass_30 : decode cX10_grass 30 = .ok (.iaload, 1) := by decide +kernel
theorem dX10_grass_31 : decode cX10_grass 31 = .ok (.goto 12, 3) := by decide +kernel
theorem dX10_grass_34 : decode cX10_grass 34 = .ok (.aload_n 0, 1) := by decide +kernel
theorem dX10_grass_35 : decode cX10_grass 35 = .ok (.getfield 101, 3) := by decide +kernel
theorem dX10_grass_38 : decode cX10_grass 38 = .ok (.getfield 323, 3) := by decide +kernel
theorem dX10_grass_41 : decode cX10_grass 41 = .ok (.iload_n 1, 1) := by decide +kernel
theorem dX10_grass_42 : decode cX10_grass 42 = .ok (.iaload, 1) := by decide +kernel
theorem dX10_grass_43 : decode cX10_grass 43 = .ok (.ireturn, 1) := by decide +kernel
theorem dX10_next_0 : decode cX10_next 0 = .ok (.aload_n 0, 1) := by decide +kernel
theorem dX10_next_1 : decode cX10_next 1 = .ok (.getfield 101, 3) := by decide +kernel
theorem dX10_next_4 : decode cX10_next 4 = .ok (.invokevirtual 326, 3) := by decide +kernel
theorem dX10_next_7 : decode cX10_next 7 = .ok (.ireturn, 1) := by decide +kernel
theorem dX10_search_0 : decode cX10_search 0 = .ok (.iload_n 1, 1) := by decide +kernel
theorem dX10_search_1 : decode cX10_search 1 = .ok (.invokestatic 317, 3) := by decide +kernel
theorem dX10_search_4 : decode cX10_search 4 = .ok (.ifCond .ne 5, 3) := by decide +kernel
theorem dX10_search_7 : decode cX10_search 7 = .ok (.iconst (-1), 1) := by decide +kernel
theorem dX10_search_8 : decode cX10_search 8 = .ok (.ireturn, 1) := by decide +kernel
theorem dX10_search_9 : decode cX10_search 9 = .ok (.aload_n 0, 1) := by decide +kernel
theorem dX10_search_10 : decode cX10_search 10 = .ok (.getfield 101, 3) := by decide +kernel
theorem dX10_search_13 : decode cX10_search 13 = .ok (.iload_n 1, 1) := by decide +kernel
theorem dX10_search_14 : decode cX10_search 14 = .ok (.invokevirtual 329, 3) := by decide +kernel
theorem dX10_search_17 : decode cX10_search 17 = .ok (.ireturn, 1) := by decide +kernel
theorem dX10_count_0 : decode cX10_count 0 = .ok (.iload_n 1, 1) := by decide +kernel
theorem dX10_count_1 : decode cX10_count 1 = .ok (.tableswitch 78 0 5 #[39, 44, 52, 57, 65, 70], 39) := by decide +kernel
theorem dX10_count_40 : decode cX10_count 40 = .ok (.aload_n 0, 1) := by decide +kernel
theorem dX10_count_41 : decode cX10_count 41 = .ok (.getfield 23, 3) := by decide +kernel
theorem dX10_count_44 : decode cX10_count 44 = .ok (.ireturn, 1) := by decide +kernel
theorem dX10_count_45 : decode cX10_count 45 = .ok (.aload_n 0, 1) := by decide +kernel
theorem dX10_count_46 : decode cX10_count 46 = .ok (.invokevirtual 214, 3) := by decide +kernel
theorem dX10_count_49 : decode cX10_count 49 = .ok (.invokestatic 254, 3) := by decide +kernel
theorem dX10_count_52 : decode cX10_count 52 = .ok (.ireturn, 1) := by decide +kernel
theorem dX10_count_53 : decode cX10_count 53 = .ok (.aload_n 0, 1) := by decide +kernel
theorem dX10_count_54 : decode cX10_count 54 = .ok (.getfield 33, 3) := by decide +kernel
theorem dX10_count_57 : decode cX10_count 57 = .ok (.ireturn, 1) := by decide +kernel
theorem dX10_count_58 : decode cX10_count 58 = .ok (.aload_n 0, 1) := by decide +kernel
theorem dX10_count_59 : decode cX10_count 59 = .ok (.getfield 44, 3) := by decide +kernel
theorem dX10_count_62 : decode cX10_count 62 = .ok (.getfield 332, 3) := by decide +kernel
theorem dX10_count_65 : decode cX10_count 65 = .ok (.ireturn, 1) := by decide +kernel
theorem dX10_count_66 : decode cX10_count 66 = .ok (.aload_n 0, 1) := by decide +kernel
theorem dX10_count_67 : decode cX10_count 67 = .ok (.getfield 95, 3) := by decide +kernel
theorem dX10_count_70 : decode cX10_count 70 = .ok (.ireturn, 1) := by decide +kernel
theorem dX10_count_71 : decode cX10_count 71 = .ok (.aload_n 0, 1) := by decide +kernel
theorem dX10_count_72 : decode cX10_count 72 = .ok (.getfield 85, 3) := by decide +kernel
theorem dX10_count_75 : decode cX10_count 75 = .ok (.invokevirtual 251, 3) := by decide +kernel
theorem dX10_count_78 : decode cX10_count 78 = .ok (.ireturn, 1) := by decide +kernel
theorem dX10_count_79 : decode cX10_count 79 = .ok (.iconst (-1), 1) := by decide +kernel
theorem dX10_count_80 : decode cX10_count 80 = .ok (.ireturn, 1) := by decide +kernel
theorem dX10_sheet_0 : decode cX10_sheet 0 = .ok (.iload_n 1, 1) := by decide +kernel
theorem dX10_sheet_1 : decode cX10_sheet 1 = .ok (.invokestatic 335, 3) := by decide +kernel
theorem dX10_sheet_4 : decode cX10_sheet 4 = .ok (.ifCond .eq 16, 3) := by decide +kernel
theorem dX10_sheet_7 : decode cX10_sheet 7 = .ok (.iload_n 2, 1) := by decide +kernel
theorem dX10_sheet_8 : decode cX10_sheet 8 = .ok (.invokestatic 338, 3) := by decide +kernel
theorem dX10_sheet_11 : decode cX10_sheet 11 = .ok (.ifCond .eq 9, 3) := by decide +kernel
theorem dX10_sheet_14 : decode cX10_sheet 14 = .ok (.iload_n 3, 1) := by decide +kernel
theorem dX10_sheet_15 : decode cX10_sheet 15 = .ok (.bipush 60, 2) := by decide +kernel
theorem dX10_sheet_17 : decode cX10_sheet 17 = .ok (.if_icmp .le 5, 3) := by decide +kernel
theorem dX10_sheet_20 : decode cX10_sheet 20 = .ok (.iconst (-1), 1) := by decide +kernel
theorem dX10_sheet_21 : decode cX10_sheet 21 = .ok (.ireturn, 1) := by decide +kernel
theorem dX10_sheet_22 : decode cX10_sheet 22 = .ok (.iload_n 3, 1) := by decide +kernel
theorem dX10_sheet_23 : decode cX10_sheet 23 = .ok (.ifCond .ge 6, 3) := by decide +kernel
theorem dX10_sheet_26 : decode cX10_sheet 26 = .ok (.bipush (-14), 2) := by decide +kernel
theorem dX10_sheet_28 : decode cX10_sheet 28 = .ok (.ireturn, 1) := by decide +kernel
theorem dX10_sheet_29 : decode cX10_sheet 29 = .ok (.aload_n 0, 1) := by decide +kernel
theorem dX10_sheet_30 : decode cX10_sheet 30 = .ok (.getfield 107, 3) := by decide +kernel
theorem dX10_sheet_33 : decode cX10_sheet 33 = .ok (.iload_n 1, 1) := by decide +kernel
theorem dX10_sheet_34 : decode cX10_sheet 34 = .ok (.aaload, 1) := by decide +kernel
theorem dX10_sheet_35 : decode cX10_sheet 35 = .ok (.iload_n 2, 1) := by decide +kernel
theorem dX10_sheet_36 : decode cX10_sheet 36 = .ok (.iload_n 3, 1) := by decide +kernel
theorem dX10_sheet_37 : decode cX10_sheet 37 = .ok (.invokevirtual 341, 3) := by decide +kernel
theorem dX10_sheet_40 : decode cX10_sheet 40 = .ok (.iload_n 3, 1) := by decide +kernel
theorem dX10_sheet_41 : decode cX10_sheet 41 = .ok (.ireturn, 1) := by decide +kernel
theorem dX10_drop_0 : decode cX10_drop 0 = .ok (.iload_n 1, 1) := by decide +kernel
theorem dX10_drop_1 : decode cX10_drop 1 = .ok (.invokestatic 335, 3) := by decide +kernel
theorem dX10_drop_4 : decode cX10_drop 4 = .ok (.ifCond .ne 5, 3) := by decide +kernel
theorem dX10_drop_7 : decode cX10_drop 7 = .ok (.iconst (-1), 1) := by decide +kernel
theorem dX10_drop_8 : decode cX10_drop 8 = .ok (.ireturn, 1) := by decide +kernel
theorem dX10_drop_9 : decode cX10_drop 9 = .ok (.aload_n 0, 1) := by decide +kernel
theorem dX10_drop_10 : decode cX10_drop 10 = .ok (.getfield 107, 3) := by decide +kernel
theorem dX10_drop_13 : decode cX10_drop 13 = .ok (.iload_n 1, 1) := by decide +kernel
theorem dX10_drop_14 : decode cX10_drop 14 = .ok (.aaload, 1) := by decide +kernel
theorem dX10_drop_15 : decode cX10_drop 15 = .ok (.invokevirtual 345, 3) := by decide +kernel
theorem dX10_drop_18 : decode cX10_drop 18 = .ok (.ifCond .eq 6, 3) := by decide +kernel
theorem dX10_drop_21 : decode cX10_drop 21 = .ok (.bipush (-11), 2) := by decide +kernel
theorem dX10_drop_23 : decode cX10_drop 23 = .ok (.ireturn, 1) := by decide +kernel
theorem dX10_drop_24 : decode cX10_drop 24 = .ok (.aload_n 0, 1) := by decide +kernel
theorem dX10_drop_25 : decode cX10_drop 25 = .ok (.getfield 107, 3) := by decide +kernel
theorem dX10_drop_28 : decode cX10_drop 28 = .ok (.iload_n 1, 1) := by decide +kernel
theorem dX10_drop_29 : decode cX10_drop 29 = .ok (.aaload, 1) := by decide +kernel
theorem dX10_drop_30 : decode cX10_drop 30 = .ok (.getfield 348, 3) := by decide +kernel
theorem dX10_drop_33 : decode cX10_drop 33 = .ok (.istore_n 2, 1) := by decide +kernel
theorem dX10_drop_34 : decode cX10_drop 34 = .ok (.aload_n 0, 1) := by decide +kernel
theorem dX10_drop_35 : decode cX10_drop 35 = .ok (.getfield 107, 3) := by decide +kernel
theorem dX10_drop_38 : decode cX10_drop 38 = .ok (.iload_n 1, 1) := by decide +kernel
theorem dX10_drop_39 : decode cX10_drop 39 = .ok (.aaload, 1) := by decide +kernel
theorem dX10_drop_40 : decode cX10_drop 40 = .ok (.iconst (-1), 1) := by decide +kernel
theorem dX10_drop_41 : decode cX10_drop 41 = .ok (.iconst 0, 1) := by decide +kernel
theorem dX10_drop_42 : decode cX10_drop 42 = .ok (.invokevirtual 341, 3) := by decide +kernel
theorem dX10_drop_45 : decode cX10_drop 45 = .ok (.iload_n 2, 1) := by decide +kernel
theorem dX10_drop_46 : decode cX10_drop 46 = .ok (.ireturn, 1) := by decide +kernel
theorem dX10_item_0 : decode cX10_item 0 = .ok (.aload_n 0, 1) := by decide +kernel
theorem dX10_item_1 : decode cX10_item 1 = .ok (.iload_n 1, 1) := by decide +kernel
theorem dX10_item_2 : decode cX10_item 2 = .ok (.iload_n 2, 1) := by decide +kernel
theorem dX10_item_3 : decode cX10_item 3 = .ok (.invokevirtual 289, 3) := by decide +kernel
theorem dX10_item_6 : decode cX10_item 6 = .ok (.istore 5, 2) := by decide +kernel
theorem dX10_item_8 : decode cX10_item 8 = .ok (.iload 5, 2) := by decide +kernel
theorem dX10_item_10 : decode cX10_item 10 = .ok (.ifCond .eq 6, 3) := by decide +kernel
theorem dX10_item_13 : decode cX10_item 13 = .ok (.iload 5, 2) := by decide +kernel
theorem dX10_item_15 : decode cX10_item 15 = .ok (.ireturn, 1) := by decide +kernel
theorem dX10_item_16 : decode cX10_item 16 = .ok (.aload_n 0, 1) := by decide +kernel
theorem dX10_item_17 : decode cX10_item 17 = .ok (.getfield 107, 3) := by decide +kernel
theorem dX10_item_20 : decode cX10_item 20 = .ok (.iload_n 1, 1) := by decide +kernel
theorem dX10_item_21 : decode cX10_item 21 = .ok (.aaload, 1) := by decide +kernel
theorem dX10_item_22 : decode cX10_item 22 = .ok (.iload_n 3, 1) := by decide +kernel
theorem dX10_item_23 : decode cX10_item 23 = .ok (.iconst 1, 1) := by decide +kernel
theorem dX10_item_24 : decode cX10_item 24 = .ok (.invokevirtual 292, 3) := by decide +kernel
theorem dX10_item_27 : decode cX10_item 27 = .ok (.ifCond .ne 6, 3) := by decide +kernel
theorem dX10_item_30 : decode cX10_item 30 = .ok (.bipush (-13), 2) := by decide +kernel
theorem dX10_item_32 : decode cX10_item 32 = .ok (.ireturn, 1) := by decide +kernel
theorem dX10_item_33 : decode cX10_item 33 = .ok (.aload_n 0, 1) := by decide +kernel
theorem dX10_item_34 : decode cX10_item 34 = .ok (.getfield 107, 3) := by decide +kernel
theorem dX10_item_37 : decode cX10_item 37 = .ok (.iload_n 1, 1) := by decide +kernel
theorem dX10_item_38 : decode cX10_item 38 = .ok (.aaload, 1) := by decide +kernel
theorem dX10_item_39 : decode cX10_item 39 = .ok (.iload_n 3, 1) := by decide +kernel
theorem dX10_item_40 : decode cX10_item 40 = .ok (.iload 4, 2) := by decide +kernel
theorem dX10_item_42 : decode cX10_item 42 = .ok (.invokevirtual 351, 3) := by decide +kernel
theorem dX10_item_45 : decode cX10_item 45 = .ok (.iconst 1, 1) := by decide +kernel
theorem dX10_item_46 : decode cX10_item 46 = .ok (.ireturn, 1) := by decide +kernel
theorem dX10_copy_0 : decode cX10_copy 0 = .ok (.iload_n 1, 1) := by decide +kernel
theorem dX10_copy_1 : decode cX10_copy 1 = .ok (.invokestatic 335, 3) := by decide +kernel
theorem dX10_copy_4 : decode cX10_copy 4 = .ok (.ifCond .eq 10, 3) := by decide +kernel
theorem dX10_copy_7 : decode cX10_copy 7 = .ok (.iload_n 3, 1) := by decide +kernel
theorem dX10_copy_8 : decode cX10_copy 8 = .ok (.invokestatic 335, 3) := by decide +kernel
theorem dX10_copy_11 : decode cX10_copy 11 = .ok (.ifCond .ne 5, 3) := by decide +kernel
theorem dX10_copy_14 : decode cX10_copy 14 = .ok (.iconst (-1), 1) := by decide +kernel
theorem dX10_copy_15 : decode cX10_copy 15 = .ok (.ireturn, 1) := by decide +kernel
theorem dX10_copy_16 : decode cX10_copy 16 = .ok (.aload_n 0, 1) := by decide +kernel
theorem dX10_copy_17 : decode cX10_copy 17 = .ok (.getfield 107, 3) := by decide +kernel
theorem dX10_copy_20 : decode cX10_copy 20 = .ok (.iload_n 1, 1) := by decide +kernel
theorem dX10_copy_21 : decode cX10_copy 21 = .ok (.aaload, 1) := by decide +kernel
theorem dX10_copy_22 : decode cX10_copy 22 = .ok (.astore 6, 2) := by decide +kernel
theorem dX10_copy_24 : decode cX10_copy 24 = .ok (.aload_n 0, 1) := by decide +kernel
theorem dX10_copy_25 : decode cX10_copy 25 = .ok (.getfield 107, 3) := by decide +kernel
theorem dX10_copy_28 : decode cX10_copy 28 = .ok (.iload_n 3, 1) := by decide +kernel
theorem dX10_copy_29 : decode cX10_copy 29 = .ok (.aaload, 1) := by decide +kernel
theorem dX10_copy_30 : decode cX10_copy 30 = .ok (.astore 7, 2) := by decide +kernel
theorem dX10_copy_32 : decode cX10_copy 32 = .ok (.aload 6, 2) := by decide +kernel
theorem dX10_copy_34 : decode cX10_copy 34 = .ok (.invokevirtual 345, 3) := by decide +kernel
theorem dX10_copy_37 : decode cX10_copy 37 = .ok (.ifCond .ne 11, 3) := by decide +kernel
theorem dX10_copy_40 : decode cX10_copy 40 = .ok (.aload 7, 2) := by decide +kernel
theorem dX10_copy_42 : decode cX10_copy 42 = .ok (.invokevirtual 345, 3) := by decide +kernel
theorem dX10_copy_45 : decode cX10_copy 45 = .ok (.ifCond .eq 6, 3) := by decide +kernel
theorem dX10_copy_48 : decode cX10_copy 48 = .ok (.bipush (-11), 2) := by decide +kernel
theorem dX10_copy_50 : decode cX10_copy 50 = .ok (.ireturn, 1) := by decide +kernel
theorem dX10_copy_51 : decode cX10_copy 51 = .ok (.aload 6, 2) := by decide +kernel
theorem dX10_copy_53 : decode cX10_copy 53 = .ok (.getfield 354, 3) := by decide +kernel
theorem dX10_copy_56 : decode cX10_copy 56 = .ok (.aload 7, 2) := by decide +kernel
theorem dX10_copy_58 : decode cX10_copy 58 = .ok (.getfield 354, 3) := by decide +kernel
theorem dX10_copy_61 : decode cX10_copy 61 = .ok (.if_icmp .eq 6, 3) := by decide +kernel
theorem dX10_copy_64 : decode cX10_copy 64 = .ok (.bipush (-12), 2) := by decide +kernel
theorem dX10_copy_66 : decode cX10_copy 66 = .ok (.ireturn, 1) := by decide +kernel
theorem dX10_copy_67 : decode cX10_copy 67 = .ok (.aload 6, 2) := by decide +kernel
theorem dX10_copy_69 : decode cX10_copy 69 = .ok (.iload_n 2, 1) := by decide +kernel
theorem dX10_copy_70 : decode cX10_copy 70 = .ok (.iload 5, 2) := by decide +kernel
theorem dX10_copy_72 : decode cX10_copy 72 = .ok (.invokevirtual 292, 3) := by decide +kernel
theorem dX10_copy_75 : decode cX10_copy 75 = .ok (.ifCond .eq 15, 3) := by decide +kernel
theorem dX10_copy_78 : decode cX10_copy 78 = .ok (.aload 7, 2) := by decide +kernel
theorem dX10_copy_80 : decode cX10_copy 80 = .ok (.iload 4, 2) := by decide +kernel
theorem dX10_copy_82 : decode cX10_copy 82 = .ok (.iload 5, 2) := by decide +kernel
theorem dX10_copy_84 : decode cX10_copy 84 = .ok (.invokevirtual 292, 3) := by decide +kernel
theorem dX10_copy_87 : decode cX10_copy 87 = .ok (.ifCond .ne 6, 3) := by decide +kernel
theorem dX10_copy_90 : decode cX10_copy 90 = .ok (.bipush (-13), 2) := by decide +kernel
theorem dX10_copy_92 : decode cX10_copy 92 = .ok (.ireturn, 1) := by decide +kernel
theorem dX10_copy_93 : decode cX10_copy 93 = .ok (.aload 6, 2) := by decide +kernel
theorem dX10_copy_95 : decode cX10_copy 95 = .ok (.getfield 295, 3) := by decide +kernel
theorem dX10_copy_98 : decode cX10_copy 98 = .ok (.iload_n 2, 1) := by decide +kernel
theorem dX10_copy_99 : decode cX10_copy 99 = .ok (.aload 7, 2) := by decide +kernel
theorem dX10_copy_101 : decode cX10_copy 101 = .ok (.getfield 295, 3) := by decide +kernel
theorem dX10_copy_104 : decode cX10_copy 104 = .ok (.iload 4, 2) := by decide +kernel
theorem dX10_copy_106 : decode cX10_copy 106 = .ok (.iload 5, 2) := by decide +kernel
theorem dX10_copy_108 : decode cX10_copy 108 = .ok (.invokestatic 357, 3) := by decide +kernel
theorem dX10_copy_111 : decode cX10_copy 111 = .ok (.iload 5, 2) := by decide +kernel
theorem dX10_copy_113 : decode cX10_copy 113 = .ok (.ireturn, 1) := by decide +kernel
theorem dX10_within_0 : decode cX10_within 0 = .ok (.iload_n 0, 1) := by decide +kernel
theorem dX10_within_1 : decode cX10_within 1 = .ok (.iload_n 1, 1) := by decide +kernel
theorem dX10_within_2 : decode cX10_within 2 = .ok (.if_icmp .lt 12, 3) := by decide +kernel
theorem dX10_within_5 : decode cX10_within 5 = .ok (.iload_n 0, 1) := by decide +kernel
theorem dX10_within_6 : decode cX10_within 6 = .ok (.iload_n 2, 1) := by decide +kernel
theorem dX10_within_7 : decode cX10_within 7 = .ok (.if_icmp .gt 7, 3) := by decide +kernel
theorem dX10_within_10 : decode cX10_within 10 = .ok (.iconst 1, 1) := by decide +kernel
theorem dX10_within_11 : decode cX10_within 11 = .ok (.goto 4, 3) := by decide +kernel
theorem dX10_within_14 : decode cX10_within 14 = .ok (.iconst 0, 1) := by decide +kernel
theorem dX10_within_15 : decode cX10_within 15 = .ok (.ireturn, 1) := by decide +kernel
theorem dX10_isDirection_0 : decode cX10_isDirection 0 = .ok (.iload_n 0, 1) := by decide +kernel
theorem dX10_isDirection_1 : decode cX10_isDirection 1 = .ok (.iconst 0, 1) := by decide +kernel
theorem dX10_isDirection_2 : decode cX10_isDirection 2 = .ok (.sipush 359, 3) := by decide +kernel
theorem dX10_isDirection_5 : decode cX10_isDirection 5 = .ok (.invokestatic 118, 3) := by decide +kernel
theorem dX10_isDirection_8 : decode cX10_isDirection 8 = .ok (.ireturn, 1) := by decide +kernel
theorem dX10_isBend_0 : decode cX10_isBend 0 = .ok (.iload_n 0, 1) := by decide +kernel
theorem dX10_isBend_1 : decode cX10_isBend 1 = .ok (.bipush (-9), 2) := by decide +kernel
theorem dX10_isBend_3 : decode cX10_isBend 3 = .ok (.bipush 9, 2) := by decide +kernel
theorem dX10_isBend_5 : decode cX10_isBend 5 = .ok (.invokestatic 118, 3) := by decide +kernel
theorem dX10_isBend_8 : decode cX10_isBend 8 = .ok (.ireturn, 1) := by decide +kernel
theorem dX10_isPatch_0 : decode cX10_isPatch 0 = .ok (.iload_n 0, 1) := by decide +kernel
theorem dX10_isPatch_1 : decode cX10_isPatch 1 = .ok (.iconst 0, 1) := by decide +kernel
theorem dX10_isPatch_2 : decode cX10_isPatch 2 = .ok (.bipush 24, 2) := by decide +kernel
theorem dX10_isPatch_4 : decode cX10_isPatch 4 = .ok (.invokestatic 118, 3) := by decide +kernel
theorem dX10_isPatch_7 : decode cX10_isPatch 7 = .ok (.ireturn, 1) := by decide +kernel
theorem dX10_isSheet_0 : decode cX10_isSheet 0 = .ok (.iload_n 0, 1) := by decide +kernel
theorem dX10_isSheet_1 : decode cX10_isSheet 1 = .ok (.iconst 0, 1) := by decide +kernel
theorem dX10_isSheet_2 : decode cX10_isSheet 2 = .ok (.iconst 3, 1) := by decide +kernel
theorem dX10_isSheet_3 : decode cX10_isSheet 3 = .ok (.invokestatic 118, 3) := by decide +kernel
theorem dX10_isSheet_6 : decode cX10_isSheet 6 = .ok (.ireturn, 1) := by decide +kernel
theorem dX10_isLane_0 : decode cX10_isLane 0 = .ok (.iload_n 0, 1) := by decide +kernel
theorem dX10_isLane_1 : decode cX10_isLane 1 = .ok (.iconst 0, 1) := by decide +kernel
theorem dX10_isLane_2 : decode cX10_isLane 2 = .ok (.iconst 2, 1) := by decide +kernel
theorem dX10_isLane_3 : decode cX10_isLane 3 = .ok (.invokestatic 118, 3) := by decide +kernel
theorem dX10_isLane_6 : decode cX10_isLane 6 = .ok (.ireturn, 1) := by decide +kernel
theorem dX10_isStyle_0 : decode cX10_isStyle 0 = .ok (.iload_n 0, 1) := by decide +kernel
theorem dX10_isStyle_1 : decode cX10_isStyle 1 = .ok (.iconst 0, 1) := by decide +kernel
theorem dX10_isStyle_2 : decode cX10_isStyle 2 = .ok (.bipush 90, 2) := by decide +kernel
theorem dX10_isStyle_4 : decode cX10_isStyle 4 = .ok (.invokestatic 118, 3) := by decide +kernel
theorem dX10_isStyle_7 : decode cX10_isStyle 7 = .ok (.ifCond .eq 38, 3) := by decide +kernel
theorem dX10_isStyle_10 : decode cX10_isStyle 10 = .ok (.iload_n 1, 1) := by decide +kernel
theorem dX10_isStyle_11 : decode cX10_isStyle 11 = .ok (.invokestatic 164, 3) := by decide +kernel
theorem dX10_isStyle_14 : decode cX10_isStyle 14 = .ok (.ifCond .eq 31, 3) := by decide +kernel
theorem dX10_isStyle_17 : decode cX10_isStyle 17 = .ok (.iload_n 2, 1) := by decide +kernel
theorem dX10_isStyle_18 : decode cX10_isStyle 18 = .ok (.bipush 30, 2) := by decide +kernel
theorem dX10_isStyle_20 : decode cX10_isStyle 20 = .ok (.sipush 250, 3) := by decide +kernel
theorem dX10_isStyle_23 : decode cX10_isStyle 23 = .ok (.invokestatic 118, 3) := by decide +kernel
theorem dX10_isStyle_26 : decode cX10_isStyle 26 = .ok (.ifCond .eq 19, 3) := by decide +kernel
theorem dX10_isStyle_29 : decode cX10_isStyle 29 = .ok (.iload_n 3, 1) := by decide +kernel
theorem dX10_isStyle_30 : decode cX10_isStyle 30 = .ok (.bipush 100, 2) := by decide +kernel
theorem dX10_isStyle_32 : decode cX10_isStyle 32 = .ok (.sipush 1000, 3) := by decide +kernel
theorem dX10_isStyle_35 : decode cX10_isStyle 35 = .ok (.invokestatic 118, 3) := by decide +kernel
theorem dX10_isStyle_38 : decode cX10_isStyle 38 = .ok (.ifCond .eq 7, 3) := by decide +kernel
theorem dX10_isStyle_41 : decode cX10_isStyle 41 = .ok (.iconst 1, 1) := by decide +kernel
theorem dX10_isStyle_42 : decode cX10_isStyle 42 = .ok (.goto 4, 3) := by decide +kernel
theorem dX10_isStyle_45 : decode cX10_isStyle 45 = .ok (.iconst 0, 1) := by decide +kernel
theorem dX10_isStyle_46 : decode cX10_isStyle 46 = .ok (.ireturn, 1) := by decide +kernel
theorem dX10_isSetOf_0 : decode cX10_isSetOf 0 = .ok (.iload_n 0, 1) := by decide +kernel
theorem dX10_isSetOf_1 : decode cX10_isSetOf 1 = .ok (.ifCond .le 14, 3) := by decide +kernel
theorem dX10_isSetOf_4 : decode cX10_isSetOf 4 = .ok (.iload_n 0, 1) := by decide +kernel
theorem dX10_isSetOf_5 : decode cX10_isSetOf 5 = .ok (.iconst 1, 1) := by decide +kernel
theorem dX10_isSetOf_6 : decode cX10_isSetOf 6 = .ok (.iload_n 1, 1) := by decide +kernel
theorem dX10_isSetOf_7 : decode cX10_isSetOf 7 = .ok (.ishl, 1) := by decide +kernel
theorem dX10_isSetOf_8 : decode cX10_isSetOf 8 = .ok (.if_icmp .ge 7, 3) := by decide +kernel
theorem dX10_isSetOf_11 : decode cX10_isSetOf 11 = .ok (.iconst 1, 1) := by decide +kernel
theorem dX10_isSetOf_12 : decode cX10_isSetOf 12 = .ok (.goto 4, 3) := by decide +kernel
theorem dX10_isSetOf_15 : decode cX10_isSetOf 15 = .ok (.iconst 0, 1) := by decide +kernel
theorem dX10_isSetOf_16 : decode cX10_isSetOf 16 = .ok (.ireturn, 1) := by decide +kernel
theorem dX10_isStick_0 : decode cX10_isStick 0 = .ok (.iload_n 1, 1) := by decide +kernel
theorem dX10_isStick_1 : decode cX10_isStick 1 = .ok (.iconst 0, 1) := by decide +kernel
theorem dX10_isStick_2 : decode cX10_isStick 2 = .ok (.aload_n 0, 1) := by decide +kernel
theorem dX10_isStick_3 : decode cX10_isStick 3 = .ok (.getfield 23, 3) := by decide +kernel
theorem dX10_isStick_6 : decode cX10_isStick 6 = .ok (.iconst 1, 1) := by decide +kernel
theorem dX10_isStick_7 : decode cX10_isStick 7 = .ok (.isub, 1) := by decide +kernel
theorem dX10_isStick_8 : decode cX10_isStick 8 = .ok (.invokestatic 118, 3) := by decide +kernel
theorem dX10_isStick_11 : decode cX10_isStick 11 = .ok (.ireturn, 1) := by decide +kernel
theorem dX10_isWind_0 : decode cX10_isWind 0 = .ok (.iload_n 1, 1) := by decide +kernel
theorem dX10_isWind_1 : decode cX10_isWind 1 = .ok (.iconst 0, 1) := by decide +kernel
theorem dX10_isWind_2 : decode cX10_isWind 2 = .ok (.aload_n 0, 1) := by decide +kernel
theorem dX10_isWind_3 : decode cX10_isWind 3 = .ok (.getfield 33, 3) := by decide +kernel
theorem dX10_isWind_6 : decode cX10_isWind 6 = .ok (.iconst 1, 1) := by decide +kernel
theorem dX10_isWind_7 : decode cX10_isWind 7 = .ok (.isub, 1) := by decide +kernel
theorem dX10_isWind_8 : decode cX10_isWind 8 = .ok (.invokestatic 118, 3) := by decide +kernel
theorem dX10_isWind_11 : decode cX10_isWind 11 = .ok (.ireturn, 1) := by decide +kernel
theorem dX10_isWindOrNone_0 : decode cX10_isWindOrNone 0 = .ok (.iload_n 1, 1) := by decide +kernel
theorem dX10_isWindOrNone_1 : decode cX10_isWindOrNone 1 = .ok (.iconst (-1), 1) := by decide +kernel
theorem dX10_isWindOrNone_2 : decode cX10_isWindOrNone 2 = .ok (.if_icmp .eq 11, 3) := by decide +kernel
theorem dX10_isWindOrNone_5 : decode cX10_isWindOrNone 5 = .ok (.aload_n 0, 1) := by decide +kernel
theorem dX10_isWindOrNone_6 : decode cX10_isWindOrNone 6 = .ok (.iload_n 1, 1) := by decide +kernel
theorem dX10_isWindOrNone_7 : decode cX10_isWindOrNone 7 = .ok (.invokevirtual 161, 3) := by decide +kernel
theorem dX10_isWindOrNone_10 : decode cX10_isWindOrNone 10 = .ok (.ifCond .eq 7, 3) := by decide +kernel
theorem dX10_isWindOrNone_13 : decode cX10_isWindOrNone 13 = .ok (.iconst 1, 1) := by decide +kernel
theorem dX10_isWindOrNone_14 : decode cX10_isWindOrNone 14 = .ok (.goto 4, 3) := by decide +kernel
theorem dX10_isWindOrNone_17 : decode cX10_isWindOrNone 17 = .ok (.iconst 0, 1) := by decide +kernel
theorem dX10_isWindOrNone_18 : decode cX10_isWindOrNone 18 = .ok (.ireturn, 1) := by decide +kernel
theorem dX10_isThrow_0 : decode cX10_isThrow 0 = .ok (.aload_n 0, 1) := by decide +kernel
theorem dX10_isThrow_1 : decode cX10_isThrow 1 = .ok (.iload_n 1, 1) := by decide +kernel
theorem dX10_isThrow_2 : decode cX10_isThrow 2 = .ok (.invokevirtual 126, 3) := by decide +kernel
theorem dX10_isThrow_5 : decode cX10_isThrow 5 = .ok (.ifCond .eq 28, 3) := by decide +kernel
theorem dX10_isThrow_8 : decode cX10_isThrow 8 = .ok (.iload_n 2, 1) := by decide +kernel
theorem dX10_isThrow_9 : decode cX10_isThrow 9 = .ok (.iload_n 3, 1) := by decide +kernel
theorem dX10_isThrow_10 : decode cX10_isThrow 10 = .ok (.iload 4, 2) := by decide +kernel
theorem dX10_isThrow_12 : decode cX10_isThrow 12 = .ok (.iload 5, 2) := by decide +kernel
theorem dX10_isThrow_14 : decode cX10_isThrow 14 = .ok (.invokestatic 241, 3) := by decide +kernel
theorem dX10_isThrow_17 : decode cX10_isThrow 17 = .ok (.ifCond .eq 16, 3) := by decide +kernel
theorem dX10_isThrow_20 : decode cX10_isThrow 20 = .ok (.aload_n 0, 1) := by decide +kernel
theorem dX10_isThrow_21 : decode cX10_isThrow 21 = .ok (.iload 6, 2) := by decide +kernel
theorem dX10_isThrow_23 : decode cX10_isThrow 23 = .ok (.invokevirtual 235, 3) := by decide +kernel
theorem dX10_isThrow_26 : decode cX10_isThrow 26 = .ok (.ifCond .eq 7, 3) := by decide +kernel
theorem dX10_isThrow_29 : decode cX10_isThrow 29 = .ok (.iconst 1, 1) := by decide +kernel
theorem dX10_isThrow_30 : decode cX10_isThrow 30 = .ok (.goto 4, 3) := by decide +kernel
theorem dX10_isThrow_33 : decode cX10_isThrow 33 = .ok (.iconst 0, 1) := by decide +kernel
theorem dX10_isThrow_34 : decode cX10_isThrow 34 = .ok (.ireturn, 1) := by decide +kernel
theorem dX10_isRow_0 : decode cX10_isRow 0 = .ok (.aload_n 0, 1) := by decide +kernel
theorem dX10_isRow_1 : decode cX10_isRow 1 = .ok (.iload_n 1, 1) := by decide +kernel
theorem dX10_isRow_2 : decode cX10_isRow 2 = .ok (.iload_n 2, 1) := by decide +kernel
theorem dX10_isRow_3 : decode cX10_isRow 3 = .ok (.iload_n 3, 1) := by decide +kernel
theorem dX10_isRow_4 : decode cX10_isRow 4 = .ok (.iload 4, 2) := by decide +kernel
theorem dX10_isRow_6 : decode cX10_isRow 6 = .ok (.iload 5, 2) := by decide +kernel
theorem dX10_isRow_8 : decode cX10_isRow 8 = .ok (.iconst (-1), 1) := by decide +kernel
theorem dX10_isRow_9 : decode cX10_isRow 9 = .ok (.invokevirtual 184, 3) := by decide +kernel
theorem dX10_isRow_12 : decode cX10_isRow 12 = .ok (.ifCond .eq 35, 3) := by decide +kernel
theorem dX10_isRow_15 : decode cX10_isRow 15 = .ok (.iload 6, 2) := by decide +kernel
theorem dX10_isRow_17 : decode cX10_isRow 17 = .ok (.sipush (-9999), 3) := by decide +kernel
theorem dX10_isRow_20 : decode cX10_isRow 20 = .ok (.sipush 9999, 3) := by decide +kernel
theorem dX10_isRow_23 : decode cX10_isRow 23 = .ok (.invokestatic 118, 3) := by decide +kernel
theorem dX10_isRow_26 : decode cX10_isRow 26 = .ok (.ifCond .eq 21, 3) := by decide +kernel
theorem dX10_isRow_29 : decode cX10_isRow 29 = .ok (.iload 7, 2) := by decide +kernel
theorem dX10_isRow_31 : decode cX10_isRow 31 = .ok (.sipush (-9999), 3) := by decide +kernel
theorem dX10_isRow_34 : decode cX10_isRow 34 = .ok (.sipush 9999, 3) := by decide +kernel
theorem dX10_isRow_37 : decode cX10_isRow 37 = .ok (.invokestatic 118, 3) := by decide +kernel
theorem dX10_isRow_40 : decode cX10_isRow 40 = .ok (.ifCond .eq 7, 3) := by decide +kernel
theorem dX10_isRow_43 : decode cX10_isRow 43 = .ok (.iconst 1, 1) := by decide +kernel
theorem dX10_isRow_44 : decode cX10_isRow 44 = .ok (.goto 4, 3) := by decide +kernel
theorem dX10_isRow_47 : decode cX10_isRow 47 = .ok (.iconst 0, 1) := by decide +kernel
theorem dX10_isRow_48 : decode cX10_isRow 48 = .ok (.ireturn, 1) := by decide +kernel
theorem dX10_faultOf_0 : decode cX10_faultOf 0 = .ok (.iload_n 1, 1) := by decide +kernel
theorem dX10_faultOf_1 : decode cX10_faultOf 1 = .ok (.invokestatic 335, 3) := by decide +kernel
theorem dX10_faultOf_4 : decode cX10_faultOf 4 = .ok (.ifCond .eq 10, 3) := by decide +kernel
theorem dX10_faultOf_7 : decode cX10_faultOf 7 = .ok (.iload_n 2, 1) := by decide +kernel
theorem dX10_faultOf_8 : decode cX10_faultOf 8 = .ok (.invokestatic 338, 3) := by decide +kernel
theorem dX10_faultOf_11 : decode cX10_faultOf 11 = .ok (.ifCond .ne 5, 3) := by decide +kernel
theorem dX10_faultOf_14 : decode cX10_faultOf 14 = .ok (.iconst (-1), 1) := by decide +kernel
theorem dX10_faultOf_15 : decode cX10_faultOf 15 = .ok (.ireturn, 1) := by decide +kernel
theorem dX10_faultOf_16 : decode cX10_faultOf 16 = .ok (.aload_n 0, 1) := by decide +kernel
theorem dX10_faultOf_17 : decode cX10_faultOf 17 = .ok (.getfield 107, 3) := by decide +kernel
theorem dX10_faultOf_20 : decode cX10_faultOf 20 = .ok (.iload_n 1, 1) := by decide +kernel
theorem dX10_faultOf_21 : decode cX10_faultOf 21 = .ok (.aaload, 1) := by decide +kernel
theorem dX10_faultOf_22 : decode cX10_faultOf 22 = .ok (.invokevirtual 345, 3) := by decide +kernel
theorem dX10_faultOf_25 : decode cX10_faultOf 25 = .ok (.ifCond .eq 6, 3) := by decide +kernel
theorem dX10_faultOf_28 : decode cX10_faultOf 28 = .ok (.bipush (-11), 2) := by decide +kernel
theorem dX10_faultOf_30 : decode cX10_faultOf 30 = .ok (.ireturn, 1) := by decide +kernel
theorem dX10_faultOf_31 : decode cX10_faultOf 31 = .ok (.aload_n 0, 1) := by decide +kernel
theorem dX10_faultOf_32 : decode cX10_faultOf 32 = .ok (.getfield 107, 3) := by decide +kernel
theorem dX10_faultOf_35 : decode cX10_faultOf 35 = .ok (.iload_n 1, 1) := by decide +kernel
theorem dX10_faultOf_36 : decode cX10_faultOf 36 = .ok (.aaload, 1) := by decide +kernel
theorem dX10_faultOf_37 : decode cX10_faultOf 37 = .ok (.getfield 354, 3) := by decide +kernel
theorem dX10_faultOf_40 : decode cX10_faultOf 40 = .ok (.iload_n 2, 1) := by decide +kernel
theorem dX10_faultOf_41 : decode cX10_faultOf 41 = .ok (.if_icmp .ne 7, 3) := by decide +kernel
theorem dX10_faultOf_44 : decode cX10_faultOf 44 = .ok (.iconst 0, 1) := by decide +kernel
theorem dX10_faultOf_45 : decode cX10_faultOf 45 = .ok (.goto 5, 3) := by decide +kernel
theorem dX10_faultOf_48 : decode cX10_faultOf 48 = .ok (.bipush (-12), 2) := by decide +kernel
theorem dX10_faultOf_50 : decode cX10_faultOf 50 = .ok (.ireturn, 1) := by decide +kernel
theorem dX10_wasInLatest_0 : decode cX10_wasInLatest 0 = .ok (.aload_n 0, 1) := by decide +kernel
theorem dX10_wasInLatest_1 : decode cX10_wasInLatest 1 = .ok (.getfield 53, 3) := by decide +kernel
theorem dX10_wasInLatest_4 : decode cX10_wasInLatest 4 = .ok (.getfield 363, 3) := by decide +kernel
theorem dX10_wasInLatest_7 : decode cX10_wasInLatest 7 = .ok (.ifCond .eq 22, 3) := by decide +kernel
theorem dX10_wasInLatest_10 : decode cX10_wasInLatest 10 = .ok (.iload_n 1, 1) := by decide +kernel
theorem dX10_wasInLatest_11 : decode cX10_wasInLatest 11 = .ok (.iconst 0, 1) := by decide +kernel
theorem dX10_wasInLatest_12 : decode cX10_wasInLatest 12 = .ok (.aload_n 0, 1) := by decide +kernel
theorem dX10_wasInLatest_13 : decode cX10_wasInLatest 13 = .ok (.getfield 53, 3) := by decide +kernel
theorem dX10_wasInLatest_16 : decode cX10_wasInLatest 16 = .ok (.getfield 204, 3) := by decide +kernel
theorem dX10_wasInLatest_19 : decode cX10_wasInLatest 19 = .ok (.invokestatic 118, 3) := by decide +kernel
theorem dX10_wasInLatest_22 : decode cX10_wasInLatest 22 = .ok (.ifCond .eq 7, 3) := by decide +kernel
theorem dX10_wasInLatest_25 : decode cX10_wasInLatest 25 = .ok (.iconst 1, 1) := by decide +kernel
theorem dX10_wasInLatest_26 : decode cX10_wasInLatest 26 = .ok (.goto 4, 3) := by decide +kernel
theorem dX10_wasInLatest_29 : decode cX10_wasInLatest 29 = .ok (.iconst 0, 1) := by decide +kernel
theorem dX10_wasInLatest_30 : decode cX10_wasInLatest 30 = .ok (.ireturn, 1) := by decide +kernel
theorem dX10_bagBits_0 : decode cX10_bagBits 0 = .ok (.iconst 0, 1) := by decide +kernel
theorem dX10_bagBits_1 : decode cX10_bagBits 1 = .ok (.istore_n 1, 1) := by decide +kernel
theorem dX10_bagBits_2 : decode cX10_bagBits 2 = .ok (.iconst 0, 1) := by decide +kernel
theorem dX10_bagBits_3 : decode cX10_bagBits 3 = .ok (.istore_n 2, 1) := by decide +kernel
theorem dX10_bagBits_4 : decode cX10_bagBits 4 = .ok (.iload_n 2, 1) := by decide +kernel
theorem dX10_bagBits_5 : decode cX10_bagBits 5 = .ok (.aload_n 0, 1) := by decide +kernel
theorem dX10_bagBits_6 : decode cX10_bagBits 6 = .ok (.getfield 23, 3) := by decide +kernel
theorem dX10_bagBits_9 : decode cX10_bagBits 9 = .ok (.if_icmp .ge 27, 3) := by decide +kernel
theorem dX10_bagBits_12 : decode cX10_bagBits 12 = .ok (.aload_n 0, 1) := by decide +kernel
theorem dX10_bagBits_13 : decode cX10_bagBits 13 = .ok (.getfield 19, 3) := by decide +kernel
theorem dX10_bagBits_16 : decode cX10_bagBits 16 = .ok (.iload_n 2, 1) := by decide +kernel
theorem dX10_bagBits_17 : decode cX10_bagBits 17 = .ok (.aaload, 1) := by decide +kernel
theorem dX10_bagBits_18 : decode cX10_bagBits 18 = .ok (.getfield 158, 3) := by decide +kernel
theorem dX10_bagBits_21 : decode cX10_bagBits 21 = .ok (.ifCond .eq 9, 3) := by decide +kernel
theorem dX10_bagBits_24 : decode cX10_bagBits 24 = .ok (.iload_n 1, 1) := by decide +kernel
theorem dX10_bagBits_25 : decode cX10_bagBits 25 = .ok (.iconst 1, 1) := by decide +kernel
theorem dX10_bagBits_26 : decode cX10_bagBits 26 = .ok (.iload_n 2, 1) := by decide +kernel
theorem dX10_bagBits_27 : decode cX10_bagBits 27 = .ok (.ishl, 1) := by decide +kernel
theorem dX10_bagBits_28 : decode cX10_bagBits 28 = .ok (.ior, 1) := by decide +kernel
theorem dX10_bagBits_29 : decode cX10_bagBits 29 = .ok (.istore_n 1, 1) := by decide +kernel
theorem dX10_bagBits_30 : decode cX10_bagBits 30 = .ok (.iinc 2 1, 3) := by decide +kernel
theorem dX10_bagBits_33 : decode cX10_bagBits 33 = .ok (.goto (-29), 3) := by decide +kernel
theorem dX10_bagBits_36 : decode cX10_bagBits 36 = .ok (.iload_n 1, 1) := by decide +kernel
theorem dX10_bagBits_37 : decode cX10_bagBits 37 = .ok (.ireturn, 1) := by decide +kernel
theorem dX10_sineWave_0 : decode cX10_sineWave 0 = .ok (.sipush 450, 3) := by decide +kernel
theorem dX10_sineWave_3 : decode cX10_sineWave 3 = .ok (.newarray .int, 2) := by decide +kernel
theorem dX10_sineWave_5 : decode cX10_sineWave 5 = .ok (.astore_n 0, 1) := by decide +kernel
theorem dX10_sineWave_6 : decode cX10_sineWave 6 = .ok (.iconst 0, 1) := by decide +kernel
theorem dX10_sineWave_7 : decode cX10_sineWave 7 = .ok (.istore_n 1, 1) := by decide +kernel
theorem dX10_sineWave_8 : decode cX10_sineWave 8 = .ok (.iload_n 1, 1) := by decide +kernel
theorem dX10_sineWave_9 : decode cX10_sineWave 9 = .ok (.bipush 90, 2) := by decide +kernel
theorem dX10_sineWave_11 : decode cX10_sineWave 11 = .ok (.if_icmp .gt 55, 3) := by decide +kernel
theorem dX10_sineWave_14 : decode cX10_sineWave 14 = .ok (.aload_n 0, 1) := by decide +kernel
theorem dX10_sineWave_15 : decode cX10_sineWave 15 = .ok (.iload_n 1, 1) := by decide +kernel
theorem dX10_sineWave_16 : decode cX10_sineWave 16 = .ok (.getstatic 366, 3) := by decide +kernel
theorem dX10_sineWave_19 : decode cX10_sineWave 19 = .ok (.iload_n 1, 1) := by decide +kernel
theorem dX10_sineWave_20 : decode cX10_sineWave 20 = .ok (.iaload, 1) := by decide +kernel
theorem dX10_sineWave_21 : decode cX10_sineWave 21 = .ok (.iastore, 1) := by decide +kernel
theorem dX10_sineWave_22 : decode cX10_sineWave 22 = .ok (.aload_n 0, 1) := by decide +kernel
theorem dX10_sineWave_23 : decode cX10_sineWave 23 = .ok (.sipush 180, 3) := by decide +kernel
theorem dX10_sineWave_26 : decode cX10_sineWave 26 = .ok (.iload_n 1, 1) := by decide +kernel
theorem dX10_sineWave_27 : decode cX10_sineWave 27 = .ok (.isub, 1) := by decide +kernel
theorem dX10_sineWave_28 : decode cX10_sineWave 28 = .ok (.getstatic 366, 3) := by decide +kernel
theorem dX10_sineWave_31 : decode cX10_sineWave 31 = .ok (.iload_n 1, 1) := by decide +kernel
theorem dX10_sineWave_32 : decode cX10_sineWave 32 = .ok (.iaload, 1) := by decide +kernel
theorem dX10_sineWave_33 : decode cX10_sineWave 33 = .ok (.iastore, 1) := by decide +kernel
theorem dX10_sineWave_34 : decode cX10_sineWave 34 = .ok (.aload_n 0, 1) := by decide +kernel
theorem dX10_sineWave_35 : decode cX10_sineWave 35 = .ok (.sipush 180, 3) := by decide +kernel
theorem dX10_sineWave_38 : decode cX10_sineWave 38 = .ok (.iload_n 1, 1) := by decide +kernel
theorem dX10_sineWave_39 : decode cX10_sineWave 39 = .ok (.iadd, 1) := by decide +kernel
theorem dX10_sineWave_40 : decode cX10_sineWave 40 = .ok (.getstatic 366, 3) := by decide +kernel
theorem dX10_sineWave_43 : decode cX10_sineWave 43 = .ok (.iload_n 1, 1) := by decide +kernel
theorem dX10_sineWave_44 : decode cX10_sineWave 44 = .ok (.iaload, 1) := by decide +kernel
theorem dX10_sineWave_45 : decode cX10_sineWave 45 = .ok (.ineg, 1) := by decide +kernel
theorem dX10_sineWave_46 : decode cX10_sineWave 46 = .ok (.iastore, 1) := by decide +kernel
theorem dX10_sineWave_47 : decode cX10_sineWave 47 = .ok (.aload_n 0, 1) := by decide +kernel
theorem dX10_sineWave_48 : decode cX10_sineWave 48 = .ok (.sipush 360, 3) := by decide +kernel
theorem dX10_sineWave_51 : decode cX10_sineWave 51 = .ok (.iload_n 1, 1) := by decide +kernel
theorem dX10_sineWave_52 : decode cX10_sineWave 52 = .ok (.isub, 1) := by decide +kernel
theorem dX10_sineWave_53 : decode cX10_sineWave 53 = .ok (.getstatic 366, 3) := by decide +kernel
theorem dX10_sineWave_56 : decode cX10_sineWave 56 = .ok (.iload_n 1, 1) := by decide +kernel
theorem dX10_sineWave_57 : decode cX10_sineWave 57 = .ok (.iaload, 1) := by decide +kernel
theorem dX10_sineWave_58 : decode cX10_sineWave 58 = .ok (.ineg, 1) := by decide +kernel
theorem dX10_sineWave_59 : decode cX10_sineWave 59 = .ok (.iastore, 1) := by decide +kernel
theorem dX10_sineWave_60 : decode cX10_sineWave 60 = .ok (.iinc 1 1, 3) := by decide +kernel
theorem dX10_sineWave_63 : decode cX10_sineWave 63 = .ok (.goto (-55), 3) := by decide +kernel
theorem dX10_sineWave_66 : decode cX10_sineWave 66 = .ok (.sipush 360, 3) := by decide +kernel
theorem dX10_sineWave_69 : decode cX10_sineWave 69 = .ok (.istore_n 1, 1) := by decide +kernel
theorem dX10_sineWave_70 : decode cX10_sineWave 70 = .ok (.iload_n 1, 1) := by decide +kernel
theorem dX10_sineWave_71 : decode cX10_sineWave 71 = .ok (.sipush 450, 3) := by decide +kernel
theorem dX10_sineWave_74 : decode cX10_sineWave 74 = .ok (.if_icmp .ge 19, 3) := by decide +kernel
theorem dX10_sineWave_77 : decode cX10_sineWave 77 = .ok (.aload_n 0, 1) := by decide +kernel
theorem dX10_sineWave_78 : decode cX10_sineWave 78 = .ok (.iload_n 1, 1) := by decide +kernel
theorem dX10_sineWave_79 : decode cX10_sineWave 79 = .ok (.aload_n 0, 1) := by decide +kernel
theorem dX10_sineWave_80 : decode cX10_sineWave 80 = .ok (.iload_n 1, 1) := by decide +kernel
theorem dX10_sineWave_81 : decode cX10_sineWave 81 = .ok (.sipush 360, 3) := by decide +kernel
theorem dX10_sineWave_84 : decode cX10_sineWave 84 = .ok (.isub, 1) := by decide +kernel
theorem dX10_sineWave_85 : decode cX10_sineWave 85 = .ok (.iaload, 1) := by decide +kernel
theorem dX10_sineWave_86 : decode cX10_sineWave 86 = .ok (.iastore, 1) := by decide +kernel
theorem dX10_sineWave_87 : decode cX10_sineWave 87 = .ok (.iinc 1 1, 3) := by decide +kernel
theorem dX10_sineWave_90 : decode cX10_sineWave 90 = .ok (.goto (-20), 3) := by decide +kernel
theorem dX10_sineWave_93 : decode cX10_sineWave 93 = .ok (.aload_n 0, 1) := by decide +kernel
theorem dX10_sineWave_94 : decode cX10_sineWave 94 = .ok (.areturn, 1) := by decide +kernel
theorem dX10_endOf_0 : decode cX10_endOf 0 = .ok (.aload_n 0, 1) := by decide +kernel
theorem dX10_endOf_1 : decode cX10_endOf 1 = .ok (.getfield 19, 3) := by decide +kernel
theorem dX10_endOf_4 : decode cX10_endOf 4 = .ok (.aload_n 2, 1) := by decide +kernel
theorem dX10_endOf_5 : decode cX10_endOf 5 = .ok (.getfield 222, 3) := by decide +kernel
theorem dX10_endOf_8 : decode cX10_endOf 8 = .ok (.aaload, 1) := by decide +kernel
theorem dX10_endOf_9 : decode cX10_endOf 9 = .ok (.astore 4, 2) := by decide +kernel
theorem dX10_endOf_11 : decode cX10_endOf 11 = .ok (.aload_n 2, 1) := by decide +kernel
theorem dX10_endOf_12 : decode cX10_endOf 12 = .ok (.getfield 369, 3) := by decide +kernel
theorem dX10_endOf_15 : decode cX10_endOf 15 = .ok (.iconst (-1), 1) := by decide +kernel
theorem dX10_endOf_16 : decode cX10_endOf 16 = .ok (.if_icmp .ne 10, 3) := by decide +kernel
theorem dX10_endOf_19 : decode cX10_endOf 19 = .ok (.aload_n 0, 1) := by decide +kernel
theorem dX10_endOf_20 : decode cX10_endOf 20 = .ok (.getfield 37, 3) := by decide +kernel
theorem dX10_endOf_23 : decode cX10_endOf 23 = .ok (.goto 12, 3) := by decide +kernel
theorem dX10_endOf_26 : decode cX10_endOf 26 = .ok (.aload_n 0, 1) := by decide +kernel
theorem dX10_endOf_27 : decode cX10_endOf 27 = .ok (.getfield 29, 3) := by decide +kernel
theorem dX10_endOf_30 : decode cX10_endOf 30 = .ok (.aload_n 2, 1) := by decide +kernel
theorem dX10_endOf_31 : decode cX10_endOf 31 = .ok (.getfield 369, 3) := by decide +kernel
theorem dX10_endOf_34 : decode cX10_endOf 34 = .ok (.aaload, 1) := by decide +kernel
theorem dX10_endOf_35 : decode cX10_endOf 35 = .ok (.astore 5, 2) := by decide +kernel
theorem dX10_endOf_37 : decode cX10_endOf 37 = .ok (.aload_n 1, 1) := by decide +kernel
theorem dX10_endOf_38 : decode cX10_endOf 38 = .ok (.aload_n 2, 1) := by decide +kernel
theorem dX10_endOf_39 : decode cX10_endOf 39 = .ok (.invokevirtual 372, 3) := by decide +kernel
theorem dX10_endOf_42 : decode cX10_endOf 42 = .ok (.iconst 1, 1) := by decide +kernel
theorem dX10_endOf_43 : decode cX10_endOf 43 = .ok (.istore 6, 2) := by decide +kernel
theorem dX10_endOf_45 : decode cX10_endOf 45 = .ok (.iload 6, 2) := by decide +kernel
theorem dX10_endOf_47 : decode cX10_endOf 47 = .ok (.sipush 400, 3) := by decide +kernel
theorem dX10_endOf_50 : decode cX10_endOf 50 = .ok (.if_icmp .gt 37, 3) := by decide +kernel
theorem dX10_endOf_53 : decode cX10_endOf 53 = .ok (.aload_n 1, 1) := by decide +kernel
theorem dX10_endOf_54 : decode cX10_endOf 54 = .ok (.getfield 363, 3) := by decide +kernel
theorem dX10_endOf_57 : decode cX10_endOf 57 = .ok (.ifCond .ne 30, 3) := by decide +kernel
theorem dX10_endOf_60 : decode cX10_endOf 60 = .ok (.aload_n 1, 1) := by decide +kernel
theorem dX10_endOf_61 : decode cX10_endOf 61 = .ok (.aload 4, 2) := by decide +kernel
theorem dX10_endOf_63 : decode cX10_endOf 63 = .ok (.iload_n 3, 1) := by decide +kernel
theorem dX10_endOf_64 : decode cX10_endOf 64 = .ok (.aload 5, 2) := by decide +kernel
theorem dX10_endOf_66 : decode cX10_endOf 66 = .ok (.invokevirtual 376, 3) := by decide +kernel
theorem dX10_endOf_69 : decode cX10_endOf 69 = .ok (.aload_n 1, 1) := by decide +kernel
theorem dX10_endOf_70 : decode cX10_endOf 70 = .ok (.aload_n 0, 1) := by decide +kernel
theorem dX10_endOf_71 : decode cX10_endOf 71 = .ok (.getfield 44, 3) := by decide +kernel
theorem dX10_endOf_74 : decode cX10_endOf 74 = .ok (.invokevirtual 380, 3) := by decide +kernel
theorem dX10_endOf_77 : decode cX10_endOf 77 = .ok (.aload_n 1, 1) := by decide +kernel
theorem dX10_endOf_78 : decode cX10_endOf 78 = .ok (.invokevirtual 384, 3) := by decide +kernel
theorem dX10_endOf_81 : decode cX10_endOf 81 = .ok (.iinc 6 1, 3) := by decide +kernel
theorem dX10_endOf_84 : decode cX10_endOf 84 = .ok (.goto (-39), 3) := by decide +kernel
theorem dX10_endOf_87 : decode cX10_endOf 87 = .ok (.aload_n 1, 1) := by decide +kernel
theorem dX10_endOf_88 : decode cX10_endOf 88 = .ok (.getfield 363, 3) := by decide +kernel
theorem dX10_endOf_91 : decode cX10_endOf 91 = .ok (.ireturn, 1) := by decide +kernel
theorem dX10_comesBack_0 : decode cX10_comesBack 0 = .ok (.aload_n 0, 1) := by decide +kernel
theorem dX10_comesBack_1 : decode cX10_comesBack 1 = .ok (.aload_n 0, 1) := by decide +kernel
theorem dX10_comesBack_2 : decode cX10_comesBack 2 = .ok (.getfield 57, 3) := by decide +kernel
theorem dX10_comesBack_5 : decode cX10_comesBack 5 = .ok (.aload_n 1, 1) := by decide +kernel
theorem dX10_comesBack_6 : decode cX10_comesBack 6 = .ok (.aload_n 0, 1) := by decide +kernel
theorem dX10_comesBack_7 : decode cX10_comesBack 7 = .ok (.getfield 19, 3) := by decide +kernel
theorem dX10_comesBack_10 : decode cX10_comesBack 10 = .ok (.aload_n 1, 1) := by decide +kernel
theorem dX10_comesBack_11 : decode cX10_comesBack 11 = .ok (.getfield 222, 3) := by decide +kernel
theorem dX10_comesBack_14 : decode cX10_comesBack 14 = .ok (.aaload, 1) := by decide +kernel
theorem dX10_comesBack_15 : decode cX10_comesBack 15 = .ok (.getfield 136, 3) := by decide +kernel
theorem dX10_comesBack_18 : decode cX10_comesBack 18 = .ok (.invokevirtual 192, 3) := by decide +kernel
theorem dX10_comesBack_21 : decode cX10_comesBack 21 = .ok (.iconst 2, 1) := by decide +kernel
theorem dX10_comesBack_22 : decode cX10_comesBack 22 = .ok (.if_icmp .ne 7, 3) := by decide +kernel
theorem dX10_comesBack_25 : decode cX10_comesBack 25 = .ok (.iconst 1, 1) := by decide +kernel
theorem dX10_comesBack_26 : decode cX10_comesBack 26 = .ok (.goto 4, 3) := by decide +kernel
theorem dX10_comesBack_29 : decode cX10_comesBack 29 = .ok (.iconst 0, 1) := by decide +kernel
theorem dX10_comesBack_30 : decode cX10_comesBack 30 = .ok (.ireturn, 1) := by decide +kernel
theorem dX10_bestOfStick_0 : decode cX10_bestOfStick 0 = .ok (.iload_n 3, 1) := by decide +kernel
theorem dX10_bestOfStick_1 : decode cX10_bestOfStick 1 = .ok (.istore 4, 2) := by decide +kernel
theorem dX10_bestOfStick_3 : decode cX10_bestOfStick 3 = .ok (.getstatic 387, 3) := by decide +kernel
theorem dX10_bestOfStick_6 : decode cX10_bestOfStick 6 = .ok (.astore 5, 2) := by decide +kernel
theorem dX10_bestOfStick_8 : decode cX10_bestOfStick 8 = .ok (.aload 5, 2) := by decide +kernel
theorem dX10_bestOfStick_10 : decode cX10_bestOfStick 10 = .ok (.arraylength, 1) := by decide +kernel
theorem dX10_bestOfStick_11 : decode cX10_bestOfStick 11 = .ok (.istore 6, 2) := by decide +kernel
theorem dX10_bestOfStick_13 : decode cX10_bestOfStick 13 = .ok (.iconst 0, 1) := by decide +kernel
theorem dX10_bestOfStick_14 : decode cX10_bestOfStick 14 = .ok (.istore 7, 2) := by decide +kernel
theorem dX10_bestOfStick_16 : decode cX10_bestOfStick 16 = .ok (.iload 7, 2) := by decide +kernel
theorem dX10_bestOfStick_18 : decode cX10_bestOfStick 18 = .ok (.iload 6, 2) := by decide +kernel
theorem dX10_bestOfStick_20 : decode cX10_bestOfStick 20 = .ok (.if_icmp .ge 108, 3) := by decide +kernel
theorem dX10_bestOfStick_23 : decode cX10_bestOfStick 23 = .ok (.aload 5, 2) := by decide +kernel
theorem dX10_bestOfStick_25 : decode cX10_bestOfStick 25 = .ok (.iload 7, 2) := by decide +kernel
theorem dX10_bestOfStick_27 : decode cX10_bestOfStick 27 = .ok (.iaload, 1) := by decide +kernel
theorem dX10_bestOfStick_28 : decode cX10_bestOfStick 28 = .ok (.istore 8, 2) := by decide +kernel
theorem dX10_bestOfStick_30 : decode cX10_bestOfStick 30 = .ok (.iconst 0, 1) := by decide +kernel
theorem dX10_bestOfStick_31 : decode cX10_bestOfStick 31 = .ok (.istore 9, 2) := by decide +kernel
theorem dX10_bestOfStick_33 : decode cX10_bestOfStick 33 = .ok (.iload 9, 2) := by decide +kernel
theorem dX10_bestOfStick_35 : decode cX10_bestOfStick 35 = .ok (.sipush 360, 3) := by decide +kernel
theorem dX10_bestOfStick_38 : decode cX10_bestOfStick 38 = .ok (.if_icmp .ge 84, 3) := by decide +kernel
theorem dX10_bestOfStick_41 : decode cX10_bestOfStick 41 = .ok (.getstatic 390, 3) := by decide +kernel
theorem dX10_bestOfStick_44 : decode cX10_bestOfStick 44 = .ok (.astore 10, 2) := by decide +kernel
theorem dX10_bestOfStick_46 : decode cX10_bestOfStick 46 = .ok (.aload 10, 2) := by decide +kernel
theorem dX10_bestOfStick_48 : decode cX10_bestOfStick 48 = .ok (.arraylength, 1) := by decide +kernel
theorem dX10_bestOfStick_49 : decode cX10_bestOfStick 49 = .ok (.istore 11, 2) := by decide +kernel
theorem dX10_bestOfStick_51 : decode cX10_bestOfStick 51 = .ok (.iconst 0, 1) := by decide +kernel
theorem dX10_bestOfStick_52 : decode cX10_bestOfStick 52 = .ok (.istore 12, 2) := by decide +kernel
theorem dX10_bestOfStick_54 : decode cX10_bestOfStick 54 = .ok (.iload 12, 2) := by decide +kernel
theorem dX10_bestOfStick_56 : decode cX10_bestOfStick 56 = .ok (.iload 11, 2) := by decide +kernel
theorem dX10_bestOfStick_58 : decode cX10_bestOfStick 58 = .ok (.if_icmp .ge 58, 3) := by decide +kernel
theorem dX10_bestOfStick_61 : decode cX10_bestOfStick 61 = .ok (.aload 10, 2) := by decide +kernel
theorem dX10_bestOfStick_63 : decode cX10_bestOfStick 63 = .ok (.iload 12, 2) := by decide +kernel
theorem dX10_bestOfStick_65 : decode cX10_bestOfStick 65 = .ok (.iaload, 1) := by decide +kernel
theorem dX10_bestOfStick_66 : decode cX10_bestOfStick 66 = .ok (.istore 13, 2) := by decide +kernel
theorem dX10_bestOfStick_68 : decode cX10_bestOfStick 68 = .ok (.aload_n 0, 1) := by decide +kernel
theorem dX10_bestOfStick_69 : decode cX10_bestOfStick 69 = .ok (.getfield 63, 3) := by decide +kernel
theorem dX10_bestOfStick_72 : decode cX10_bestOfStick 72 = .ok (.iload_n 1, 1) := by decide +kernel
theorem dX10_bestOfStick_73 : decode cX10_bestOfStick 73 = .ok (.iload 8, 2) := by decide +kernel
theorem dX10_bestOfStick_75 : decode cX10_bestOfStick 75 = .ok (.iload 9, 2) := by decide +kernel
theorem dX10_bestOfStick_77 : decode cX10_bestOfStick 77 = .ok (.iload 13, 2) := by decide +kernel
theorem dX10_bestOfStick_79 : decode cX10_bestOfStick 79 = .ok (.sipush 800, 3) := by decide +kernel
theorem dX10_bestOfStick_82 : decode cX10_bestOfStick 82 = .ok (.iconst (-1), 1) := by decide +kernel
theorem dX10_bestOfStick_83 : decode cX10_bestOfStick 83 = .ok (.invokevirtual 188, 3) := by decide +kernel
theorem dX10_bestOfStick_86 : decode cX10_bestOfStick 86 = .ok (.aload_n 0, 1) := by decide +kernel
theorem dX10_bestOfStick_87 : decode cX10_bestOfStick 87 = .ok (.iload_n 2, 1) := by decide +kernel
theorem dX10_bestOfStick_88 : decode cX10_bestOfStick 88 = .ok (.iload 4, 2) := by decide +kernel
theorem dX10_bestOfStick_90 : decode cX10_bestOfStick 90 = .ok (.invokevirtual 393, 3) := by decide +kernel
theorem dX10_bestOfStick_93 : decode cX10_bestOfStick 93 = .ok (.istore 14, 2) := by decide +kernel
theorem dX10_bestOfStick_95 : decode cX10_bestOfStick 95 = .ok (.iload 14, 2) := by decide +kernel
theorem dX10_bestOfStick_97 : decode cX10_bestOfStick 97 = .ok (.iload 4, 2) := by decide +kernel
theorem dX10_bestOfStick_99 : decode cX10_bestOfStick 99 = .ok (.if_icmp .le 11, 3) := by decide +kernel
theorem dX10_bestOfStick_102 : decode cX10_bestOfStick 102 = .ok (.iload 14, 2) := by decide +kernel
theorem dX10_bestOfStick_104 : decode cX10_bestOfStick 104 = .ok (.istore 4, 2) := by decide +kernel
theorem dX10_bestOfStick_106 : decode cX10_bestOfStick 106 = .ok (.aload_n 0, 1) := by decide +kernel
theorem dX10_bestOfStick_107 : decode cX10_bestOfStick 107 = .ok (.invokevirtual 396, 3) := by decide +kernel
theorem dX10_bestOfStick_110 : decode cX10_bestOfStick 110 = .ok (.iinc 12 1, 3) := by decide +kernel
theorem dX10_bestOfStick_113 : decode cX10_bestOfStick 113 = .ok (.goto (-59), 3) := by decide +kernel
theorem dX10_bestOfStick_116 : decode cX10_bestOfStick 116 = .ok (.iinc 9 45, 3) := by decide +kernel
theorem dX10_bestOfStick_119 : decode cX10_bestOfStick 119 = .ok (.goto (-86), 3) := by decide +kernel
theorem dX10_bestOfStick_122 : decode cX10_bestOfStick 122 = .ok (.iinc 7 1, 3) := by decide +kernel
theorem dX10_bestOfStick_125 : decode cX10_bestOfStick 125 = .ok (.goto (-109), 3) := by decide +kernel
theorem dX10_bestOfStick_128 : decode cX10_bestOfStick 128 = .ok (.iload 4, 2) := by decide +kernel
theorem dX10_bestOfStick_130 : decode cX10_bestOfStick 130 = .ok (.ireturn, 1) := by decide +kernel
theorem dX10_rememberChoice_0 : decode cX10_rememberChoice 0 = .ok (.aload_n 0, 1) := by decide +kernel
theorem dX10_rememberChoice_1 : decode cX10_rememberChoice 1 = .ok (.getfield 67, 3) := by decide +kernel
theorem dX10_rememberChoice_4 : decode cX10_rememberChoice 4 = .ok (.iconst 0, 1) := by decide +kernel
theorem dX10_rememberChoice_5 : decode cX10_rememberChoice 5 = .ok (.aload_n 0, 1) := by decide +kernel
theorem dX10_rememberChoice_6 : decode cX10_rememberChoice 6 = .ok (.getfield 63, 3) := by decide +kernel
theorem dX10_rememberChoice_9 : decode cX10_rememberChoice 9 = .ok (.getfield 222, 3) := by decide +kernel
theorem dX10_rememberChoice_12 : decode cX10_rememberChoice 12 = .ok (.iastore, 1) := by decide +kernel
theorem dX10_rememberChoice_13 : decode cX10_rememberChoice 13 = .ok (.aload_n 0, 1) := by decide +kernel
theorem dX10_rememberChoice_14 : decode cX10_rememberChoice 14 = .ok (.getfield 67, 3) := by decide +kernel
theorem dX10_rememberChoice_17 : decode cX10_rememberChoice 17 = .ok (.iconst 1, 1) := by decide +kernel
theorem dX10_rememberChoice_18 : decode cX10_rememberChoice 18 = .ok (.aload_n 0, 1) := by decide +kernel
theorem dX10_rememberChoice_19 : decode cX10_rememberChoice 19 = .ok (.getfield 63, 3) := by decide +kernel
theorem dX10_rememberChoice_22 : decode cX10_rememberChoice 22 = .ok (.getfield 399, 3) := by decide +kernel
theorem dX10_rememberChoice_25 : decode cX10_rememberChoice 25 = .ok (.iastore, 1) := by decide +kernel
theorem dX10_rememberChoice_26 : decode cX10_rememberChoice 26 = .ok (.aload_n 0, 1) := by decide +kernel
theorem dX10_rememberChoice_27 : decode cX10_rememberChoice 27 = .ok (.getfield 67, 3) := by decide +kernel
theorem dX10_rememberChoice_30 : decode cX10_rememberChoice 30 = .ok (.iconst 2, 1) := by decide +kernel
theorem dX10_rememberChoice_31 : decode cX10_rememberChoice 31 = .ok (.aload_n 0, 1) := by decide +kernel
theorem dX10_rememberChoice_32 : decode cX10_rememberChoice 32 = .ok (.getfield 63, 3) := by decide +kernel
theorem dX10_rememberChoice_35 : decode cX10_rememberChoice 35 = .ok (.getfield 402, 3) := by decide +kernel
theorem dX10_rememberChoice_38 : decode cX10_rememberChoice 38 = .ok (.iastore, 1) := by decide +kernel
theorem dX10_rememberChoice_39 : decode cX10_rememberChoice 39 = .ok (.aload_n 0, 1) := by decide +kernel
theorem dX10_rememberChoice_40 : decode cX10_rememberChoice 40 = .ok (.getfield 67, 3) := by decide +kernel
theorem dX10_rememberChoice_43 : decode cX10_rememberChoice 43 = .ok (.iconst 3, 1) := by decide +kernel
theorem dX10_rememberChoice_44 : decode cX10_rememberChoice 44 = .ok (.aload_n 0, 1) := by decide +kernel
theorem dX10_rememberChoice_45 : decode cX10_rememberChoice 45 = .ok (.getfield 63, 3) := by decide +kernel
theorem dX10_rememberChoice_48 : decode cX10_rememberChoice 48 = .ok (.getfield 405, 3) := by decide +kernel
theorem dX10_rememberChoice_51 : decode cX10_rememberChoice 51 = .ok (.iastore, 1) := by decide +kernel
theorem dX10_rememberChoice_52 : decode cX10_rememberChoice 52 = .ok (.return_, 1) := by decide +kernel
theorem dX10_backsIn_0 : decode cX10_backsIn 0 = .ok (.iconst 0, 1) := by decide +kernel
theorem dX10_backsIn_1 : decode cX10_backsIn 1 = .ok (.istore_n 3, 1) := by decide +kernel
theorem dX10_backsIn_2 : decode cX10_backsIn 2 = .ok (.iload_n 1, 1) := by decide +kernel
theorem dX10_backsIn_3 : decode cX10_backsIn 3 = .ok (.invokestatic 254, 3) := by decide +kernel
theorem dX10_backsIn_6 : decode cX10_backsIn 6 = .ok (.istore 4, 2) := by decide +kernel
theorem dX10_backsIn_8 : decode cX10_backsIn 8 = .ok (.iconst 0, 1) := by decide +kernel
theorem dX10_backsIn_9 : decode cX10_backsIn 9 = .ok (.istore 5, 2) := by decide +kernel
theorem dX10_backsIn_11 : decode cX10_backsIn 11 = .ok (.iload 5, 2) := by decide +kernel
theorem dX10_backsIn_13 : decode cX10_backsIn 13 = .ok (.aload_n 0, 1) := by decide +kernel
theorem dX10_backsIn_14 : decode cX10_backsIn 14 = .ok (.getfield 33, 3) := by decide +kernel
theorem dX10_backsIn_17 : decode cX10_backsIn 17 = .ok (.if_icmp .ge 53, 3) := by decide +kernel
theorem dX10_backsIn_20 : decode cX10_backsIn 20 = .ok (.iload_n 3, 1) := by decide +kernel
theorem dX10_backsIn_21 : decode cX10_backsIn 21 = .ok (.iload 4, 2) := by decide +kernel
theorem dX10_backsIn_23 : decode cX10_backsIn 23 = .ok (.iadd, 1) := by decide +kernel
theorem dX10_backsIn_24 : decode cX10_backsIn 24 = .ok (.iload_n 2, 1) := by decide +kernel
theorem dX10_backsIn_25 : decode cX10_backsIn 25 = .ok (.if_icmp .le 45, 3) := by decide +kernel
theorem dX10_backsIn_28 : decode cX10_backsIn 28 = .ok (.iload_n 1, 1) := by decide +kernel
theorem dX10_backsIn_29 : decode cX10_backsIn 29 = .ok (.iload 5, 2) := by decide +kernel
theorem dX10_backsIn_31 : decode cX10_backsIn 31 = .ok (.ishr, 1) := by decide +kernel
theorem dX10_backsIn_32 : decode cX10_backsIn 32 = .ok (.iconst 1, 1) := by decide +kernel
theorem dX10_backsIn_33 : decode cX10_backsIn 33 = .ok (.iand, 1) := by decide +kernel
theorem dX10_backsIn_34 : decode cX10_backsIn 34 = .ok (.iconst 1, 1) := by decide +kernel
theorem dX10_backsIn_35 : decode cX10_backsIn 35 = .ok (.if_icmp .ne 29, 3) := by decide +kernel
theorem dX10_backsIn_38 : decode cX10_backsIn 38 = .ok (.iinc 4 (-1), 3) := by decide +kernel
theorem dX10_backsIn_41 : decode cX10_backsIn 41 = .ok (.aload_n 0, 1) := by decide +kernel
theorem dX10_backsIn_42 : decode cX10_backsIn 42 = .ok (.getfield 63, 3) := by decide +kernel
theorem dX10_backsIn_45 : decode cX10_backsIn 45 = .ok (.iload 5, 2) := by decide +kernel
theorem dX10_backsIn_47 : decode cX10_backsIn 47 = .ok (.putfield 369, 3) := by decide +kernel
theorem dX10_backsIn_50 : decode cX10_backsIn 50 = .ok (.aload_n 0, 1) := by decide +kernel
theorem dX10_backsIn_51 : decode cX10_backsIn 51 = .ok (.aload_n 0, 1) := by decide +kernel
theorem dX10_backsIn_52 : decode cX10_backsIn 52 = .ok (.getfield 63, 3) := by decide +kernel
theorem dX10_backsIn_55 : decode cX10_backsIn 55 = .ok (.invokevirtual 225, 3) := by decide +kernel
theorem dX10_backsIn_58 : decode cX10_backsIn 58 = .ok (.ifCond .eq 6, 3) := by decide +kernel
theorem dX10_backsIn_61 : decode cX10_backsIn 61 = .ok (.iinc 3 1, 3) := by decide +kernel
theorem dX10_backsIn_64 : decode cX10_backsIn 64 = .ok (.iinc 5 1, 3) := by decide +kernel
theorem dX10_backsIn_67 : decode cX10_backsIn 67 = .ok (.goto (-56), 3) := by decide +kernel
theorem dX10_backsIn_70 : decode cX10_backsIn 70 = .ok (.iload_n 3, 1) := by decide +kernel
theorem dX10_backsIn_71 : decode cX10_backsIn 71 = .ok (.ireturn, 1) := by decide +kernel
theorem dX10_pointsOf_0 : decode cX10_pointsOf 0 = .ok (.aload_n 0, 1) := by decide +kernel
theorem dX10_pointsOf_1 : decode cX10_pointsOf 1 = .ok (.getfield 85, 3) := by decide +kernel
theorem dX10_pointsOf_4 : decode cX10_pointsOf 4 = .ok (.getfield 245, 3) := by decide +kernel
theorem dX10_pointsOf_7 : decode cX10_pointsOf 7 = .ok (.iload_n 1, 1) := by decide +kernel
theorem dX10_pointsOf_8 : decode cX10_pointsOf 8 = .ok (.putfield 222, 3) := by decide +kernel
theorem dX10_pointsOf_11 : decode cX10_pointsOf 11 = .ok (.aload_n 0, 1) := by decide +kernel
theorem dX10_pointsOf_12 : decode cX10_pointsOf 12 = .ok (.getfield 85, 3) := by decide +kernel
theorem dX10_pointsOf_15 : decode cX10_pointsOf 15 = .ok (.getfield 245, 3) := by decide +kernel
theorem dX10_pointsOf_18 : decode cX10_pointsOf 18 = .ok (.iload_n 2, 1) := by decide +kernel
theorem dX10_pointsOf_19 : decode cX10_pointsOf 19 = .ok (.putfield 369, 3) := by decide +kernel
theorem dX10_pointsOf_22 : decode cX10_pointsOf 22 = .ok (.aload_n 0, 1) := by decide +kernel
theorem dX10_pointsOf_23 : decode cX10_pointsOf 23 = .ok (.aload_n 0, 1) := by decide +kernel
theorem dX10_pointsOf_24 : decode cX10_pointsOf 24 = .ok (.getfield 57, 3) := by decide +kernel
theorem dX10_pointsOf_27 : decode cX10_pointsOf 27 = .ok (.aload_n 0, 1) := by decide +kernel
theorem dX10_pointsOf_28 : decode cX10_pointsOf 28 = .ok (.getfield 85, 3) := by decide +kernel
theorem dX10_pointsOf_31 : decode cX10_pointsOf 31 = .ok (.getfield 245, 3) := by decide +kernel
theorem dX10_pointsOf_34 : decode cX10_pointsOf 34 = .ok (.aload_n 0, 1) := by decide +kernel
theorem dX10_pointsOf_35 : decode cX10_pointsOf 35 = .ok (.getfield 19, 3) := by decide +kernel
theorem dX10_pointsOf_38 : decode cX10_pointsOf 38 = .ok (.iload_n 1, 1) := by decide +kernel
theorem dX10_pointsOf_39 : decode cX10_pointsOf 39 = .ok (.aaload, 1) := by decide +kernel
theorem dX10_pointsOf_40 : decode cX10_pointsOf 40 = .ok (.getfield 136, 3) := by decide +kernel
theorem dX10_pointsOf_43 : decode cX10_pointsOf 43 = .ok (.invokevirtual 192, 3) := by decide +kernel
theorem dX10_pointsOf_46 : decode cX10_pointsOf 46 = .ok (.istore_n 3, 1) := by decide +kernel
theorem dX10_pointsOf_47 : decode cX10_pointsOf 47 = .ok (.iload_n 3, 1) := by decide +kernel
theorem dX10_pointsOf_48 : decode cX10_pointsOf 48 = .ok (.iconst 2, 1) := by decide +kernel
theorem dX10_pointsOf_49 : decode cX10_pointsOf 49 = .ok (.if_icmp .ne 6, 3) := by decide +kernel
theorem dX10_pointsOf_52 : decode cX10_pointsOf 52 = .ok (.bipush 50, 2) := by decide +kernel
theorem dX10_pointsOf_54 : decode cX10_pointsOf 54 = .ok (.ireturn, 1) := by decide +kernel
theorem dX10_pointsOf_55 : decode cX10_pointsOf 55 = .ok (.iload_n 3, 1) := by decide +kernel
theorem dX10_pointsOf_56 : decode cX10_pointsOf 56 = .ok (.iconst 1, 1) := by decide +kernel
theorem dX10_pointsOf_57 : decode cX10_pointsOf 57 = .ok (.if_icmp .ne 23, 3) := by decide +kernel
theorem dX10_pointsOf_60 : decode cX10_pointsOf 60 = .ok (.iconst 0, 1) := by decide +kernel
theorem dX10_pointsOf_61 : decode cX10_pointsOf 61 = .ok (.bipush 40, 2) := by decide +kernel
theorem dX10_pointsOf_63 : decode cX10_pointsOf 63 = .ok (.aload_n 0, 1) := by decide +kernel
theorem dX10_pointsOf_64 : decode cX10_pointsOf 64 = .ok (.getfield 57, 3) := by decide +kernel
theorem dX10_pointsOf_67 : decode cX10_pointsOf 67 = .ok (.invokevirtual 408, 3) := by decide +kernel
theorem dX10_pointsOf_70 : decode cX10_pointsOf 70 = .ok (.bipush 50, 2) := by decide +kernel
theorem dX10_pointsOf_72 : decode cX10_pointsOf 72 = .ok (.idiv, 1) := by decide +kernel
theorem dX10_pointsOf_73 : decode cX10_pointsOf 73 = .ok (.isub, 1) := by decide +kernel
theorem dX10_pointsOf_74 : decode cX10_pointsOf 74 = .ok (.invokestatic 411, 3) := by decide +kernel
theorem dX10_pointsOf_77 : decode cX10_pointsOf 77 = .ok (.goto 4, 3) := by decide +kernel
theorem dX10_pointsOf_80 : decode cX10_pointsOf 80 = .ok (.iconst 0, 1) := by decide +kernel
theorem dX10_pointsOf_81 : decode cX10_pointsOf 81 = .ok (.ireturn, 1) := by decide +kernel
theorem dX10_playMatch_0 : decode cX10_playMatch 0 = .ok (.aload_n 0, 1) := by decide +kernel
theorem dX10_playMatch_1 : decode cX10_playMatch 1 = .ok (.invokevirtual 214, 3) := by decide +kernel
theorem dX10_playMatch_4 : decode cX10_playMatch 4 = .ok (.istore_n 1, 1) := by decide +kernel
theorem dX10_playMatch_5 : decode cX10_playMatch 5 = .ok (.iconst 0, 1) := by decide +kernel
theorem dX10_playMatch_6 : decode cX10_playMatch 6 = .ok (.istore_n 2, 1) := by decide +kernel
theorem dX10_playMatch_7 : decode cX10_playMatch 7 = .ok (.iload_n 2, 1) := by decide +kernel
theorem dX10_playMatch_8 : decode cX10_playMatch 8 = .ok (.iconst 5, 1) := by decide +kernel
theorem dX10_playMatch_9 : decode cX10_playMatch 9 = .ok (.if_icmp .ge 29, 3) := by decide +kernel
theorem dX10_playMatch_12 : decode cX10_playMatch 12 = .ok (.aload_n 0, 1) := by decide +kernel
theorem dX10_playMatch_13 : decode cX10_playMatch 13 = .ok (.getfield 85, 3) := by decide +kernel
theorem dX10_playMatch_16 : decode cX10_playMatch 16 = .ok (.getfield 238, 3) := by decide +kernel
theorem dX10_playMatch_19 : decode cX10_playMatch 19 = .ok (.iload_n 2, 1) := by decide +kernel
theorem dX10_playMatch_20 : decode cX10_playMatch 20 = .ok (.iaload, 1) := by decide +kernel
theorem dX10_playMatch_21 : decode cX10_playMatch 21 = .ok (.bipush (-2), 2) := by decide +kernel
theorem dX10_playMatch_23 : decode cX10_playMatch 23 = .ok (.if_icmp .eq 9, 3) := by decide +kernel
theorem dX10_playMatch_26 : decode cX10_playMatch 26 = .ok (.aload_n 0, 1) := by decide +kernel
theorem dX10_playMatch_27 : decode cX10_playMatch 27 = .ok (.iload_n 2, 1) := by decide +kernel
theorem dX10_playMatch_28 : decode cX10_playMatch 28 = .ok (.iload_n 1, 1) := by decide +kernel
theorem dX10_playMatch_29 : decode cX10_playMatch 29 = .ok (.invokevirtual 414, 3) := by decide +kernel
theorem dX10_playMatch_32 : decode cX10_playMatch 32 = .ok (.iinc 2 1, 3) := by decide +kernel
theorem dX10_playMatch_35 : decode cX10_playMatch 35 = .ok (.goto (-28), 3) := by decide +kernel
theorem dX10_playMatch_38 : decode cX10_playMatch 38 = .ok (.aload_n 0, 1) := by decide +kernel
theorem dX10_playMatch_39 : decode cX10_playMatch 39 = .ok (.getfield 85, 3) := by decide +kernel
theorem dX10_playMatch_42 : decode cX10_playMatch 42 = .ok (.iload_n 1, 1) := by decide +kernel
theorem dX10_playMatch_43 : decode cX10_playMatch 43 = .ok (.invokevirtual 417, 3) := by decide +kernel
theorem dX10_playMatch_46 : decode cX10_playMatch 46 = .ok (.return_, 1) := by decide +kernel
theorem dX10_fillPoints_0 : decode cX10_fillPoints 0 = .ok (.iconst 0, 1) := by decide +kernel
theorem dX10_fillPoints_1 : decode cX10_fillPoints 1 = .ok (.istore_n 3, 1) := by decide +kernel
theorem dX10_fillPoints_2 : decode cX10_fillPoints 2 = .ok (.iload_n 3, 1) := by decide +kernel
theorem dX10_fillPoints_3 : decode cX10_fillPoints 3 = .ok (.aload_n 0, 1) := by decide +kernel
theorem dX10_fillPoints_4 : decode cX10_fillPoints 4 = .ok (.getfield 23, 3) := by decide +kernel
theorem dX10_fillPoints_7 : decode cX10_fillPoints 7 = .ok (.if_icmp .ge 43, 3) := by decide +kernel
theorem dX10_fillPoints_10 : decode cX10_fillPoints 10 = .ok (.iload_n 2, 1) := by decide +kernel
theorem dX10_fillPoints_11 : decode cX10_fillPoints 11 = .ok (.iload_n 3, 1) := by decide +kernel
theorem dX10_fillPoints_12 : decode cX10_fillPoints 12 = .ok (.ishr, 1) := by decide +kernel
theorem dX10_fillPoints_13 : decode cX10_fillPoints 13 = .ok (.iconst 1, 1) := by decide +kernel
theorem dX10_fillPoints_14 : decode cX10_fillPoints 14 = .ok (.iand, 1) := by decide +kernel
theorem dX10_fillPoints_15 : decode cX10_fillPoints 15 = .ok (.iconst 1, 1) := by decide +kernel
theorem dX10_fillPoints_16 : decode cX10_fillPoints 16 = .ok (.if_icmp .ne 28, 3) := by decide +kernel
theorem dX10_fillPoints_19 : decode cX10_fillPoints 19 = .ok (.aload_n 0, 1) := by decide +kernel
theorem dX10_fillPoints_20 : decode cX10_fillPoints 20 = .ok (.getfield 85, 3) := by decide +kernel
theorem dX10_fillPoints_23 : decode cX10_fillPoints 23 = .ok (.getfield 420, 3) := by decide +kernel
theorem dX10_fillPoints_26 : decode cX10_fillPoints 26 = .ok (.iload_n 1, 1) := by decide +kernel
theorem dX10_fillPoints_27 : decode cX10_fillPoints 27 = .ok (.aaload, 1) := by decide +kernel
theorem dX10_fillPoints_28 : decode cX10_fillPoints 28 = .ok (.iload_n 3, 1) := by decide +kernel
theorem dX10_fillPoints_29 : decode cX10_fillPoints 29 = .ok (.aload_n 0, 1) := by decide +kernel
theorem dX10_fillPoints_30 : decode cX10_fillPoints 30 = .ok (.iload_n 3, 1) := by decide +kernel
theorem dX10_fillPoints_31 : decode cX10_fillPoints 31 = .ok (.aload_n 0, 1) := by decide +kernel
theorem dX10_fillPoints_32 : decode cX10_fillPoints 32 = .ok (.getfield 85, 3) := by decide +kernel
theorem dX10_fillPoints_35 : decode cX10_fillPoints 35 = .ok (.getfield 238, 3) := by decide +kernel
theorem dX10_fillPoints_38 : decode cX10_fillPoints 38 = .ok (.iload_n 1, 1) := by decide +kernel
theorem dX10_fillPoints_39 : decode cX10_fillPoints 39 = .ok (.iaload, 1) := by decide +kernel
theorem dX10_fillPoints_40 : decode cX10_fillPoints 40 = .ok (.invokevirtual 248, 3) := by decide +kernel
theorem dX10_fillPoints_43 : decode cX10_fillPoints 43 = .ok (.iastore, 1) := by decide +kernel
theorem dX10_fillPoints_44 : decode cX10_fillPoints 44 = .ok (.iinc 3 1, 3) := by decide +kernel
theorem dX10_fillPoints_47 : decode cX10_fillPoints 47 = .ok (.goto (-45), 3) := by decide +kernel
theorem dX10_fillPoints_50 : decode cX10_fillPoints 50 = .ok (.return_, 1) := by decide +kernel
theorem dX10_addRow_0 : decode cX10_addRow 0 = .ok (.aload_n 0, 1) := by decide +kernel
theorem dX10_addRow_1 : decode cX10_addRow 1 = .ok (.getfield 91, 3) := by decide +kernel
theorem dX10_addRow_4 : decode cX10_addRow 4 = .ok (.aload_n 0, 1) := by decide +kernel
theorem dX10_addRow_5 : decode cX10_addRow 5 = .ok (.getfield 95, 3) := by decide +kernel
theorem dX10_addRow_8 : decode cX10_addRow 8 = .ok (.aaload, 1) := by decide +kernel
theorem dX10_addRow_9 : decode cX10_addRow 9 = .ok (.astore 8, 2) := by decide +kernel
theorem dX10_addRow_11 : decode cX10_addRow 11 = .ok (.aload 8, 2) := by decide +kernel
theorem dX10_addRow_13 : decode cX10_addRow 13 = .ok (.getfield 424, 3) := by decide +kernel
theorem dX10_addRow_16 : decode cX10_addRow 16 = .ok (.iload_n 1, 1) := by decide +kernel
theorem dX10_addRow_17 : decode cX10_addRow 17 = .ok (.iload_n 2, 1) := by decide +kernel
theorem dX10_addRow_18 : decode cX10_addRow 18 = .ok (.iload_n 3, 1) := by decide +kernel
theorem dX10_addRow_19 : decode cX10_addRow 19 = .ok (.iload 4, 2) := by decide +kernel
theorem dX10_addRow_21 : decode cX10_addRow 21 = .ok (.iload 5, 2) := by decide +kernel
theorem dX10_addRow_23 : decode cX10_addRow 23 = .ok (.iconst (-1), 1) := by decide +kernel
theorem dX10_addRow_24 : decode cX10_addRow 24 = .ok (.invokevirtual 188, 3) := by decide +kernel
theorem dX10_addRow_27 : decode cX10_addRow 27 = .ok (.aload 8, 2) := by decide +kernel
theorem dX10_addRow_29 : decode cX10_addRow 29 = .ok (.iload 6, 2) := by decide +kernel
theorem dX10_addRow_31 : decode cX10_addRow 31 = .ok (.putfield 427, 3) := by decide +kernel
theorem dX10_addRow_34 : decode cX10_addRow 34 = .ok (.aload 8, 2) := by decide +kernel
theorem dX10_addRow_36 : decode cX10_addRow 36 = .ok (.iload 7, 2) := by decide +kernel
theorem dX10_addRow_38 : decode cX10_addRow 38 = .ok (.putfield 428, 3) := by decide +kernel
theorem dX10_addRow_41 : decode cX10_addRow 41 = .ok (.aload_n 0, 1) := by decide +kernel
theorem dX10_addRow_42 : decode cX10_addRow 42 = .ok (.dup, 1) := by decide +kernel
theorem dX10_addRow_43 : decode cX10_addRow 43 = .ok (.getfield 95, 3) := by decide +kernel
theorem dX10_addRow_46 : decode cX10_addRow 46 = .ok (.iconst 1, 1) := by decide +kernel
theorem dX10_addRow_47 : decode cX10_addRow 47 = .ok (.iadd, 1) := by decide +kernel
theorem dX10_addRow_48 : decode cX10_addRow 48 = .ok (.putfield 95, 3) := by decide +kernel
theorem dX10_addRow_51 : decode cX10_addRow 51 = .ok (.return_, 1) := by decide +kernel
theorem dX10_holdsRow_0 : decode cX10_holdsRow 0 = .ok (.aload_n 0, 1) := by decide +kernel
theorem dX10_holdsRow_1 : decode cX10_holdsRow 1 = .ok (.aload_n 1, 1) := by decide +kernel
theorem dX10_holdsRow_2 : decode cX10_holdsRow 2 = .ok (.iload_n 2, 1) := by decide +kernel
theorem dX10_holdsRow_3 : decode cX10_holdsRow 3 = .ok (.iaload, 1) := by decide +kernel
theorem dX10_holdsRow_4 : decode cX10_holdsRow 4 = .ok (.aload_n 1, 1) := by decide +kernel
theorem dX10_holdsRow_5 : decode cX10_holdsRow 5 = .ok (.iload_n 2, 1) := by decide +kernel
theorem dX10_holdsRow_6 : decode cX10_holdsRow 6 = .ok (.iconst 1, 1) := by decide +kernel
theorem dX10_holdsRow_7 : decode cX10_holdsRow 7 = .ok (.iadd, 1) := by decide +kernel
theorem dX10_holdsRow_8 : decode cX10_holdsRow 8 = .ok (.iaload, 1) := by decide +kernel
theorem dX10_holdsRow_9 : decode cX10_holdsRow 9 = .ok (.aload_n 1, 1) := by decide +kernel
