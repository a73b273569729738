/-! decode rows -/
theorem dX8_part_0 : decode cX8_part 0 = .ok (.aload_n 0, 1) := by decide +kernel
theorem dX8_part_1 : decode cX8_part 1 = .ok (.iload_n 1, 1) := by decide +kernel
theorem dX8_part_2 : decode cX8_part 2 = .ok (.iload_n 2, 1) := by decide +kernel
theorem dX8_part_3 : decode cX8_part 3 = .ok (.iload_n 3, 1) := by decide +kernel
theorem dX8_part_4 : decode cX8_part 4 = .ok (.invokevirtual 72, 3) := by decide +kernel
theorem dX8_part_7 : decode cX8_part 7 = .ok (.istore 4, 2) := by decide +kernel
theorem dX8_part_9 : decode cX8_part 9 = .ok (.iload 4, 2) := by decide +kernel
theorem dX8_part_11 : decode cX8_part 11 = .ok (.ifCond .ge 6, 3) := by decide +kernel
theorem dX8_part_14 : decode cX8_part 14 = .ok (.iload 4, 2) := by decide +kernel
theorem dX8_part_16 : decode cX8_part 16 = .ok (.ireturn, 1) := by decide +kernel
theorem dX8_part_17 : decode cX8_part 17 = .ok (.aload_n 0, 1) := by decide +kernel
theorem dX8_part_18 : decode cX8_part 18 = .ok (.invokevirtual 69, 3) := by decide +kernel
theorem dX8_part_21 : decode cX8_part 21 = .ok (.aload_n 0, 1) := by decide +kernel
theorem dX8_part_22 : decode cX8_part 22 = .ok (.iload_n 1, 1) := by decide +kernel
theorem dX8_part_23 : decode cX8_part 23 = .ok (.iload_n 2, 1) := by decide +kernel
theorem dX8_part_24 : decode cX8_part 24 = .ok (.iload_n 3, 1) := by decide +kernel
theorem dX8_part_25 : decode cX8_part 25 = .ok (.invokevirtual 76, 3) := by decide +kernel
theorem dX8_part_28 : decode cX8_part 28 = .ok (.ireturn, 1) := by decide +kernel
theorem dX8_takeAway_0 : decode cX8_takeAway 0 = .ok (.aload_n 0, 1) := by decide +kernel
theorem dX8_takeAway_1 : decode cX8_takeAway 1 = .ok (.iload_n 1, 1) := by decide +kernel
theorem dX8_takeAway_2 : decode cX8_takeAway 2 = .ok (.invokevirtual 79, 3) := by decide +kernel
theorem dX8_takeAway_5 : decode cX8_takeAway 5 = .ok (.ifCond .ne 5, 3) := by decide +kernel
theorem dX8_takeAway_8 : decode cX8_takeAway 8 = .ok (.iconst (-1), 1) := by decide +kernel
theorem dX8_takeAway_9 : decode cX8_takeAway 9 = .ok (.ireturn, 1) := by decide +kernel
theorem dX8_takeAway_10 : decode cX8_takeAway 10 = .ok (.aload_n 0, 1) := by decide +kernel
theorem dX8_takeAway_11 : decode cX8_takeAway 11 = .ok (.invokevirtual 69, 3) := by decide +kernel
theorem dX8_takeAway_14 : decode cX8_takeAway 14 = .ok (.aload_n 0, 1) := by decide +kernel
theorem dX8_takeAway_15 : decode cX8_takeAway 15 = .ok (.getfield 7, 3) := by decide +kernel
theorem dX8_takeAway_18 : decode cX8_takeAway 18 = .ok (.iconst 4, 1) := by decide +kernel
theorem dX8_takeAway_19 : decode cX8_takeAway 19 = .ok (.dup2, 1) := by decide +kernel
theorem dX8_takeAway_20 : decode cX8_takeAway 20 = .ok (.iaload, 1) := by decide +kernel
theorem dX8_takeAway_21 : decode cX8_takeAway 21 = .ok (.iconst 1, 1) := by decide +kernel
theorem dX8_takeAway_22 : decode cX8_takeAway 22 = .ok (.isub, 1) := by decide +kernel
theorem dX8_takeAway_23 : decode cX8_takeAway 23 = .ok (.iastore, 1) := by decide +kernel
theorem dX8_takeAway_24 : decode cX8_takeAway 24 = .ok (.iconst 0, 1) := by decide +kernel
theorem dX8_takeAway_25 : decode cX8_takeAway 25 = .ok (.iload_n 1, 1) := by decide +kernel
theorem dX8_takeAway_26 : decode cX8_takeAway 26 = .ok (.invokestatic 42, 3) := by decide +kernel
theorem dX8_takeAway_29 : decode cX8_takeAway 29 = .ok (.istore_n 2, 1) := by decide +kernel
theorem dX8_takeAway_30 : decode cX8_takeAway 30 = .ok (.iload_n 2, 1) := by decide +kernel
theorem dX8_takeAway_31 : decode cX8_takeAway 31 = .ok (.iconst 0, 1) := by decide +kernel
theorem dX8_takeAway_32 : decode cX8_takeAway 32 = .ok (.aload_n 0, 1) := by decide +kernel
theorem dX8_takeAway_33 : decode cX8_takeAway 33 = .ok (.getfield 7, 3) := by decide +kernel
theorem dX8_takeAway_36 : decode cX8_takeAway 36 = .ok (.iconst 4, 1) := by decide +kernel
theorem dX8_takeAway_37 : decode cX8_takeAway 37 = .ok (.iaload, 1) := by decide +kernel
theorem dX8_takeAway_38 : decode cX8_takeAway 38 = .ok (.invokestatic 42, 3) := by decide +kernel
theorem dX8_takeAway_41 : decode cX8_takeAway 41 = .ok (.if_icmp .ge 23, 3) := by decide +kernel
theorem dX8_takeAway_44 : decode cX8_takeAway 44 = .ok (.aload_n 0, 1) := by decide +kernel
theorem dX8_takeAway_45 : decode cX8_takeAway 45 = .ok (.getfield 7, 3) := by decide +kernel
theorem dX8_takeAway_48 : decode cX8_takeAway 48 = .ok (.iload_n 2, 1) := by decide +kernel
theorem dX8_takeAway_49 : decode cX8_takeAway 49 = .ok (.aload_n 0, 1) := by decide +kernel
theorem dX8_takeAway_50 : decode cX8_takeAway 50 = .ok (.getfield 7, 3) := by decide +kernel
theorem dX8_takeAway_53 : decode cX8_takeAway 53 = .ok (.iload_n 2, 1) := by decide +kernel
theorem dX8_takeAway_54 : decode cX8_takeAway 54 = .ok (.iconst 5, 1) := by decide +kernel
theorem dX8_takeAway_55 : decode cX8_takeAway 55 = .ok (.iadd, 1) := by decide +kernel
theorem dX8_takeAway_56 : decode cX8_takeAway 56 = .ok (.iaload, 1) := by decide +kernel
theorem dX8_takeAway_57 : decode cX8_takeAway 57 = .ok (.iastore, 1) := by decide +kernel
theorem dX8_takeAway_58 : decode cX8_takeAway 58 = .ok (.iinc 2 1, 3) := by decide +kernel
theorem dX8_takeAway_61 : decode cX8_takeAway 61 = .ok (.goto (-31), 3) := by decide +kernel
theorem dX8_takeAway_64 : decode cX8_takeAway 64 = .ok (.aload_n 0, 1) := by decide +kernel
theorem dX8_takeAway_65 : decode cX8_takeAway 65 = .ok (.getfield 7, 3) := by decide +kernel
theorem dX8_takeAway_68 : decode cX8_takeAway 68 = .ok (.iconst 5, 1) := by decide +kernel
theorem dX8_takeAway_69 : decode cX8_takeAway 69 = .ok (.iconst 0, 1) := by decide +kernel
theorem dX8_takeAway_70 : decode cX8_takeAway 70 = .ok (.iastore, 1) := by decide +kernel
theorem dX8_takeAway_71 : decode cX8_takeAway 71 = .ok (.aload_n 0, 1) := by decide +kernel
theorem dX8_takeAway_72 : decode cX8_takeAway 72 = .ok (.getfield 7, 3) := by decide +kernel
theorem dX8_takeAway_75 : decode cX8_takeAway 75 = .ok (.iconst 4, 1) := by decide +kernel
theorem dX8_takeAway_76 : decode cX8_takeAway 76 = .ok (.iaload, 1) := by decide +kernel
theorem dX8_takeAway_77 : decode cX8_takeAway 77 = .ok (.ireturn, 1) := by decide +kernel
theorem dX8_hoop_0 : decode cX8_hoop 0 = .ok (.iload_n 1, 1) := by decide +kernel
theorem dX8_hoop_1 : decode cX8_hoop 1 = .ok (.iconst 1, 1) := by decide +kernel
theorem dX8_hoop_2 : decode cX8_hoop 2 = .ok (.bipush 60, 2) := by decide +kernel
theorem dX8_hoop_4 : decode cX8_hoop 4 = .ok (.invokestatic 26, 3) := by decide +kernel
theorem dX8_hoop_7 : decode cX8_hoop 7 = .ok (.ifCond .ne 6, 3) := by decide +kernel
theorem dX8_hoop_10 : decode cX8_hoop 10 = .ok (.bipush (-2), 2) := by decide +kernel
theorem dX8_hoop_12 : decode cX8_hoop 12 = .ok (.ireturn, 1) := by decide +kernel
theorem dX8_hoop_13 : decode cX8_hoop 13 = .ok (.aload_n 0, 1) := by decide +kernel
theorem dX8_hoop_14 : decode cX8_hoop 14 = .ok (.invokevirtual 69, 3) := by decide +kernel
theorem dX8_hoop_17 : decode cX8_hoop 17 = .ok (.aload_n 0, 1) := by decide +kernel
theorem dX8_hoop_18 : decode cX8_hoop 18 = .ok (.iconst 0, 1) := by decide +kernel
theorem dX8_hoop_19 : decode cX8_hoop 19 = .ok (.iload_n 1, 1) := by decide +kernel
theorem dX8_hoop_20 : decode cX8_hoop 20 = .ok (.invokevirtual 83, 3) := by decide +kernel
theorem dX8_hoop_23 : decode cX8_hoop 23 = .ok (.aload_n 0, 1) := by decide +kernel
theorem dX8_hoop_24 : decode cX8_hoop 24 = .ok (.getfield 7, 3) := by decide +kernel
theorem dX8_hoop_27 : decode cX8_hoop 27 = .ok (.bipush 14, 2) := by decide +kernel
theorem dX8_hoop_29 : decode cX8_hoop 29 = .ok (.iaload, 1) := by decide +kernel
theorem dX8_hoop_30 : decode cX8_hoop 30 = .ok (.ireturn, 1) := by decide +kernel
theorem dX8_whyNotRoll_0 : decode cX8_whyNotRoll 0 = .ok (.iload_n 1, 1) := by decide +kernel
theorem dX8_whyNotRoll_1 : decode cX8_whyNotRoll 1 = .ok (.iconst 1, 1) := by decide +kernel
theorem dX8_whyNotRoll_2 : decode cX8_whyNotRoll 2 = .ok (.bipush 20, 2) := by decide +kernel
theorem dX8_whyNotRoll_4 : decode cX8_whyNotRoll 4 = .ok (.invokestatic 26, 3) := by decide +kernel
theorem dX8_whyNotRoll_7 : decode cX8_whyNotRoll 7 = .ok (.ifCond .ne 8, 3) := by decide +kernel
theorem dX8_whyNotRoll_10 : decode cX8_whyNotRoll 10 = .ok (.bipush (-2), 2) := by decide +kernel
theorem dX8_whyNotRoll_12 : decode cX8_whyNotRoll 12 = .ok (.goto 16, 3) := by decide +kernel
theorem dX8_whyNotRoll_15 : decode cX8_whyNotRoll 15 = .ok (.aload_n 0, 1) := by decide +kernel
theorem dX8_whyNotRoll_16 : decode cX8_whyNotRoll 16 = .ok (.invokevirtual 86, 3) := by decide +kernel
theorem dX8_whyNotRoll_19 : decode cX8_whyNotRoll 19 = .ok (.ifCond .eq 7, 3) := by decide +kernel
theorem dX8_whyNotRoll_22 : decode cX8_whyNotRoll 22 = .ok (.iconst 0, 1) := by decide +kernel
theorem dX8_whyNotRoll_23 : decode cX8_whyNotRoll 23 = .ok (.goto 5, 3) := by decide +kernel
theorem dX8_whyNotRoll_26 : decode cX8_whyNotRoll 26 = .ok (.bipush (-5), 2) := by decide +kernel
theorem dX8_whyNotRoll_28 : decode cX8_whyNotRoll 28 = .ok (.ireturn, 1) := by decide +kernel
theorem dX8_roll_0 : decode cX8_roll 0 = .ok (.aload_n 0, 1) := by decide +kernel
theorem dX8_roll_1 : decode cX8_roll 1 = .ok (.iload_n 1, 1) := by decide +kernel
theorem dX8_roll_2 : decode cX8_roll 2 = .ok (.invokevirtual 90, 3) := by decide +kernel
theorem dX8_roll_5 : decode cX8_roll 5 = .ok (.istore_n 2, 1) := by decide +kernel
theorem dX8_roll_6 : decode cX8_roll 6 = .ok (.iload_n 2, 1) := by decide +kernel
theorem dX8_roll_7 : decode cX8_roll 7 = .ok (.ifCond .ge 5, 3) := by decide +kernel
theorem dX8_roll_10 : decode cX8_roll 10 = .ok (.iload_n 2, 1) := by decide +kernel
theorem dX8_roll_11 : decode cX8_roll 11 = .ok (.ireturn, 1) := by decide +kernel
theorem dX8_roll_12 : decode cX8_roll 12 = .ok (.aload_n 0, 1) := by decide +kernel
theorem dX8_roll_13 : decode cX8_roll 13 = .ok (.invokevirtual 69, 3) := by decide +kernel
theorem dX8_roll_16 : decode cX8_roll 16 = .ok (.aload_n 0, 1) := by decide +kernel
theorem dX8_roll_17 : decode cX8_roll 17 = .ok (.iconst 0, 1) := by decide +kernel
theorem dX8_roll_18 : decode cX8_roll 18 = .ok (.iload_n 1, 1) := by decide +kernel
theorem dX8_roll_19 : decode cX8_roll 19 = .ok (.invokevirtual 93, 3) := by decide +kernel
theorem dX8_roll_22 : decode cX8_roll 22 = .ok (.ireturn, 1) := by decide +kernel
theorem dX8_tap_0 : decode cX8_tap 0 = .ok (.iload_n 1, 1) := by decide +kernel
theorem dX8_tap_1 : decode cX8_tap 1 = .ok (.iconst 0, 1) := by decide +kernel
theorem dX8_tap_2 : decode cX8_tap 2 = .ok (.iconst 1, 1) := by decide +kernel
theorem dX8_tap_3 : decode cX8_tap 3 = .ok (.invokestatic 26, 3) := by decide +kernel
theorem dX8_tap_6 : decode cX8_tap 6 = .ok (.ifCond .ne 6, 3) := by decide +kernel
theorem dX8_tap_9 : decode cX8_tap 9 = .ok (.bipush (-2), 2) := by decide +kernel
theorem dX8_tap_11 : decode cX8_tap 11 = .ok (.ireturn, 1) := by decide +kernel
theorem dX8_tap_12 : decode cX8_tap 12 = .ok (.aload_n 0, 1) := by decide +kernel
theorem dX8_tap_13 : decode cX8_tap 13 = .ok (.invokevirtual 86, 3) := by decide +kernel
theorem dX8_tap_16 : decode cX8_tap 16 = .ok (.ifCond .ne 6, 3) := by decide +kernel
theorem dX8_tap_19 : decode cX8_tap 19 = .ok (.bipush (-5), 2) := by decide +kernel
theorem dX8_tap_21 : decode cX8_tap 21 = .ok (.ireturn, 1) := by decide +kernel
theorem dX8_tap_22 : decode cX8_tap 22 = .ok (.aload_n 0, 1) := by decide +kernel
theorem dX8_tap_23 : decode cX8_tap 23 = .ok (.invokevirtual 69, 3) := by decide +kernel
theorem dX8_tap_26 : decode cX8_tap 26 = .ok (.aload_n 0, 1) := by decide +kernel
theorem dX8_tap_27 : decode cX8_tap 27 = .ok (.iconst 0, 1) := by decide +kernel
theorem dX8_tap_28 : decode cX8_tap 28 = .ok (.iload_n 1, 1) := by decide +kernel
theorem dX8_tap_29 : decode cX8_tap 29 = .ok (.invokevirtual 96, 3) := by decide +kernel
theorem dX8_tap_32 : decode cX8_tap 32 = .ok (.aload_n 0, 1) := by decide +kernel
theorem dX8_tap_33 : decode cX8_tap 33 = .ok (.getfield 7, 3) := by decide +kernel
theorem dX8_tap_36 : decode cX8_tap 36 = .ok (.bipush 8, 2) := by decide +kernel
theorem dX8_tap_38 : decode cX8_tap 38 = .ok (.iaload, 1) := by decide +kernel
theorem dX8_tap_39 : decode cX8_tap 39 = .ok (.sipush 500, 3) := by decide +kernel
theorem dX8_tap_42 : decode cX8_tap 42 = .ok (.iadd, 1) := by decide +kernel
theorem dX8_tap_43 : decode cX8_tap 43 = .ok (.ireturn, 1) := by decide +kernel
theorem dX8_pushes_0 : decode cX8_pushes 0 = .ok (.aload_n 0, 1) := by decide +kernel
theorem dX8_pushes_1 : decode cX8_pushes 1 = .ok (.getfield 7, 3) := by decide +kernel
theorem dX8_pushes_4 : decode cX8_pushes 4 = .ok (.bipush 7, 2) := by decide +kernel
theorem dX8_pushes_6 : decode cX8_pushes 6 = .ok (.aload_n 0, 1) := by decide +kernel
theorem dX8_pushes_7 : decode cX8_pushes 7 = .ok (.getfield 7, 3) := by decide +kernel
theorem dX8_pushes_10 : decode cX8_pushes 10 = .ok (.bipush 7, 2) := by decide +kernel
theorem dX8_pushes_12 : decode cX8_pushes 12 = .ok (.iaload, 1) := by decide +kernel
theorem dX8_pushes_13 : decode cX8_pushes 13 = .ok (.iconst 5, 1) := by decide +kernel
theorem dX8_pushes_14 : decode cX8_pushes 14 = .ok (.iadd, 1) := by decide +kernel
theorem dX8_pushes_15 : decode cX8_pushes 15 = .ok (.bipush 99, 2) := by decide +kernel
theorem dX8_pushes_17 : decode cX8_pushes 17 = .ok (.invokestatic 34, 3) := by decide +kernel
theorem dX8_pushes_20 : decode cX8_pushes 20 = .ok (.iastore, 1) := by decide +kernel
theorem dX8_pushes_21 : decode cX8_pushes 21 = .ok (.aload_n 0, 1) := by decide +kernel
theorem dX8_pushes_22 : decode cX8_pushes 22 = .ok (.getfield 7, 3) := by decide +kernel
theorem dX8_pushes_25 : decode cX8_pushes 25 = .ok (.bipush 13, 2) := by decide +kernel
theorem dX8_pushes_27 : decode cX8_pushes 27 = .ok (.dup2, 1) := by decide +kernel
theorem dX8_pushes_28 : decode cX8_pushes 28 = .ok (.iaload, 1) := by decide +kernel
theorem dX8_pushes_29 : decode cX8_pushes 29 = .ok (.iconst 1, 1) := by decide +kernel
theorem dX8_pushes_30 : decode cX8_pushes 30 = .ok (.iadd, 1) := by decide +kernel
theorem dX8_pushes_31 : decode cX8_pushes 31 = .ok (.iastore, 1) := by decide +kernel
theorem dX8_pushes_32 : decode cX8_pushes 32 = .ok (.aload_n 0, 1) := by decide +kernel
theorem dX8_pushes_33 : decode cX8_pushes 33 = .ok (.getfield 7, 3) := by decide +kernel
theorem dX8_pushes_36 : decode cX8_pushes 36 = .ok (.bipush 7, 2) := by decide +kernel
theorem dX8_pushes_38 : decode cX8_pushes 38 = .ok (.iaload, 1) := by decide +kernel
theorem dX8_pushes_39 : decode cX8_pushes 39 = .ok (.ireturn, 1) := by decide +kernel
theorem dX8_push_0 : decode cX8_push 0 = .ok (.aload_n 0, 1) := by decide +kernel
theorem dX8_push_1 : decode cX8_push 1 = .ok (.invokevirtual 86, 3) := by decide +kernel
theorem dX8_push_4 : decode cX8_push 4 = .ok (.ifCond .ne 6, 3) := by decide +kernel
theorem dX8_push_7 : decode cX8_push 7 = .ok (.bipush (-5), 2) := by decide +kernel
theorem dX8_push_9 : decode cX8_push 9 = .ok (.ireturn, 1) := by decide +kernel
theorem dX8_push_10 : decode cX8_push 10 = .ok (.aload_n 0, 1) := by decide +kernel
theorem dX8_push_11 : decode cX8_push 11 = .ok (.invokevirtual 69, 3) := by decide +kernel
theorem dX8_push_14 : decode cX8_push 14 = .ok (.aload_n 0, 1) := by decide +kernel
theorem dX8_push_15 : decode cX8_push 15 = .ok (.invokevirtual 99, 3) := by decide +kernel
theorem dX8_push_18 : decode cX8_push 18 = .ok (.ireturn, 1) := by decide +kernel
theorem dX8_of_0 : decode cX8_of 0 = .ok (.aload_n 0, 1) := by decide +kernel
theorem dX8_of_1 : decode cX8_of 1 = .ok (.iload_n 1, 1) := by decide +kernel
theorem dX8_of_2 : decode cX8_of 2 = .ok (.invokevirtual 79, 3) := by decide +kernel
theorem dX8_of_5 : decode cX8_of 5 = .ok (.ifCond .ne 5, 3) := by decide +kernel
theorem dX8_of_8 : decode cX8_of 8 = .ok (.iconst (-1), 1) := by decide +kernel
theorem dX8_of_9 : decode cX8_of 9 = .ok (.ireturn, 1) := by decide +kernel
theorem dX8_of_10 : decode cX8_of 10 = .ok (.iload_n 2, 1) := by decide +kernel
theorem dX8_of_11 : decode cX8_of 11 = .ok (.iconst 0, 1) := by decide +kernel
theorem dX8_of_12 : decode cX8_of 12 = .ok (.iconst 4, 1) := by decide +kernel
theorem dX8_of_13 : decode cX8_of 13 = .ok (.invokestatic 26, 3) := by decide +kernel
theorem dX8_of_16 : decode cX8_of 16 = .ok (.ifCond .eq 18, 3) := by decide +kernel
theorem dX8_of_19 : decode cX8_of 19 = .ok (.aload_n 0, 1) := by decide +kernel
theorem dX8_of_20 : decode cX8_of 20 = .ok (.getfield 7, 3) := by decide +kernel
theorem dX8_of_23 : decode cX8_of 23 = .ok (.iconst 0, 1) := by decide +kernel
theorem dX8_of_24 : decode cX8_of 24 = .ok (.iload_n 1, 1) := by decide +kernel
theorem dX8_of_25 : decode cX8_of 25 = .ok (.invokestatic 42, 3) := by decide +kernel
theorem dX8_of_28 : decode cX8_of 28 = .ok (.iload_n 2, 1) := by decide +kernel
theorem dX8_of_29 : decode cX8_of 29 = .ok (.iadd, 1) := by decide +kernel
theorem dX8_of_30 : decode cX8_of 30 = .ok (.iaload, 1) := by decide +kernel
theorem dX8_of_31 : decode cX8_of 31 = .ok (.goto 5, 3) := by decide +kernel
theorem dX8_of_34 : decode cX8_of 34 = .ok (.bipush (-2), 2) := by decide +kernel
theorem dX8_of_36 : decode cX8_of 36 = .ok (.ireturn, 1) := by decide +kernel
theorem dX8_ofHoop_0 : decode cX8_ofHoop 0 = .ok (.iload_n 1, 1) := by decide +kernel
theorem dX8_ofHoop_1 : decode cX8_ofHoop 1 = .ok (.iconst 0, 1) := by decide +kernel
theorem dX8_ofHoop_2 : decode cX8_ofHoop 2 = .ok (.bipush 7, 2) := by decide +kernel
theorem dX8_ofHoop_4 : decode cX8_ofHoop 4 = .ok (.invokestatic 26, 3) := by decide +kernel
theorem dX8_ofHoop_7 : decode cX8_ofHoop 7 = .ok (.ifCond .ne 6, 3) := by decide +kernel
theorem dX8_ofHoop_10 : decode cX8_ofHoop 10 = .ok (.bipush (-2), 2) := by decide +kernel
theorem dX8_ofHoop_12 : decode cX8_ofHoop 12 = .ok (.ireturn, 1) := by decide +kernel
theorem dX8_ofHoop_13 : decode cX8_ofHoop 13 = .ok (.aload_n 0, 1) := by decide +kernel
theorem dX8_ofHoop_14 : decode cX8_ofHoop 14 = .ok (.getfield 7, 3) := by decide +kernel
theorem dX8_ofHoop_17 : decode cX8_ofHoop 17 = .ok (.iconst 5, 1) := by decide +kernel
theorem dX8_ofHoop_18 : decode cX8_ofHoop 18 = .ok (.iaload, 1) := by decide +kernel
theorem dX8_ofHoop_19 : decode cX8_ofHoop 19 = .ok (.ifCond .ne 6, 3) := by decide +kernel
theorem dX8_ofHoop_22 : decode cX8_ofHoop 22 = .ok (.bipush (-6), 2) := by decide +kernel
theorem dX8_ofHoop_24 : decode cX8_ofHoop 24 = .ok (.ireturn, 1) := by decide +kernel
theorem dX8_ofHoop_25 : decode cX8_ofHoop 25 = .ok (.iload_n 1, 1) := by decide +kernel
theorem dX8_ofHoop_26 : decode cX8_ofHoop 26 = .ok (.iconst 2, 1) := by decide +kernel
theorem dX8_ofHoop_27 : decode cX8_ofHoop 27 = .ok (.if_icmp .ne 17, 3) := by decide +kernel
theorem dX8_ofHoop_30 : decode cX8_ofHoop 30 = .ok (.aload_n 0, 1) := by decide +kernel
theorem dX8_ofHoop_31 : decode cX8_ofHoop 31 = .ok (.getfield 7, 3) := by decide +kernel
theorem dX8_ofHoop_34 : decode cX8_ofHoop 34 = .ok (.bipush 8, 2) := by decide +kernel
theorem dX8_ofHoop_36 : decode cX8_ofHoop 36 = .ok (.iaload, 1) := by decide +kernel
theorem dX8_ofHoop_37 : decode cX8_ofHoop 37 = .ok (.sipush 500, 3) := by decide +kernel
theorem dX8_ofHoop_40 : decode cX8_ofHoop 40 = .ok (.iadd, 1) := by decide +kernel
theorem dX8_ofHoop_41 : decode cX8_ofHoop 41 = .ok (.goto 12, 3) := by decide +kernel
theorem dX8_ofHoop_44 : decode cX8_ofHoop 44 = .ok (.aload_n 0, 1) := by decide +kernel
theorem dX8_ofHoop_45 : decode cX8_ofHoop 45 = .ok (.getfield 7, 3) := by decide +kernel
theorem dX8_ofHoop_48 : decode cX8_ofHoop 48 = .ok (.bipush 6, 2) := by decide +kernel
theorem dX8_ofHoop_50 : decode cX8_ofHoop 50 = .ok (.iload_n 1, 1) := by decide +kernel
theorem dX8_ofHoop_51 : decode cX8_ofHoop 51 = .ok (.iadd, 1) := by decide +kernel
theorem dX8_ofHoop_52 : decode cX8_ofHoop 52 = .ok (.iaload, 1) := by decide +kernel
theorem dX8_ofHoop_53 : decode cX8_ofHoop 53 = .ok (.ireturn, 1) := by decide +kernel
theorem dX8_run_0 : decode cX8_run 0 = .ok (.iload_n 1, 1) := by decide +kernel
theorem dX8_run_1 : decode cX8_run 1 = .ok (.iconst 0, 1) := by decide +kernel
theorem dX8_run_2 : decode cX8_run 2 = .ok (.aload_n 0, 1) := by decide +kernel
theorem dX8_run_3 : decode cX8_run 3 = .ok (.getfield 7, 3) := by decide +kernel
theorem dX8_run_6 : decode cX8_run 6 = .ok (.bipush 20, 2) := by decide +kernel
theorem dX8_run_8 : decode cX8_run 8 = .ok (.iaload, 1) := by decide +kernel
theorem dX8_run_9 : decode cX8_run 9 = .ok (.iconst 1, 1) := by decide +kernel
theorem dX8_run_10 : decode cX8_run 10 = .ok (.isub, 1) := by decide +kernel
theorem dX8_run_11 : decode cX8_run 11 = .ok (.invokestatic 26, 3) := by decide +kernel
theorem dX8_run_14 : decode cX8_run 14 = .ok (.ifCond .ne 5, 3) := by decide +kernel
theorem dX8_run_17 : decode cX8_run 17 = .ok (.iconst (-1), 1) := by decide +kernel
theorem dX8_run_18 : decode cX8_run 18 = .ok (.ireturn, 1) := by decide +kernel
theorem dX8_run_19 : decode cX8_run 19 = .ok (.iload_n 2, 1) := by decide +kernel
theorem dX8_run_20 : decode cX8_run 20 = .ok (.iconst 0, 1) := by decide +kernel
theorem dX8_run_21 : decode cX8_run 21 = .ok (.iconst 3, 1) := by decide +kernel
theorem dX8_run_22 : decode cX8_run 22 = .ok (.invokestatic 26, 3) := by decide +kernel
theorem dX8_run_25 : decode cX8_run 25 = .ok (.ifCond .eq 19, 3) := by decide +kernel
theorem dX8_run_28 : decode cX8_run 28 = .ok (.aload_n 0, 1) := by decide +kernel
theorem dX8_run_29 : decode cX8_run 29 = .ok (.getfield 7, 3) := by decide +kernel
theorem dX8_run_32 : decode cX8_run 32 = .ok (.bipush 21, 2) := by decide +kernel
theorem dX8_run_34 : decode cX8_run 34 = .ok (.iconst 4, 1) := by decide +kernel
theorem dX8_run_35 : decode cX8_run 35 = .ok (.iload_n 1, 1) := by decide +kernel
theorem dX8_run_36 : decode cX8_run 36 = .ok (.imul, 1) := by decide +kernel
theorem dX8_run_37 : decode cX8_run 37 = .ok (.iadd, 1) := by decide +kernel
theorem dX8_run_38 : decode cX8_run 38 = .ok (.iload_n 2, 1) := by decide +kernel
theorem dX8_run_39 : decode cX8_run 39 = .ok (.iadd, 1) := by decide +kernel
theorem dX8_run_40 : decode cX8_run 40 = .ok (.iaload, 1) := by decide +kernel
theorem dX8_run_41 : decode cX8_run 41 = .ok (.goto 5, 3) := by decide +kernel
theorem dX8_run_44 : decode cX8_run 44 = .ok (.bipush (-2), 2) := by decide +kernel
theorem dX8_run_46 : decode cX8_run 46 = .ok (.ireturn, 1) := by decide +kernel
theorem dX8_ofParts_0 : decode cX8_ofParts 0 = .ok (.iconst 0, 1) := by decide +kernel
theorem dX8_ofParts_1 : decode cX8_ofParts 1 = .ok (.istore_n 2, 1) := by decide +kernel
theorem dX8_ofParts_2 : decode cX8_ofParts 2 = .ok (.iconst 0, 1) := by decide +kernel
theorem dX8_ofParts_3 : decode cX8_ofParts 3 = .ok (.istore_n 3, 1) := by decide +kernel
theorem dX8_ofParts_4 : decode cX8_ofParts 4 = .ok (.iconst 0, 1) := by decide +kernel
theorem dX8_ofParts_5 : decode cX8_ofParts 5 = .ok (.istore 4, 2) := by decide +kernel
theorem dX8_ofParts_7 : decode cX8_ofParts 7 = .ok (.iload 4, 2) := by decide +kernel
theorem dX8_ofParts_9 : decode cX8_ofParts 9 = .ok (.aload_n 0, 1) := by decide +kernel
theorem dX8_ofParts_10 : decode cX8_ofParts 10 = .ok (.getfield 7, 3) := by decide +kernel
theorem dX8_ofParts_13 : decode cX8_ofParts 13 = .ok (.iconst 4, 1) := by decide +kernel
theorem dX8_ofParts_14 : decode cX8_ofParts 14 = .ok (.iaload, 1) := by decide +kernel
theorem dX8_ofParts_15 : decode cX8_ofParts 15 = .ok (.if_icmp .ge 78, 3) := by decide +kernel
theorem dX8_ofParts_18 : decode cX8_ofParts 18 = .ok (.aload_n 0, 1) := by decide +kernel
theorem dX8_ofParts_19 : decode cX8_ofParts 19 = .ok (.getfield 7, 3) := by decide +kernel
theorem dX8_ofParts_22 : decode cX8_ofParts 22 = .ok (.iconst 0, 1) := by decide +kernel
theorem dX8_ofParts_23 : decode cX8_ofParts 23 = .ok (.iload 4, 2) := by decide +kernel
theorem dX8_ofParts_25 : decode cX8_ofParts 25 = .ok (.invokestatic 42, 3) := by decide +kernel
theorem dX8_ofParts_28 : decode cX8_ofParts 28 = .ok (.iaload, 1) := by decide +kernel
theorem dX8_ofParts_29 : decode cX8_ofParts 29 = .ok (.istore 5, 2) := by decide +kernel
theorem dX8_ofParts_31 : decode cX8_ofParts 31 = .ok (.aload_n 0, 1) := by decide +kernel
theorem dX8_ofParts_32 : decode cX8_ofParts 32 = .ok (.getfield 7, 3) := by decide +kernel
theorem dX8_ofParts_35 : decode cX8_ofParts 35 = .ok (.iconst 0, 1) := by decide +kernel
theorem dX8_ofParts_36 : decode cX8_ofParts 36 = .ok (.iload 4, 2) := by decide +kernel
theorem dX8_ofParts_38 : decode cX8_ofParts 38 = .ok (.invokestatic 42, 3) := by decide +kernel
theorem dX8_ofParts_41 : decode cX8_ofParts 41 = .ok (.iconst 1, 1) := by decide +kernel
theorem dX8_ofParts_42 : decode cX8_ofParts 42 = .ok (.iadd, 1) := by decide +kernel
theorem dX8_ofParts_43 : decode cX8_ofParts 43 = .ok (.iaload, 1) := by decide +kernel
theorem dX8_ofParts_44 : decode cX8_ofParts 44 = .ok (.istore 6, 2) := by decide +kernel
theorem dX8_ofParts_46 : decode cX8_ofParts 46 = .ok (.iload_n 2, 1) := by decide +kernel
theorem dX8_ofParts_47 : decode cX8_ofParts 47 = .ok (.iload 5, 2) := by decide +kernel
theorem dX8_ofParts_49 : decode cX8_ofParts 49 = .ok (.iload_n 1, 1) := by decide +kernel
theorem dX8_ofParts_50 : decode cX8_ofParts 50 = .ok (.bipush 7, 2) := by decide +kernel
theorem dX8_ofParts_52 : decode cX8_ofParts 52 = .ok (.isub, 1) := by decide +kernel
theorem dX8_ofParts_53 : decode cX8_ofParts 53 = .ok (.if_icmp .ne 8, 3) := by decide +kernel
theorem dX8_ofParts_56 : decode cX8_ofParts 56 = .ok (.iload 6, 2) := by decide +kernel
theorem dX8_ofParts_58 : decode cX8_ofParts 58 = .ok (.goto 4, 3) := by decide +kernel
theorem dX8_ofParts_61 : decode cX8_ofParts 61 = .ok (.iconst 0, 1) := by decide +kernel
theorem dX8_ofParts_62 : decode cX8_ofParts 62 = .ok (.iadd, 1) := by decide +kernel
theorem dX8_ofParts_63 : decode cX8_ofParts 63 = .ok (.istore_n 2, 1) := by decide +kernel
theorem dX8_ofParts_64 : decode cX8_ofParts 64 = .ok (.iload 5, 2) := by decide +kernel
theorem dX8_ofParts_66 : decode cX8_ofParts 66 = .ok (.iconst 2, 1) := by decide +kernel
theorem dX8_ofParts_67 : decode cX8_ofParts 67 = .ok (.if_icmp .ne 18, 3) := by decide +kernel
theorem dX8_ofParts_70 : decode cX8_ofParts 70 = .ok (.iload_n 3, 1) := by decide +kernel
theorem dX8_ofParts_71 : decode cX8_ofParts 71 = .ok (.ifCond .eq 9, 3) := by decide +kernel
theorem dX8_ofParts_74 : decode cX8_ofParts 74 = .ok (.iload 6, 2) := by decide +kernel
theorem dX8_ofParts_76 : decode cX8_ofParts 76 = .ok (.iload_n 3, 1) := by decide +kernel
theorem dX8_ofParts_77 : decode cX8_ofParts 77 = .ok (.if_icmp .ge 8, 3) := by decide +kernel
theorem dX8_ofParts_80 : decode cX8_ofParts 80 = .ok (.iload 6, 2) := by decide +kernel
theorem dX8_ofParts_82 : decode cX8_ofParts 82 = .ok (.goto 4, 3) := by decide +kernel
theorem dX8_ofParts_85 : decode cX8_ofParts 85 = .ok (.iload_n 3, 1) := by decide +kernel
theorem dX8_ofParts_86 : decode cX8_ofParts 86 = .ok (.istore_n 3, 1) := by decide +kernel
theorem dX8_ofParts_87 : decode cX8_ofParts 87 = .ok (.iinc 4 1, 3) := by decide +kernel
theorem dX8_ofParts_90 : decode cX8_ofParts 90 = .ok (.goto (-83), 3) := by decide +kernel
theorem dX8_ofParts_93 : decode cX8_ofParts 93 = .ok (.iload_n 1, 1) := by decide +kernel
theorem dX8_ofParts_94 : decode cX8_ofParts 94 = .ok (.bipush 6, 2) := by decide +kernel
theorem dX8_ofParts_96 : decode cX8_ofParts 96 = .ok (.if_icmp .ne 7, 3) := by decide +kernel
theorem dX8_ofParts_99 : decode cX8_ofParts 99 = .ok (.iload_n 3, 1) := by decide +kernel
theorem dX8_ofParts_100 : decode cX8_ofParts 100 = .ok (.goto 4, 3) := by decide +kernel
theorem dX8_ofParts_103 : decode cX8_ofParts 103 = .ok (.iload_n 2, 1) := by decide +kernel
theorem dX8_ofParts_104 : decode cX8_ofParts 104 = .ok (.ireturn, 1) := by decide +kernel
theorem dX8_count_0 : decode cX8_count 0 = .ok (.iload_n 1, 1) := by decide +kernel
theorem dX8_count_1 : decode cX8_count 1 = .ok (.tableswitch 130 0 15 #[79, 86, 94, 94, 94, 94, 106, 106, 106, 112, 130, 130, 130, 130, 120, 125], 79) := by decide +kernel
theorem dX8_count_80 : decode cX8_count 80 = .ok (.aload_n 0, 1) := by decide +kernel
theorem dX8_count_81 : decode cX8_count 81 = .ok (.getfield 7, 3) := by decide +kernel
theorem dX8_count_84 : decode cX8_count 84 = .ok (.iconst 4, 1) := by decide +kernel
theorem dX8_count_85 : decode cX8_count 85 = .ok (.iaload, 1) := by decide +kernel
theorem dX8_count_86 : decode cX8_count 86 = .ok (.ireturn, 1) := by decide +kernel
theorem dX8_count_87 : decode cX8_count 87 = .ok (.aload_n 0, 1) := by decide +kernel
theorem dX8_count_88 : decode cX8_count 88 = .ok (.getfield 7, 3) := by decide +kernel
theorem dX8_count_91 : decode cX8_count 91 = .ok (.bipush 14, 2) := by decide +kernel
theorem dX8_count_93 : decode cX8_count 93 = .ok (.iaload, 1) := by decide +kernel
theorem dX8_count_94 : decode cX8_count 94 = .ok (.ireturn, 1) := by decide +kernel
theorem dX8_count_95 : decode cX8_count 95 = .ok (.aload_n 0, 1) := by decide +kernel
theorem dX8_count_96 : decode cX8_count 96 = .ok (.getfield 7, 3) := by decide +kernel
theorem dX8_count_99 : decode cX8_count 99 = .ok (.bipush 15, 2) := by decide +kernel
theorem dX8_count_101 : decode cX8_count 101 = .ok (.iload_n 1, 1) := by decide +kernel
theorem dX8_count_102 : decode cX8_count 102 = .ok (.iadd, 1) := by decide +kernel
theorem dX8_count_103 : decode cX8_count 103 = .ok (.iconst 2, 1) := by decide +kernel
theorem dX8_count_104 : decode cX8_count 104 = .ok (.isub, 1) := by decide +kernel
theorem dX8_count_105 : decode cX8_count 105 = .ok (.iaload, 1) := by decide +kernel
theorem dX8_count_106 : decode cX8_count 106 = .ok (.ireturn, 1) := by decide +kernel
theorem dX8_count_107 : decode cX8_count 107 = .ok (.aload_n 0, 1) := by decide +kernel
theorem dX8_count_108 : decode cX8_count 108 = .ok (.iload_n 1, 1) := by decide +kernel
theorem dX8_count_109 : decode cX8_count 109 = .ok (.invokevirtual 103, 3) := by decide +kernel
theorem dX8_count_112 : decode cX8_count 112 = .ok (.ireturn, 1) := by decide +kernel
theorem dX8_count_113 : decode cX8_count 113 = .ok (.aload_n 0, 1) := by decide +kernel
theorem dX8_count_114 : decode cX8_count 114 = .ok (.getfield 7, 3) := by decide +kernel
theorem dX8_count_117 : decode cX8_count 117 = .ok (.bipush 19, 2) := by decide +kernel
theorem dX8_count_119 : decode cX8_count 119 = .ok (.iaload, 1) := by decide +kernel
theorem dX8_count_120 : decode cX8_count 120 = .ok (.ireturn, 1) := by decide +kernel
theorem dX8_count_121 : decode cX8_count 121 = .ok (.aload_n 0, 1) := by decide +kernel
theorem dX8_count_122 : decode cX8_count 122 = .ok (.getfield 106, 3) := by decide +kernel
theorem dX8_count_125 : decode cX8_count 125 = .ok (.ireturn, 1) := by decide +kernel
theorem dX8_count_126 : decode cX8_count 126 = .ok (.aload_n 0, 1) := by decide +kernel
theorem dX8_count_127 : decode cX8_count 127 = .ok (.getfield 30, 3) := by decide +kernel
theorem dX8_count_130 : decode cX8_count 130 = .ok (.ireturn, 1) := by decide +kernel
theorem dX8_count_131 : decode cX8_count 131 = .ok (.iload_n 1, 1) := by decide +kernel
theorem dX8_count_132 : decode cX8_count 132 = .ok (.bipush 10, 2) := by decide +kernel
theorem dX8_count_134 : decode cX8_count 134 = .ok (.bipush 13, 2) := by decide +kernel
theorem dX8_count_136 : decode cX8_count 136 = .ok (.invokestatic 26, 3) := by decide +kernel
theorem dX8_count_139 : decode cX8_count 139 = .ok (.ifCond .eq 15, 3) := by decide +kernel
theorem dX8_count_142 : decode cX8_count 142 = .ok (.aload_n 0, 1) := by decide +kernel
theorem dX8_count_143 : decode cX8_count 143 = .ok (.getfield 7, 3) := by decide +kernel
theorem dX8_count_146 : decode cX8_count 146 = .ok (.iload_n 1, 1) := by decide +kernel
theorem dX8_count_147 : decode cX8_count 147 = .ok (.bipush 10, 2) := by decide +kernel
theorem dX8_count_149 : decode cX8_count 149 = .ok (.isub, 1) := by decide +kernel
theorem dX8_count_150 : decode cX8_count 150 = .ok (.iaload, 1) := by decide +kernel
theorem dX8_count_151 : decode cX8_count 151 = .ok (.goto 5, 3) := by decide +kernel
theorem dX8_count_154 : decode cX8_count 154 = .ok (.bipush (-2), 2) := by decide +kernel
theorem dX8_count_156 : decode cX8_count 156 = .ok (.ireturn, 1) := by decide +kernel
theorem dX8_ifRolled_0 : decode cX8_ifRolled 0 = .ok (.iload_n 1, 1) := by decide +kernel
theorem dX8_ifRolled_1 : decode cX8_ifRolled 1 = .ok (.iconst 0, 1) := by decide +kernel
theorem dX8_ifRolled_2 : decode cX8_ifRolled 2 = .ok (.iconst 3, 1) := by decide +kernel
theorem dX8_ifRolled_3 : decode cX8_ifRolled 3 = .ok (.invokestatic 26, 3) := by decide +kernel
theorem dX8_ifRolled_6 : decode cX8_ifRolled 6 = .ok (.ifCond .ne 6, 3) := by decide +kernel
theorem dX8_ifRolled_9 : decode cX8_ifRolled 9 = .ok (.bipush (-2), 2) := by decide +kernel
theorem dX8_ifRolled_11 : decode cX8_ifRolled 11 = .ok (.ireturn, 1) := by decide +kernel
theorem dX8_ifRolled_12 : decode cX8_ifRolled 12 = .ok (.aload_n 0, 1) := by decide +kernel
theorem dX8_ifRolled_13 : decode cX8_ifRolled 13 = .ok (.invokevirtual 86, 3) := by decide +kernel
theorem dX8_ifRolled_16 : decode cX8_ifRolled 16 = .ok (.ifCond .ne 6, 3) := by decide +kernel
theorem dX8_ifRolled_19 : decode cX8_ifRolled 19 = .ok (.bipush (-5), 2) := by decide +kernel
theorem dX8_ifRolled_21 : decode cX8_ifRolled 21 = .ok (.ireturn, 1) := by decide +kernel
theorem dX8_ifRolled_22 : decode cX8_ifRolled 22 = .ok (.aload_n 0, 1) := by decide +kernel
theorem dX8_ifRolled_23 : decode cX8_ifRolled 23 = .ok (.invokevirtual 109, 3) := by decide +kernel
theorem dX8_ifRolled_26 : decode cX8_ifRolled 26 = .ok (.aload_n 0, 1) := by decide +kernel
theorem dX8_ifRolled_27 : decode cX8_ifRolled 27 = .ok (.iconst 0, 1) := by decide +kernel
theorem dX8_ifRolled_28 : decode cX8_ifRolled 28 = .ok (.putfield 52, 3) := by decide +kernel
theorem dX8_ifRolled_31 : decode cX8_ifRolled 31 = .ok (.aload_n 0, 1) := by decide +kernel
theorem dX8_ifRolled_32 : decode cX8_ifRolled 32 = .ok (.sipush 161, 3) := by decide +kernel
theorem dX8_ifRolled_35 : decode cX8_ifRolled 35 = .ok (.bipush 21, 2) := by decide +kernel
theorem dX8_ifRolled_37 : decode cX8_ifRolled 37 = .ok (.invokevirtual 93, 3) := by decide +kernel
theorem dX8_ifRolled_40 : decode cX8_ifRolled 40 = .ok (.istore_n 2, 1) := by decide +kernel
theorem dX8_ifRolled_41 : decode cX8_ifRolled 41 = .ok (.iload_n 1, 1) := by decide +kernel
theorem dX8_ifRolled_42 : decode cX8_ifRolled 42 = .ok (.ifCond .ne 7, 3) := by decide +kernel
theorem dX8_ifRolled_45 : decode cX8_ifRolled 45 = .ok (.iload_n 2, 1) := by decide +kernel
theorem dX8_ifRolled_46 : decode cX8_ifRolled 46 = .ok (.goto 39, 3) := by decide +kernel
theorem dX8_ifRolled_49 : decode cX8_ifRolled 49 = .ok (.iload_n 1, 1) := by decide +kernel
theorem dX8_ifRolled_50 : decode cX8_ifRolled 50 = .ok (.iconst 1, 1) := by decide +kernel
theorem dX8_ifRolled_51 : decode cX8_ifRolled 51 = .ok (.if_icmp .ne 14, 3) := by decide +kernel
theorem dX8_ifRolled_54 : decode cX8_ifRolled 54 = .ok (.aload_n 0, 1) := by decide +kernel
theorem dX8_ifRolled_55 : decode cX8_ifRolled 55 = .ok (.getfield 7, 3) := by decide +kernel
theorem dX8_ifRolled_58 : decode cX8_ifRolled 58 = .ok (.sipush 171, 3) := by decide +kernel
theorem dX8_ifRolled_61 : decode cX8_ifRolled 61 = .ok (.iaload, 1) := by decide +kernel
theorem dX8_ifRolled_62 : decode cX8_ifRolled 62 = .ok (.goto 23, 3) := by decide +kernel
theorem dX8_ifRolled_65 : decode cX8_ifRolled 65 = .ok (.iload_n 1, 1) := by decide +kernel
theorem dX8_ifRolled_66 : decode cX8_ifRolled 66 = .ok (.iconst 2, 1) := by decide +kernel
theorem dX8_ifRolled_67 : decode cX8_ifRolled 67 = .ok (.if_icmp .ne 14, 3) := by decide +kernel
theorem dX8_ifRolled_70 : decode cX8_ifRolled 70 = .ok (.aload_n 0, 1) := by decide +kernel
theorem dX8_ifRolled_71 : decode cX8_ifRolled 71 = .ok (.getfield 7, 3) := by decide +kernel
theorem dX8_ifRolled_74 : decode cX8_ifRolled 74 = .ok (.sipush 168, 3) := by decide +kernel
theorem dX8_ifRolled_77 : decode cX8_ifRolled 77 = .ok (.iaload, 1) := by decide +kernel
theorem dX8_ifRolled_78 : decode cX8_ifRolled 78 = .ok (.goto 7, 3) := by decide +kernel
theorem dX8_ifRolled_81 : decode cX8_ifRolled 81 = .ok (.aload_n 0, 1) := by decide +kernel
theorem dX8_ifRolled_82 : decode cX8_ifRolled 82 = .ok (.getfield 52, 3) := by decide +kernel
theorem dX8_ifRolled_85 : decode cX8_ifRolled 85 = .ok (.ireturn, 1) := by decide +kernel
theorem dX8_widest_0 : decode cX8_widest 0 = .ok (.bipush 60, 2) := by decide +kernel
theorem dX8_widest_2 : decode cX8_widest 2 = .ok (.istore_n 1, 1) := by decide +kernel
theorem dX8_widest_3 : decode cX8_widest 3 = .ok (.iload_n 1, 1) := by decide +kernel
theorem dX8_widest_4 : decode cX8_widest 4 = .ok (.ifCond .le 36, 3) := by decide +kernel
theorem dX8_widest_7 : decode cX8_widest 7 = .ok (.aload_n 0, 1) := by decide +kernel
theorem dX8_widest_8 : decode cX8_widest 8 = .ok (.invokevirtual 109, 3) := by decide +kernel
theorem dX8_widest_11 : decode cX8_widest 11 = .ok (.aload_n 0, 1) := by decide +kernel
theorem dX8_widest_12 : decode cX8_widest 12 = .ok (.sipush 161, 3) := by decide +kernel
theorem dX8_widest_15 : decode cX8_widest 15 = .ok (.iload_n 1, 1) := by decide +kernel
theorem dX8_widest_16 : decode cX8_widest 16 = .ok (.invokevirtual 83, 3) := by decide +kernel
theorem dX8_widest_19 : decode cX8_widest 19 = .ok (.aload_n 0, 1) := by decide +kernel
theorem dX8_widest_20 : decode cX8_widest 20 = .ok (.sipush 161, 3) := by decide +kernel
theorem dX8_widest_23 : decode cX8_widest 23 = .ok (.bipush 21, 2) := by decide +kernel
theorem dX8_widest_25 : decode cX8_widest 25 = .ok (.invokevirtual 93, 3) := by decide +kernel
theorem dX8_widest_28 : decode cX8_widest 28 = .ok (.iconst 4, 1) := by decide +kernel
theorem dX8_widest_29 : decode cX8_widest 29 = .ok (.if_icmp .ne 5, 3) := by decide +kernel
theorem dX8_widest_32 : decode cX8_widest 32 = .ok (.iload_n 1, 1) := by decide +kernel
theorem dX8_widest_33 : decode cX8_widest 33 = .ok (.ireturn, 1) := by decide +kernel
theorem dX8_widest_34 : decode cX8_widest 34 = .ok (.iinc 1 (-1), 3) := by decide +kernel
theorem dX8_widest_37 : decode cX8_widest 37 = .ok (.goto (-34), 3) := by decide +kernel
theorem dX8_widest_40 : decode cX8_widest 40 = .ok (.bipush (-6), 2) := by decide +kernel
theorem dX8_widest_42 : decode cX8_widest 42 = .ok (.ireturn, 1) := by decide +kernel
theorem dX8_saves_0 : decode cX8_saves 0 = .ok (.iload_n 1, 1) := by decide +kernel
theorem dX8_saves_1 : decode cX8_saves 1 = .ok (.iconst 0, 1) := by decide +kernel
theorem dX8_saves_2 : decode cX8_saves 2 = .ok (.iconst 1, 1) := by decide +kernel
theorem dX8_saves_3 : decode cX8_saves 3 = .ok (.invokestatic 26, 3) := by decide +kernel
theorem dX8_saves_6 : decode cX8_saves 6 = .ok (.ifCond .ne 6, 3) := by decide +kernel
theorem dX8_saves_9 : decode cX8_saves 9 = .ok (.bipush (-2), 2) := by decide +kernel
theorem dX8_saves_11 : decode cX8_saves 11 = .ok (.ireturn, 1) := by decide +kernel
theorem dX8_saves_12 : decode cX8_saves 12 = .ok (.aload_n 0, 1) := by decide +kernel
theorem dX8_saves_13 : decode cX8_saves 13 = .ok (.invokevirtual 86, 3) := by decide +kernel
theorem dX8_saves_16 : decode cX8_saves 16 = .ok (.ifCond .ne 6, 3) := by decide +kernel
theorem dX8_saves_19 : decode cX8_saves 19 = .ok (.bipush (-5), 2) := by decide +kernel
theorem dX8_saves_21 : decode cX8_saves 21 = .ok (.ireturn, 1) := by decide +kernel
theorem dX8_saves_22 : decode cX8_saves 22 = .ok (.iconst 0, 1) := by decide +kernel
theorem dX8_saves_23 : decode cX8_saves 23 = .ok (.istore_n 2, 1) := by decide +kernel
theorem dX8_saves_24 : decode cX8_saves 24 = .ok (.iload_n 2, 1) := by decide +kernel
theorem dX8_saves_25 : decode cX8_saves 25 = .ok (.bipush 20, 2) := by decide +kernel
theorem dX8_saves_27 : decode cX8_saves 27 = .ok (.if_icmp .gt 49, 3) := by decide +kernel
theorem dX8_saves_30 : decode cX8_saves 30 = .ok (.aload_n 0, 1) := by decide +kernel
theorem dX8_saves_31 : decode cX8_saves 31 = .ok (.invokevirtual 109, 3) := by decide +kernel
theorem dX8_saves_34 : decode cX8_saves 34 = .ok (.iconst 0, 1) := by decide +kernel
theorem dX8_saves_35 : decode cX8_saves 35 = .ok (.istore_n 3, 1) := by decide +kernel
theorem dX8_saves_36 : decode cX8_saves 36 = .ok (.iload_n 3, 1) := by decide +kernel
theorem dX8_saves_37 : decode cX8_saves 37 = .ok (.iload_n 2, 1) := by decide +kernel
theorem dX8_saves_38 : decode cX8_saves 38 = .ok (.if_icmp .ge 17, 3) := by decide +kernel
theorem dX8_saves_41 : decode cX8_saves 41 = .ok (.aload_n 0, 1) := by decide +kernel
theorem dX8_saves_42 : decode cX8_saves 42 = .ok (.sipush 161, 3) := by decide +kernel
theorem dX8_saves_45 : decode cX8_saves 45 = .ok (.iload_n 1, 1) := by decide +kernel
theorem dX8_saves_46 : decode cX8_saves 46 = .ok (.invokevirtual 96, 3) := by decide +kernel
theorem dX8_saves_49 : decode cX8_saves 49 = .ok (.iinc 3 1, 3) := by decide +kernel
theorem dX8_saves_52 : decode cX8_saves 52 = .ok (.goto (-16), 3) := by decide +kernel
theorem dX8_saves_55 : decode cX8_saves 55 = .ok (.aload_n 0, 1) := by decide +kernel
theorem dX8_saves_56 : decode cX8_saves 56 = .ok (.sipush 161, 3) := by decide +kernel
theorem dX8_saves_59 : decode cX8_saves 59 = .ok (.bipush 21, 2) := by decide +kernel
theorem dX8_saves_61 : decode cX8_saves 61 = .ok (.invokevirtual 93, 3) := by decide +kernel
theorem dX8_saves_64 : decode cX8_saves 64 = .ok (.iconst 4, 1) := by decide +kernel
theorem dX8_saves_65 : decode cX8_saves 65 = .ok (.if_icmp .ne 5, 3) := by decide +kernel
theorem dX8_saves_68 : decode cX8_saves 68 = .ok (.iload_n 2, 1) := by decide +kernel
theorem dX8_saves_69 : decode cX8_saves 69 = .ok (.ireturn, 1) := by decide +kernel
theorem dX8_saves_70 : decode cX8_saves 70 = .ok (.iinc 2 1, 3) := by decide +kernel
theorem dX8_saves_73 : decode cX8_saves 73 = .ok (.goto (-49), 3) := by decide +kernel
theorem dX8_saves_76 : decode cX8_saves 76 = .ok (.bipush (-6), 2) := by decide +kernel
theorem dX8_saves_78 : decode cX8_saves 78 = .ok (.ireturn, 1) := by decide +kernel
theorem dX8_traced_0 : decode cX8_traced 0 = .ok (.aload_n 0, 1) := by decide +kernel
theorem dX8_traced_1 : decode cX8_traced 1 = .ok (.iload_n 2, 1) := by decide +kernel
theorem dX8_traced_2 : decode cX8_traced 2 = .ok (.invokevirtual 79, 3) := by decide +kernel
theorem dX8_traced_5 : decode cX8_traced 5 = .ok (.ifCond .ne 5, 3) := by decide +kernel
theorem dX8_traced_8 : decode cX8_traced 8 = .ok (.iconst (-1), 1) := by decide +kernel
theorem dX8_traced_9 : decode cX8_traced 9 = .ok (.ireturn, 1) := by decide +kernel
theorem dX8_traced_10 : decode cX8_traced 10 = .ok (.iload_n 1, 1) := by decide +kernel
theorem dX8_traced_11 : decode cX8_traced 11 = .ok (.iconst 1, 1) := by decide +kernel
theorem dX8_traced_12 : decode cX8_traced 12 = .ok (.bipush 60, 2) := by decide +kernel
theorem dX8_traced_14 : decode cX8_traced 14 = .ok (.invokestatic 26, 3) := by decide +kernel
theorem dX8_traced_17 : decode cX8_traced 17 = .ok (.ifCond .eq 12, 3) := by decide +kernel
theorem dX8_traced_20 : decode cX8_traced 20 = .ok (.iload_n 3, 1) := by decide +kernel
theorem dX8_traced_21 : decode cX8_traced 21 = .ok (.iconst 0, 1) := by decide +kernel
theorem dX8_traced_22 : decode cX8_traced 22 = .ok (.iconst 2, 1) := by decide +kernel
theorem dX8_traced_23 : decode cX8_traced 23 = .ok (.invokestatic 26, 3) := by decide +kernel
theorem dX8_traced_26 : decode cX8_traced 26 = .ok (.ifCond .ne 6, 3) := by decide +kernel
theorem dX8_traced_29 : decode cX8_traced 29 = .ok (.bipush (-2), 2) := by decide +kernel
theorem dX8_traced_31 : decode cX8_traced 31 = .ok (.ireturn, 1) := by decide +kernel
theorem dX8_traced_32 : decode cX8_traced 32 = .ok (.aload_n 0, 1) := by decide +kernel
theorem dX8_traced_33 : decode cX8_traced 33 = .ok (.invokevirtual 109, 3) := by decide +kernel
theorem dX8_traced_36 : decode cX8_traced 36 = .ok (.aload_n 0, 1) := by decide +kernel
theorem dX8_traced_37 : decode cX8_traced 37 = .ok (.sipush 161, 3) := by decide +kernel
theorem dX8_traced_40 : decode cX8_traced 40 = .ok (.iload_n 1, 1) := by decide +kernel
theorem dX8_traced_41 : decode cX8_traced 41 = .ok (.invokevirtual 83, 3) := by decide +kernel
theorem dX8_traced_44 : decode cX8_traced 44 = .ok (.aload_n 0, 1) := by decide +kernel
theorem dX8_traced_45 : decode cX8_traced 45 = .ok (.sipush 161, 3) := by decide +kernel
theorem dX8_traced_48 : decode cX8_traced 48 = .ok (.iload_n 2, 1) := by decide +kernel
theorem dX8_traced_49 : decode cX8_traced 49 = .ok (.iconst 1, 1) := by decide +kernel
theorem dX8_traced_50 : decode cX8_traced 50 = .ok (.iadd, 1) := by decide +kernel
theorem dX8_traced_51 : decode cX8_traced 51 = .ok (.invokevirtual 93, 3) := by decide +kernel
theorem dX8_traced_54 : decode cX8_traced 54 = .ok (.istore 4, 2) := by decide +kernel
theorem dX8_traced_56 : decode cX8_traced 56 = .ok (.iload 4, 2) := by decide +kernel
theorem dX8_traced_58 : decode cX8_traced 58 = .ok (.ifCond .eq 12, 3) := by decide +kernel
theorem dX8_traced_61 : decode cX8_traced 61 = .ok (.iload 4, 2) := by decide +kernel
theorem dX8_traced_63 : decode cX8_traced 63 = .ok (.iconst 4, 1) := by decide +kernel
theorem dX8_traced_64 : decode cX8_traced 64 = .ok (.if_icmp .eq 6, 3) := by decide +kernel
theorem dX8_traced_67 : decode cX8_traced 67 = .ok (.bipush (-6), 2) := by decide +kernel
theorem dX8_traced_69 : decode cX8_traced 69 = .ok (.ireturn, 1) := by decide +kernel
theorem dX8_traced_70 : decode cX8_traced 70 = .ok (.aload_n 0, 1) := by decide +kernel
theorem dX8_traced_71 : decode cX8_traced 71 = .ok (.getfield 7, 3) := by decide +kernel
theorem dX8_traced_74 : decode cX8_traced 74 = .ok (.sipush 168, 3) := by decide +kernel
theorem dX8_traced_77 : decode cX8_traced 77 = .ok (.iload_n 3, 1) := by decide +kernel
theorem dX8_traced_78 : decode cX8_traced 78 = .ok (.iadd, 1) := by decide +kernel
theorem dX8_traced_79 : decode cX8_traced 79 = .ok (.iaload, 1) := by decide +kernel
theorem dX8_traced_80 : decode cX8_traced 80 = .ok (.iload_n 3, 1) := by decide +kernel
theorem dX8_traced_81 : decode cX8_traced 81 = .ok (.iconst 1, 1) := by decide +kernel
theorem dX8_traced_82 : decode cX8_traced 82 = .ok (.if_icmp .ne 9, 3) := by decide +kernel
theorem dX8_traced_85 : decode cX8_traced 85 = .ok (.sipush 500, 3) := by decide +kernel
theorem dX8_traced_88 : decode cX8_traced 88 = .ok (.goto 4, 3) := by decide +kernel
theorem dX8_traced_91 : decode cX8_traced 91 = .ok (.iconst 0, 1) := by decide +kernel
theorem dX8_traced_92 : decode cX8_traced 92 = .ok (.iadd, 1) := by decide +kernel
theorem dX8_traced_93 : decode cX8_traced 93 = .ok (.ireturn, 1) := by decide +kernel
theorem dX8_put_0 : decode cX8_put 0 = .ok (.iconst 0, 1) := by decide +kernel
theorem dX8_put_1 : decode cX8_put 1 = .ok (.istore_n 3, 1) := by decide +kernel
theorem dX8_put_2 : decode cX8_put 2 = .ok (.iconst 1, 1) := by decide +kernel
theorem dX8_put_3 : decode cX8_put 3 = .ok (.istore 4, 2) := by decide +kernel
theorem dX8_put_5 : decode cX8_put 5 = .ok (.iconst 0, 1) := by decide +kernel
theorem dX8_put_6 : decode cX8_put 6 = .ok (.istore 5, 2) := by decide +kernel
theorem dX8_put_8 : decode cX8_put 8 = .ok (.iconst 0, 1) := by decide +kernel
theorem dX8_put_9 : decode cX8_put 9 = .ok (.istore 6, 2) := by decide +kernel
theorem dX8_put_11 : decode cX8_put 11 = .ok (.iload 6, 2) := by decide +kernel
theorem dX8_put_13 : decode cX8_put 13 = .ok (.bipush 8, 2) := by decide +kernel
theorem dX8_put_15 : decode cX8_put 15 = .ok (.if_icmp .ge 90, 3) := by decide +kernel
theorem dX8_put_18 : decode cX8_put 18 = .ok (.lload_n 1, 1) := by decide +kernel
theorem dX8_put_19 : decode cX8_put 19 = .ok (.bipush 8, 2) := by decide +kernel
theorem dX8_put_21 : decode cX8_put 21 = .ok (.iload 6, 2) := by decide +kernel
theorem dX8_put_23 : decode cX8_put 23 = .ok (.imul, 1) := by decide +kernel
theorem dX8_put_24 : decode cX8_put 24 = .ok (.lshr, 1) := by decide +kernel
theorem dX8_put_25 : decode cX8_put 25 = .ok (.ldc2_w 112, 3) := by decide +kernel
theorem dX8_put_28 : decode cX8_put 28 = .ok (.land, 1) := by decide +kernel
theorem dX8_put_29 : decode cX8_put 29 = .ok (.l2i, 1) := by decide +kernel
theorem dX8_put_30 : decode cX8_put 30 = .ok (.istore 7, 2) := by decide +kernel
theorem dX8_put_32 : decode cX8_put 32 = .ok (.iload 5, 2) := by decide +kernel
theorem dX8_put_34 : decode cX8_put 34 = .ok (.ifCond .ne 8, 3) := by decide +kernel
theorem dX8_put_37 : decode cX8_put 37 = .ok (.iload 7, 2) := by decide +kernel
theorem dX8_put_39 : decode cX8_put 39 = .ok (.ifCond .ne 7, 3) := by decide +kernel
theorem dX8_put_42 : decode cX8_put 42 = .ok (.iconst 1, 1) := by decide +kernel
theorem dX8_put_43 : decode cX8_put 43 = .ok (.goto 4, 3) := by decide +kernel
theorem dX8_put_46 : decode cX8_put 46 = .ok (.iconst 0, 1) := by decide +kernel
theorem dX8_put_47 : decode cX8_put 47 = .ok (.istore 5, 2) := by decide +kernel
theorem dX8_put_49 : decode cX8_put 49 = .ok (.iload 4, 2) := by decide +kernel
theorem dX8_put_51 : decode cX8_put 51 = .ok (.ifCond .eq 32, 3) := by decide +kernel
theorem dX8_put_54 : decode cX8_put 54 = .ok (.iload 5, 2) := by decide +kernel
theorem dX8_put_56 : decode cX8_put 56 = .ok (.ifCond .eq 11, 3) := by decide +kernel
theorem dX8_put_59 : decode cX8_put 59 = .ok (.iload 7, 2) := by decide +kernel
theorem dX8_put_61 : decode cX8_put 61 = .ok (.ifCond .ne 22, 3) := by decide +kernel
theorem dX8_put_64 : decode cX8_put 64 = .ok (.goto 15, 3) := by decide +kernel
theorem dX8_put_67 : decode cX8_put 67 = .ok (.iload 7, 2) := by decide +kernel
theorem dX8_put_69 : decode cX8_put 69 = .ok (.bipush 33, 2) := by decide +kernel
theorem dX8_put_71 : decode cX8_put 71 = .ok (.bipush 126, 2) := by decide +kernel
theorem dX8_put_73 : decode cX8_put 73 = .ok (.invokestatic 26, 3) := by decide +kernel
theorem dX8_put_76 : decode cX8_put 76 = .ok (.ifCond .eq 7, 3) := by decide +kernel
theorem dX8_put_79 : decode cX8_put 79 = .ok (.iconst 1, 1) := by decide +kernel
theorem dX8_put_80 : decode cX8_put 80 = .ok (.goto 4, 3) := by decide +kernel
theorem dX8_put_83 : decode cX8_put 83 = .ok (.iconst 0, 1) := by decide +kernel
theorem dX8_put_84 : decode cX8_put 84 = .ok (.istore 4, 2) := by decide +kernel
theorem dX8_put_86 : decode cX8_put 86 = .ok (.iload_n 3, 1) := by decide +kernel
theorem dX8_put_87 : decode cX8_put 87 = .ok (.iload 5, 2) := by decide +kernel
theorem dX8_put_89 : decode cX8_put 89 = .ok (.ifCond .eq 7, 3) := by decide +kernel
theorem dX8_put_92 : decode cX8_put 92 = .ok (.iconst 0, 1) := by decide +kernel
theorem dX8_put_93 : decode cX8_put 93 = .ok (.goto 4, 3) := by decide +kernel
theorem dX8_put_96 : decode cX8_put 96 = .ok (.iconst 1, 1) := by decide +kernel
theorem dX8_put_97 : decode cX8_put 97 = .ok (.iadd, 1) := by decide +kernel
theorem dX8_put_98 : decode cX8_put 98 = .ok (.istore_n 3, 1) := by decide +kernel
theorem dX8_put_99 : decode cX8_put 99 = .ok (.iinc 6 1, 3) := by decide +kernel
theorem dX8_put_102 : decode cX8_put 102 = .ok (.goto (-91), 3) := by decide +kernel
theorem dX8_put_105 : decode cX8_put 105 = .ok (.iload 4, 2) := by decide +kernel
theorem dX8_put_107 : decode cX8_put 107 = .ok (.ifCond .eq 7, 3) := by decide +kernel
theorem dX8_put_110 : decode cX8_put 110 = .ok (.iload_n 3, 1) := by decide +kernel
theorem dX8_put_111 : decode cX8_put 111 = .ok (.ifCond .ne 6, 3) := by decide +kernel
theorem dX8_put_114 : decode cX8_put 114 = .ok (.bipush (-2), 2) := by decide +kernel
theorem dX8_put_116 : decode cX8_put 116 = .ok (.ireturn, 1) := by decide +kernel
theorem dX8_put_117 : decode cX8_put 117 = .ok (.aload_n 0, 1) := by decide +kernel
theorem dX8_put_118 : decode cX8_put 118 = .ok (.getfield 106, 3) := by decide +kernel
theorem dX8_put_121 : decode cX8_put 121 = .ok (.iload_n 3, 1) := by decide +kernel
theorem dX8_put_122 : decode cX8_put 122 = .ok (.iadd, 1) := by decide +kernel
theorem dX8_put_123 : decode cX8_put 123 = .ok (.bipush 80, 2) := by decide +kernel
theorem dX8_put_125 : decode cX8_put 125 = .ok (.if_icmp .le 6, 3) := by decide +kernel
theorem dX8_put_128 : decode cX8_put 128 = .ok (.bipush (-4), 2) := by decide +kernel
theorem dX8_put_130 : decode cX8_put 130 = .ok (.ireturn, 1) := by decide +kernel
theorem dX8_put_131 : decode cX8_put 131 = .ok (.iload_n 3, 1) := by decide +kernel
theorem dX8_put_132 : decode cX8_put 132 = .ok (.iconst 1, 1) := by decide +kernel
theorem dX8_put_133 : decode cX8_put 133 = .ok (.isub, 1) := by decide +kernel
theorem dX8_put_134 : decode cX8_put 134 = .ok (.istore 6, 2) := by decide +kernel
theorem dX8_put_136 : decode cX8_put 136 = .ok (.iload 6, 2) := by decide +kernel
theorem dX8_put_138 : decode cX8_put 138 = .ok (.ifCond .lt 40, 3) := by decide +kernel
theorem dX8_put_141 : decode cX8_put 141 = .ok (.aload_n 0, 1) := by decide +kernel
theorem dX8_put_142 : decode cX8_put 142 = .ok (.getfield 23, 3) := by decide +kernel
theorem dX8_put_145 : decode cX8_put 145 = .ok (.aload_n 0, 1) := by decide +kernel
theorem dX8_put_146 : decode cX8_put 146 = .ok (.getfield 106, 3) := by decide +kernel
theorem dX8_put_149 : decode cX8_put 149 = .ok (.lload_n 1, 1) := by decide +kernel
theorem dX8_put_150 : decode cX8_put 150 = .ok (.bipush 8, 2) := by decide +kernel
theorem dX8_put_152 : decode cX8_put 152 = .ok (.iload 6, 2) := by decide +kernel
theorem dX8_put_154 : decode cX8_put 154 = .ok (.imul, 1) := by decide +kernel
theorem dX8_put_155 : decode cX8_put 155 = .ok (.lshr, 1) := by decide +kernel
theorem dX8_put_156 : decode cX8_put 156 = .ok (.ldc2_w 112, 3) := by decide +kernel
theorem dX8_put_159 : decode cX8_put 159 = .ok (.land, 1) := by decide +kernel
theorem dX8_put_160 : decode cX8_put 160 = .ok (.l2i, 1) := by decide +kernel
theorem dX8_put_161 : decode cX8_put 161 = .ok (.iastore, 1) := by decide +kernel
theorem dX8_put_162 : decode cX8_put 162 = .ok (.aload_n 0, 1) := by decide +kernel
theorem dX8_put_163 : decode cX8_put 163 = .ok (.dup, 1) := by decide +kernel
theorem dX8_put_164 : decode cX8_put 164 = .ok (.getfield 106, 3) := by decide +kernel
theorem dX8_put_167 : decode cX8_put 167 = .ok (.iconst 1, 1) := by decide +kernel
theorem dX8_put_168 : decode cX8_put 168 = .ok (.iadd, 1) := by decide +kernel
theorem dX8_put_169 : decode cX8_put 169 = .ok (.putfield 106, 3) := by decide +kernel
theorem dX8_put_172 : decode cX8_put 172 = .ok (.iinc 6 (-1), 3) := by decide +kernel
theorem dX8_put_175 : decode cX8_put 175 = .ok (.goto (-39), 3) := by decide +kernel
theorem dX8_put_178 : decode cX8_put 178 = .ok (.aload_n 0, 1) := by decide +kernel
theorem dX8_put_179 : decode cX8_put 179 = .ok (.getfield 106, 3) := by decide +kernel
theorem dX8_put_182 : decode cX8_put 182 = .ok (.ireturn, 1) := by decide +kernel
theorem dX8_wipe_0 : decode cX8_wipe 0 = .ok (.aload_n 0, 1) := by decide +kernel
theorem dX8_wipe_1 : decode cX8_wipe 1 = .ok (.getfield 106, 3) := by decide +kernel
theorem dX8_wipe_4 : decode cX8_wipe 4 = .ok (.istore_n 1, 1) := by decide +kernel
theorem dX8_wipe_5 : decode cX8_wipe 5 = .ok (.aload_n 0, 1) := by decide +kernel
theorem dX8_wipe_6 : decode cX8_wipe 6 = .ok (.iconst 0, 1) := by decide +kernel
theorem dX8_wipe_7 : decode cX8_wipe 7 = .ok (.putfield 106, 3) := by decide +kernel
theorem dX8_wipe_10 : decode cX8_wipe 10 = .ok (.iload_n 1, 1) := by decide +kernel
theorem dX8_wipe_11 : decode cX8_wipe 11 = .ok (.ireturn, 1) := by decide +kernel
theorem dX8_sign_0 : decode cX8_sign 0 = .ok (.iload_n 1, 1) := by decide +kernel
theorem dX8_sign_1 : decode cX8_sign 1 = .ok (.aload_n 0, 1) := by decide +kernel
theorem dX8_sign_2 : decode cX8_sign 2 = .ok (.getfield 106, 3) := by decide +kernel
theorem dX8_sign_5 : decode cX8_sign 5 = .ok (.if_icmp .ge 12, 3) := by decide +kernel
theorem dX8_sign_8 : decode cX8_sign 8 = .ok (.aload_n 0, 1) := by decide +kernel
theorem dX8_sign_9 : decode cX8_sign 9 = .ok (.getfield 23, 3) := by decide +kernel
theorem dX8_sign_12 : decode cX8_sign 12 = .ok (.iload_n 1, 1) := by decide +kernel
theorem dX8_sign_13 : decode cX8_sign 13 = .ok (.iaload, 1) := by decide +kernel
theorem dX8_sign_14 : decode cX8_sign 14 = .ok (.goto 4, 3) := by decide +kernel
theorem dX8_sign_17 : decode cX8_sign 17 = .ok (.iconst (-1), 1) := by decide +kernel
theorem dX8_sign_18 : decode cX8_sign 18 = .ok (.ireturn, 1) := by decide +kernel
theorem dX8_digit_0 : decode cX8_digit 0 = .ok (.aload_n 0, 1) := by decide +kernel
theorem dX8_digit_1 : decode cX8_digit 1 = .ok (.iload_n 1, 1) := by decide +kernel
theorem dX8_digit_2 : decode cX8_digit 2 = .ok (.invokevirtual 114, 3) := by decide +kernel
theorem dX8_digit_5 : decode cX8_digit 5 = .ok (.bipush 48, 2) := by decide +kernel
theorem dX8_digit_7 : decode cX8_digit 7 = .ok (.bipush 57, 2) := by decide +kernel
theorem dX8_digit_9 : decode cX8_digit 9 = .ok (.invokestatic 26, 3) := by decide +kernel
theorem dX8_digit_12 : decode cX8_digit 12 = .ok (.ifCond .eq 14, 3) := by decide +kernel
theorem dX8_digit_15 : decode cX8_digit 15 = .ok (.aload_n 0, 1) := by decide +kernel
theorem dX8_digit_16 : decode cX8_digit 16 = .ok (.iload_n 1, 1) := by decide +kernel
theorem dX8_digit_17 : decode cX8_digit 17 = .ok (.invokevirtual 114, 3) := by decide +kernel
theorem dX8_digit_20 : decode cX8_digit 20 = .ok (.bipush 48, 2) := by decide +kernel
theorem dX8_digit_22 : decode cX8_digit 22 = .ok (.isub, 1) := by decide +kernel
theorem dX8_digit_23 : decode cX8_digit 23 = .ok (.goto 4, 3) := by decide +kernel
theorem dX8_digit_26 : decode cX8_digit 26 = .ok (.iconst (-1), 1) := by decide +kernel
theorem dX8_digit_27 : decode cX8_digit 27 = .ok (.ireturn, 1) := by decide +kernel
theorem dX8_numberEnd_0 : decode cX8_numberEnd 0 = .ok (.aload_n 0, 1) := by decide +kernel
theorem dX8_numberEnd_1 : decode cX8_numberEnd 1 = .ok (.iload_n 1, 1) := by decide +kernel
theorem dX8_numberEnd_2 : decode cX8_numberEnd 2 = .ok (.invokevirtual 117, 3) := by decide +kernel
theorem dX8_numberEnd_5 : decode cX8_numberEnd 5 = .ok (.ifCond .ge 7, 3) := by decide +kernel
theorem dX8_numberEnd_8 : decode cX8_numberEnd 8 = .ok (.iconst (-1), 1) := by decide +kernel
theorem dX8_numberEnd_9 : decode cX8_numberEnd 9 = .ok (.iload_n 1, 1) := by decide +kernel
theorem dX8_numberEnd_10 : decode cX8_numberEnd 10 = .ok (.isub, 1) := by decide +kernel
theorem dX8_numberEnd_11 : decode cX8_numberEnd 11 = .ok (.ireturn, 1) := by decide +kernel
theorem dX8_numberEnd_12 : decode cX8_numberEnd 12 = .ok (.aload_n 0, 1) := by decide +kernel
theorem dX8_numberEnd_13 : decode cX8_numberEnd 13 = .ok (.iload_n 1, 1) := by decide +kernel
theorem dX8_numberEnd_14 : decode cX8_numberEnd 14 = .ok (.invokevirtual 117, 3) := by decide +kernel
theorem dX8_numberEnd_17 : decode cX8_numberEnd 17 = .ok (.ifCond .le 19, 3) := by decide +kernel
theorem dX8_numberEnd_20 : decode cX8_numberEnd 20 = .ok (.aload_n 0, 1) := by decide +kernel
theorem dX8_numberEnd_21 : decode cX8_numberEnd 21 = .ok (.iload_n 1, 1) := by decide +kernel
theorem dX8_numberEnd_22 : decode cX8_numberEnd 22 = .ok (.iconst 1, 1) := by decide +kernel
theorem dX8_numberEnd_23 : decode cX8_numberEnd 23 = .ok (.iadd, 1) := by decide +kernel
theorem dX8_numberEnd_24 : decode cX8_numberEnd 24 = .ok (.invokevirtual 117, 3) := by decide +kernel
theorem dX8_numberEnd_27 : decode cX8_numberEnd 27 = .ok (.ifCond .lt 9, 3) := by decide +kernel
theorem dX8_numberEnd_30 : decode cX8_numberEnd 30 = .ok (.iload_n 1, 1) := by decide +kernel
theorem dX8_numberEnd_31 : decode cX8_numberEnd 31 = .ok (.iconst 2, 1) := by decide +kernel
theorem dX8_numberEnd_32 : decode cX8_numberEnd 32 = .ok (.iadd, 1) := by decide +kernel
theorem dX8_numberEnd_33 : decode cX8_numberEnd 33 = .ok (.goto 6, 3) := by decide +kernel
theorem dX8_numberEnd_36 : decode cX8_numberEnd 36 = .ok (.iload_n 1, 1) := by decide +kernel
theorem dX8_numberEnd_37 : decode cX8_numberEnd 37 = .ok (.iconst 1, 1) := by decide +kernel
theorem dX8_numberEnd_38 : decode cX8_numberEnd 38 = .ok (.iadd, 1) := by decide +kernel
theorem dX8_numberEnd_39 : decode cX8_numberEnd 39 = .ok (.ireturn, 1) := by decide +kernel
theorem dX8_numberAt_0 : decode cX8_numberAt 0 = .ok (.aload_n 0, 1) := by decide +kernel
theorem dX8_numberAt_1 : decode cX8_numberAt 1 = .ok (.iload_n 1, 1) := by decide +kernel
theorem dX8_numberAt_2 : decode cX8_numberAt 2 = .ok (.invokevirtual 120, 3) := by decide +kernel
theorem dX8_numberAt_5 : decode cX8_numberAt 5 = .ok (.iload_n 1, 1) := by decide +kernel
theorem dX8_numberAt_6 : decode cX8_numberAt 6 = .ok (.iconst 1, 1) := by decide +kernel
theorem dX8_numberAt_7 : decode cX8_numberAt 7 = .ok (.iadd, 1) := by decide +kernel
theorem dX8_numberAt_8 : decode cX8_numberAt 8 = .ok (.if_icmp .ne 11, 3) := by decide +kernel
theorem dX8_numberAt_11 : decode cX8_numberAt 11 = .ok (.aload_n 0, 1) := by decide +kernel
theorem dX8_numberAt_12 : decode cX8_numberAt 12 = .ok (.iload_n 1, 1) := by decide +kernel
theorem dX8_numberAt_13 : decode cX8_numberAt 13 = .ok (.invokevirtual 117, 3) := by decide +kernel
theorem dX8_numberAt_16 : decode cX8_numberAt 16 = .ok (.goto 19, 3) := by decide +kernel
theorem dX8_numberAt_19 : decode cX8_numberAt 19 = .ok (.bipush 10, 2) := by decide +kernel
theorem dX8_numberAt_21 : decode cX8_numberAt 21 = .ok (.aload_n 0, 1) := by decide +kernel
theorem dX8_numberAt_22 : decode cX8_numberAt 22 = .ok (.iload_n 1, 1) := by decide +kernel
theorem dX8_numberAt_23 : decode cX8_numberAt 23 = .ok (.invokevirtual 117, 3) := by decide +kernel
theorem dX8_numberAt_26 : decode cX8_numberAt 26 = .ok (.imul, 1) := by decide +kernel
theorem dX8_numberAt_27 : decode cX8_numberAt 27 = .ok (.aload_n 0, 1) := by decide +kernel
theorem dX8_numberAt_28 : decode cX8_numberAt 28 = .ok (.iload_n 1, 1) := by decide +kernel
theorem dX8_numberAt_29 : decode cX8_numberAt 29 = .ok (.iconst 1, 1) := by decide +kernel
theorem dX8_numberAt_30 : decode cX8_numberAt 30 = .ok (.iadd, 1) := by decide +kernel
theorem dX8_numberAt_31 : decode cX8_numberAt 31 = .ok (.invokevirtual 117, 3) := by decide +kernel
theorem dX8_numberAt_34 : decode cX8_numberAt 34 = .ok (.iadd, 1) := by decide +kernel
theorem dX8_numberAt_35 : decode cX8_numberAt 35 = .ok (.ireturn, 1) := by decide +kernel
theorem dX8_orderEnd_0 : decode cX8_orderEnd 0 = .ok (.aload_n 0, 1) := by decide +kernel
theorem dX8_orderEnd_1 : decode cX8_orderEnd 1 = .ok (.iload_n 1, 1) := by decide +kernel
theorem dX8_orderEnd_2 : decode cX8_orderEnd 2 = .ok (.invokevirtual 114, 3) := by decide +kernel
theorem dX8_orderEnd_5 : decode cX8_orderEnd 5 = .ok (.lookupswitch 132 #[(33, 128), (60, 128), (62, 128), (100, 75), (103, 96), (104, 96), (108, 75), (114, 104)], 75) := by decide +kernel
theorem dX8_orderEnd_80 : decode cX8_orderEnd 80 = .ok (.aload_n 0, 1) := by decide +kernel
theorem dX8_orderEnd_81 : decode cX8_orderEnd 81 = .ok (.iload_n 1, 1) := by decide +kernel
theorem dX8_orderEnd_82 : decode cX8_orderEnd 82 = .ok (.iconst 1, 1) := by decide +kernel
theorem dX8_orderEnd_83 : decode cX8_orderEnd 83 = .ok (.iadd, 1) := by decide +kernel
theorem dX8_orderEnd_84 : decode cX8_orderEnd 84 = .ok (.invokevirtual 117, 3) := by decide +kernel
theorem dX8_orderEnd_87 : decode cX8_orderEnd 87 = .ok (.ifCond .ge 10, 3) := by decide +kernel
theorem dX8_orderEnd_90 : decode cX8_orderEnd 90 = .ok (.bipush (-2), 2) := by decide +kernel
theorem dX8_orderEnd_92 : decode cX8_orderEnd 92 = .ok (.iload_n 1, 1) := by decide +kernel
theorem dX8_orderEnd_93 : decode cX8_orderEnd 93 = .ok (.isub, 1) := by decide +kernel
theorem dX8_orderEnd_94 : decode cX8_orderEnd 94 = .ok (.goto 6, 3) := by decide +kernel
theorem dX8_orderEnd_97 : decode cX8_orderEnd 97 = .ok (.iload_n 1, 1) := by decide +kernel
theorem dX8_orderEnd_98 : decode cX8_orderEnd 98 = .ok (.iconst 2, 1) := by decide +kernel
theorem dX8_orderEnd_99 : decode cX8_orderEnd 99 = .ok (.iadd, 1) := by decide +kernel
theorem dX8_orderEnd_100 : decode cX8_orderEnd 100 = .ok (.ireturn, 1) := by decide +kernel
theorem dX8_orderEnd_101 : decode cX8_orderEnd 101 = .ok (.aload_n 0, 1) := by decide +kernel
theorem dX8_orderEnd_102 : decode cX8_orderEnd 102 = .ok (.iload_n 1, 1) := by decide +kernel
theorem dX8_orderEnd_103 : decode cX8_orderEnd 103 = .ok (.iconst 1, 1) := by decide +kernel
theorem dX8_orderEnd_104 : decode cX8_orderEnd 104 = .ok (.iadd, 1) := by decide +kernel
theorem dX8_orderEnd_105 : decode cX8_orderEnd 105 = .ok (.invokevirtual 120, 3) := by decide +kernel
theorem dX8_orderEnd_108 : decode cX8_orderEnd 108 = .ok (.ireturn, 1) := by decide +kernel
theorem dX8_orderEnd_109 : decode cX8_orderEnd 109 = .ok (.aload_n 0, 1) := by decide +kernel
theorem dX8_orderEnd_110 : decode cX8_orderEnd 110 = .ok (.iload_n 1, 1) := by decide +kernel
theorem dX8_orderEnd_111 : decode cX8_orderEnd 111 = .ok (.iconst 1, 1) := by decide +kernel
theorem dX8_orderEnd_112 : decode cX8_orderEnd 112 = .ok (.iadd, 1) := by decide +kernel
theorem dX8_orderEnd_113 : decode cX8_orderEnd 113 = .ok (.invokevirtual 117, 3) := by decide +kernel
theorem dX8_orderEnd_116 : decode cX8_orderEnd 116 = .ok (.ifCond .ge 9, 3) := by decide +kernel
theorem dX8_orderEnd_119 : decode cX8_orderEnd 119 = .ok (.iload_n 1, 1) := by decide +kernel
theorem dX8_orderEnd_120 : decode cX8_orderEnd 120 = .ok (.iconst 1, 1) := by decide +kernel
theorem dX8_orderEnd_121 : decode cX8_orderEnd 121 = .ok (.iadd, 1) := by decide +kernel
theorem dX8_orderEnd_122 : decode cX8_orderEnd 122 = .ok (.goto 10, 3) := by decide +kernel
theorem dX8_orderEnd_125 : decode cX8_orderEnd 125 = .ok (.aload_n 0, 1) := by decide +kernel
theorem dX8_orderEnd_126 : decode cX8_orderEnd 126 = .ok (.iload_n 1, 1) := by decide +kernel
theorem dX8_orderEnd_127 : decode cX8_orderEnd 127 = .ok (.iconst 1, 1) := by decide +kernel
theorem dX8_orderEnd_128 : decode cX8_orderEnd 128 = .ok (.iadd, 1) := by decide +kernel
theorem dX8_orderEnd_129 : decode cX8_orderEnd 129 = .ok (.invokevirtual 120, 3) := by decide +kernel
theorem dX8_orderEnd_132 : decode cX8_orderEnd 132 = .ok (.ireturn, 1) := by decide +kernel
theorem dX8_orderEnd_133 : decode cX8_orderEnd 133 = .ok (.iload_n 1, 1) := by decide +kernel
theorem dX8_orderEnd_134 : decode cX8_orderEnd 134 = .ok (.iconst 1, 1) := by decide +kernel
theorem dX8_orderEnd_135 : decode cX8_orderEnd 135 = .ok (.iadd, 1) := by decide +kernel
theorem dX8_orderEnd_136 : decode cX8_orderEnd 136 = .ok (.ireturn, 1) := by decide +kernel
theorem dX8_orderEnd_137 : decode cX8_orderEnd 137 = .ok (.iconst (-1), 1) := by decide +kernel
theorem dX8_orderEnd_138 : decode cX8_orderEnd 138 = .ok (.iload_n 1, 1) := by decide +kernel
theorem dX8_orderEnd_139 : decode cX8_orderEnd 139 = .ok (.isub, 1) := by decide +kernel
theorem dX8_orderEnd_140 : decode cX8_orderEnd 140 = .ok (.ireturn, 1) := by decide +kernel
theorem dX8_fault_0 : decode cX8_fault 0 = .ok (.iconst 0, 1) := by decide +kernel
theorem dX8_fault_1 : decode cX8_fault 1 = .ok (.istore_n 1, 1) := by decide +kernel
theorem dX8_fault_2 : decode cX8_fault 2 = .ok (.iconst 0, 1) := by decide +kernel
theorem dX8_fault_3 : decode cX8_fault 3 = .ok (.istore_n 2, 1) := by decide +kernel
theorem dX8_fault_4 : decode cX8_fault 4 = .ok (.iload_n 2, 1) := by decide +kernel
theorem dX8_fault_5 : decode cX8_fault 5 = .ok (.bipush 80, 2) := by decide +kernel
theorem dX8_fault_7 : decode cX8_fault 7 = .ok (.if_icmp .ge 50, 3) := by decide +kernel
theorem dX8_fault_10 : decode cX8_fault 10 = .ok (.aload_n 0, 1) := by decide +kernel
theorem dX8_fault_11 : decode cX8_fault 11 = .ok (.iload_n 1, 1) := by decide +kernel
theorem dX8_fault_12 : decode cX8_fault 12 = .ok (.invokevirtual 123, 3) := by decide +kernel
theorem dX8_fault_15 : decode cX8_fault 15 = .ok (.istore_n 3, 1) := by decide +kernel
theorem dX8_fault_16 : decode cX8_fault 16 = .ok (.iload_n 3, 1) := by decide +kernel
theorem dX8_fault_17 : decode cX8_fault 17 = .ok (.ifCond .ge 7, 3) := by decide +kernel
theorem dX8_fault_20 : decode cX8_fault 20 = .ok (.iconst (-1), 1) := by decide +kernel
theorem dX8_fault_21 : decode cX8_fault 21 = .ok (.iload_n 3, 1) := by decide +kernel
theorem dX8_fault_22 : decode cX8_fault 22 = .ok (.isub, 1) := by decide +kernel
theorem dX8_fault_23 : decode cX8_fault 23 = .ok (.ireturn, 1) := by decide +kernel
theorem dX8_fault_24 : decode cX8_fault 24 = .ok (.iload_n 3, 1) := by decide +kernel
theorem dX8_fault_25 : decode cX8_fault 25 = .ok (.aload_n 0, 1) := by decide +kernel
theorem dX8_fault_26 : decode cX8_fault 26 = .ok (.getfield 106, 3) := by decide +kernel
theorem dX8_fault_29 : decode cX8_fault 29 = .ok (.if_icmp .ne 6, 3) := by decide +kernel
theorem dX8_fault_32 : decode cX8_fault 32 = .ok (.bipush (-6), 2) := by decide +kernel
theorem dX8_fault_34 : decode cX8_fault 34 = .ok (.ireturn, 1) := by decide +kernel
theorem dX8_fault_35 : decode cX8_fault 35 = .ok (.aload_n 0, 1) := by decide +kernel
theorem dX8_fault_36 : decode cX8_fault 36 = .ok (.iload_n 3, 1) := by decide +kernel
theorem dX8_fault_37 : decode cX8_fault 37 = .ok (.invokevirtual 114, 3) := by decide +kernel
theorem dX8_fault_40 : decode cX8_fault 40 = .ok (.bipush 59, 2) := by decide +kernel
theorem dX8_fault_42 : decode cX8_fault 42 = .ok (.if_icmp .eq 5, 3) := by decide +kernel
theorem dX8_fault_45 : decode cX8_fault 45 = .ok (.iload_n 3, 1) := by decide +kernel
theorem dX8_fault_46 : decode cX8_fault 46 = .ok (.ireturn, 1) := by decide +kernel
theorem dX8_fault_47 : decode cX8_fault 47 = .ok (.iload_n 3, 1) := by decide +kernel
theorem dX8_fault_48 : decode cX8_fault 48 = .ok (.iconst 1, 1) := by decide +kernel
theorem dX8_fault_49 : decode cX8_fault 49 = .ok (.iadd, 1) := by decide +kernel
theorem dX8_fault_50 : decode cX8_fault 50 = .ok (.istore_n 1, 1) := by decide +kernel
theorem dX8_fault_51 : decode cX8_fault 51 = .ok (.iinc 2 1, 3) := by decide +kernel
theorem dX8_fault_54 : decode cX8_fault 54 = .ok (.goto (-50), 3) := by decide +kernel
theorem dX8_fault_57 : decode cX8_fault 57 = .ok (.bipush (-6), 2) := by decide +kernel
theorem dX8_fault_59 : decode cX8_fault 59 = .ok (.ireturn, 1) := by decide +kernel
theorem dX8_kindOf_0 : decode cX8_kindOf 0 = .ok (.iload_n 0, 1) := by decide +kernel
theorem dX8_kindOf_1 : decode cX8_kindOf 1 = .ok (.bipush 100, 2) := by decide +kernel
theorem dX8_kindOf_3 : decode cX8_kindOf 3 = .ok (.if_icmp .ne 7, 3) := by decide +kernel
theorem dX8_kindOf_6 : decode cX8_kindOf 6 = .ok (.iconst 0, 1) := by decide +kernel
theorem dX8_kindOf_7 : decode cX8_kindOf 7 = .ok (.goto 14, 3) := by decide +kernel
theorem dX8_kindOf_10 : decode cX8_kindOf 10 = .ok (.iload_n 0, 1) := by decide +kernel
theorem dX8_kindOf_11 : decode cX8_kindOf 11 = .ok (.bipush 108, 2) := by decide +kernel
theorem dX8_kindOf_13 : decode cX8_kindOf 13 = .ok (.if_icmp .ne 7, 3) := by decide +kernel
theorem dX8_kindOf_16 : decode cX8_kindOf 16 = .ok (.iconst 1, 1) := by decide +kernel
theorem dX8_kindOf_17 : decode cX8_kindOf 17 = .ok (.goto 4, 3) := by decide +kernel
theorem dX8_kindOf_20 : decode cX8_kindOf 20 = .ok (.iconst 2, 1) := by decide +kernel
theorem dX8_kindOf_21 : decode cX8_kindOf 21 = .ok (.ireturn, 1) := by decide +kernel
theorem dX8_whyNot_0 : decode cX8_whyNot 0 = .ok (.aload_n 0, 1) := by decide +kernel
theorem dX8_whyNot_1 : decode cX8_whyNot 1 = .ok (.iload_n 1, 1) := by decide +kernel
theorem dX8_whyNot_2 : decode cX8_whyNot 2 = .ok (.iconst 1, 1) := by decide +kernel
theorem dX8_whyNot_3 : decode cX8_whyNot 3 = .ok (.iadd, 1) := by decide +kernel
theorem dX8_whyNot_4 : decode cX8_whyNot 4 = .ok (.invokevirtual 117, 3) := by decide +kernel
theorem dX8_whyNot_7 : decode cX8_whyNot 7 = .ok (.ifCond .ge 7, 3) := by decide +kernel
theorem dX8_whyNot_10 : decode cX8_whyNot 10 = .ok (.iconst 1, 1) := by decide +kernel
theorem dX8_whyNot_11 : decode cX8_whyNot 11 = .ok (.goto 10, 3) := by decide +kernel
theorem dX8_whyNot_14 : decode cX8_whyNot 14 = .ok (.aload_n 0, 1) := by decide +kernel
theorem dX8_whyNot_15 : decode cX8_whyNot 15 = .ok (.iload_n 1, 1) := by decide +kernel
theorem dX8_whyNot_16 : decode cX8_whyNot 16 = .ok (.iconst 1, 1) := by decide +kernel
theorem dX8_whyNot_17 : decode cX8_whyNot 17 = .ok (.iadd, 1) := by decide +kernel
theorem dX8_whyNot_18 : decode cX8_whyNot 18 = .ok (.invokevirtual 126, 3) := by decide +kernel
theorem dX8_whyNot_21 : decode cX8_whyNot 21 = .ok (.istore_n 2, 1) := by decide +kernel
theorem dX8_whyNot_22 : decode cX8_whyNot 22 = .ok (.aload_n 0, 1) := by decide +kernel
theorem dX8_whyNot_23 : decode cX8_whyNot 23 = .ok (.iload_n 1, 1) := by decide +kernel
theorem dX8_whyNot_24 : decode cX8_whyNot 24 = .ok (.invokevirtual 114, 3) := by decide +kernel
theorem dX8_whyNot_27 : decode cX8_whyNot 27 = .ok (.tableswitch 116 100 114 #[73, 116, 116, 73, 93, 116, 116, 116, 73, 116, 116, 116, 116, 116, 110], 73) := by decide +kernel
theorem dX8_whyNot_100 : decode cX8_whyNot 100 = .ok (.aload_n 0, 1) := by decide +kernel
theorem dX8_whyNot_101 : decode cX8_whyNot 101 = .ok (.aload_n 0, 1) := by decide +kernel
theorem dX8_whyNot_102 : decode cX8_whyNot 102 = .ok (.getfield 7, 3) := by decide +kernel
theorem dX8_whyNot_105 : decode cX8_whyNot 105 = .ok (.iconst 4, 1) := by decide +kernel
theorem dX8_whyNot_106 : decode cX8_whyNot 106 = .ok (.iaload, 1) := by decide +kernel
theorem dX8_whyNot_107 : decode cX8_whyNot 107 = .ok (.aload_n 0, 1) := by decide +kernel
theorem dX8_whyNot_108 : decode cX8_whyNot 108 = .ok (.iload_n 1, 1) := by decide +kernel
theorem dX8_whyNot_109 : decode cX8_whyNot 109 = .ok (.invokevirtual 114, 3) := by decide +kernel
theorem dX8_whyNot_112 : decode cX8_whyNot 112 = .ok (.invokestatic 129, 3) := by decide +kernel
theorem dX8_whyNot_115 : decode cX8_whyNot 115 = .ok (.iload_n 2, 1) := by decide +kernel
theorem dX8_whyNot_116 : decode cX8_whyNot 116 = .ok (.invokevirtual 72, 3) := by decide +kernel
theorem dX8_whyNot_119 : decode cX8_whyNot 119 = .ok (.ireturn, 1) := by decide +kernel
theorem dX8_whyNot_120 : decode cX8_whyNot 120 = .ok (.iload_n 2, 1) := by decide +kernel
theorem dX8_whyNot_121 : decode cX8_whyNot 121 = .ok (.iconst 1, 1) := by decide +kernel
theorem dX8_whyNot_122 : decode cX8_whyNot 122 = .ok (.bipush 60, 2) := by decide +kernel
theorem dX8_whyNot_124 : decode cX8_whyNot 124 = .ok (.invokestatic 26, 3) := by decide +kernel
theorem dX8_whyNot_127 : decode cX8_whyNot 127 = .ok (.ifCond .eq 7, 3) := by decide +kernel
theorem dX8_whyNot_130 : decode cX8_whyNot 130 = .ok (.iconst 0, 1) := by decide +kernel
theorem dX8_whyNot_131 : decode cX8_whyNot 131 = .ok (.goto 5, 3) := by decide +kernel
theorem dX8_whyNot_134 : decode cX8_whyNot 134 = .ok (.bipush (-2), 2) := by decide +kernel
theorem dX8_whyNot_136 : decode cX8_whyNot 136 = .ok (.ireturn, 1) := by decide +kernel
theorem dX8_whyNot_137 : decode cX8_whyNot 137 = .ok (.aload_n 0, 1) := by decide +kernel
theorem dX8_whyNot_138 : decode cX8_whyNot 138 = .ok (.iload_n 2, 1) := by decide +kernel
theorem dX8_whyNot_139 : decode cX8_whyNot 139 = .ok (.invokevirtual 90, 3) := by decide +kernel
theorem dX8_whyNot_142 : decode cX8_whyNot 142 = .ok (.ireturn, 1) := by decide +kernel
theorem dX8_whyNot_143 : decode cX8_whyNot 143 = .ok (.aload_n 0, 1) := by decide +kernel
theorem dX8_whyNot_144 : decode cX8_whyNot 144 = .ok (.invokevirtual 86, 3) := by decide +kernel
theorem dX8_whyNot_147 : decode cX8_whyNot 147 = .ok (.ifCond .eq 7, 3) := by decide +kernel
theorem dX8_whyNot_150 : decode cX8_whyNot 150 = .ok (.iconst 0, 1) := by decide +kernel
theorem dX8_whyNot_151 : decode cX8_whyNot 151 = .ok (.goto 5, 3) := by decide +kernel
theorem dX8_whyNot_154 : decode cX8_whyNot 154 = .ok (.bipush (-5), 2) := by decide +kernel
theorem dX8_whyNot_156 : decode cX8_whyNot 156 = .ok (.ireturn, 1) := by decide +kernel
theorem dX8_does_0 : decode cX8_does 0 = .ok (.aload_n 0, 1) := by decide +kernel
theorem dX8_does_1 : decode cX8_does 1 = .ok (.iload_n 1, 1) := by decide +kernel
theorem dX8_does_2 : decode cX8_does 2 = .ok (.iconst 1, 1) := by decide +kernel
theorem dX8_does_3 : decode cX8_does 3 = .ok (.iadd, 1) := by decide +kernel
theorem dX8_does_4 : decode cX8_does 4 = .ok (.invokevirtual 117, 3) := by decide +kernel
theorem dX8_does_7 : decode cX8_does 7 = .ok (.ifCond .ge 7, 3) := by decide +kernel
theorem dX8_does_10 : decode cX8_does 10 = .ok (.iconst 1, 1) := by decide +kernel
theorem dX8_does_11 : decode cX8_does 11 = .ok (.goto 10, 3) := by decide +kernel
theorem dX8_does_14 : decode cX8_does 14 = .ok (.aload_n 0, 1) := by decide +kernel
theorem dX8_does_15 : decode cX8_does 15 = .ok (.iload_n 1, 1) := by decide +kernel
theorem dX8_does_16 : decode cX8_does 16 = .ok (.iconst 1, 1) := by decide +kernel
theorem dX8_does_17 : decode cX8_does 17 = .ok (.iadd, 1) := by decide +kernel
theorem dX8_does_18 : decode cX8_does 18 = .ok (.invokevirtual 126, 3) := by decide +kernel
theorem dX8_does_21 : decode cX8_does 21 = .ok (.istore_n 2, 1) := by decide +kernel
theorem dX8_does_22 : decode cX8_does 22 = .ok (.iconst 0, 1) := by decide +kernel
theorem dX8_does_23 : decode cX8_does 23 = .ok (.istore_n 3, 1) := by decide +kernel
theorem dX8_does_24 : decode cX8_does 24 = .ok (.aload_n 0, 1) := by decide +kernel
theorem dX8_does_25 : decode cX8_does 25 = .ok (.iload_n 1, 1) := by decide +kernel
theorem dX8_does_26 : decode cX8_does 26 = .ok (.invokevirtual 114, 3) := by decide +kernel
theorem dX8_does_29 : decode cX8_does 29 = .ok (.lookupswitch 96 #[(33, 88), (60, 70), (62, 79), (104, 51), (114, 60)], 51) := by decide +kernel
theorem dX8_does_80 : decode cX8_does 80 = .ok (.aload_n 0, 1) := by decide +kernel
theorem dX8_does_81 : decode cX8_does 81 = .ok (.iconst 0, 1) := by decide +kernel
theorem dX8_does_82 : decode cX8_does 82 = .ok (.iload_n 2, 1) := by decide +kernel
theorem dX8_does_83 : decode cX8_does 83 = .ok (.invokevirtual 83, 3) := by decide +kernel
theorem dX8_does_86 : decode cX8_does 86 = .ok (.goto 59, 3) := by decide +kernel
theorem dX8_does_89 : decode cX8_does 89 = .ok (.aload_n 0, 1) := by decide +kernel
theorem dX8_does_90 : decode cX8_does 90 = .ok (.iconst 0, 1) := by decide +kernel
theorem dX8_does_91 : decode cX8_does 91 = .ok (.iload_n 2, 1) := by decide +kernel
theorem dX8_does_92 : decode cX8_does 92 = .ok (.invokevirtual 93, 3) := by decide +kernel
theorem dX8_does_95 : decode cX8_does 95 = .ok (.istore_n 3, 1) := by decide +kernel
theorem dX8_does_96 : decode cX8_does 96 = .ok (.goto 49, 3) := by decide +kernel
theorem dX8_does_99 : decode cX8_does 99 = .ok (.aload_n 0, 1) := by decide +kernel
theorem dX8_does_100 : decode cX8_does 100 = .ok (.iconst 0, 1) := by decide +kernel
theorem dX8_does_101 : decode cX8_does 101 = .ok (.iconst 0, 1) := by decide +kernel
theorem dX8_does_102 : decode cX8_does 102 = .ok (.invokevirtual 96, 3) := by decide +kernel
theorem dX8_does_105 : decode cX8_does 105 = .ok (.goto 40, 3) := by decide +kernel
theorem dX8_does_108 : decode cX8_does 108 = .ok (.aload_n 0, 1) := by decide +kernel
theorem dX8_does_109 : decode cX8_does 109 = .ok (.iconst 0, 1) := by decide +kernel
theorem dX8_does_110 : decode cX8_does 110 = .ok (.iconst 1, 1) := by decide +kernel
theorem dX8_does_111 : decode cX8_does 111 = .ok (.invokevirtual 96, 3) := by decide +kernel
theorem dX8_does_114 : decode cX8_does 114 = .ok (.goto 31, 3) := by decide +kernel
theorem dX8_does_117 : decode cX8_does 117 = .ok (.aload_n 0, 1) := by decide +kernel
theorem dX8_does_118 : decode cX8_does 118 = .ok (.invokevirtual 99, 3) := by decide +kernel
theorem dX8_does_121 : decode cX8_does 121 = .ok (.istore_n 3, 1) := by decide +kernel
theorem dX8_does_122 : decode cX8_does 122 = .ok (.goto 23, 3) := by decide +kernel
theorem dX8_does_125 : decode cX8_does 125 = .ok (.aload_n 0, 1) := by decide +kernel
theorem dX8_does_126 : decode cX8_does 126 = .ok (.aload_n 0, 1) := by decide +kernel
theorem dX8_does_127 : decode cX8_does 127 = .ok (.getfield 7, 3) := by decide +kernel
theorem dX8_does_130 : decode cX8_does 130 = .ok (.iconst 4, 1) := by decide +kernel
theorem dX8_does_131 : decode cX8_does 131 = .ok (.iaload, 1) := by decide +kernel
theorem dX8_does_132 : decode cX8_does 132 = .ok (.aload_n 0, 1) := by decide +kernel
theorem dX8_does_133 : decode cX8_does 133 = .ok (.iload_n 1, 1) := by decide +kernel
theorem dX8_does_134 : decode cX8_does 134 = .ok (.invokevirtual 114, 3) := by decide +kernel
theorem dX8_does_137 : decode cX8_does 137 = .ok (.invokestatic 129, 3) := by decide +kernel
theorem dX8_does_140 : decode cX8_does 140 = .ok (.iload_n 2, 1) := by decide +kernel
theorem dX8_does_141 : decode cX8_does 141 = .ok (.invokevirtual 76, 3) := by decide +kernel
theorem dX8_does_144 : decode cX8_does 144 = .ok (.istore_n 3, 1) := by decide +kernel
theorem dX8_does_145 : decode cX8_does 145 = .ok (.return_, 1) := by decide +kernel
theorem dX8_carryOut_0 : decode cX8_carryOut 0 = .ok (.aload_n 0, 1) := by decide +kernel
theorem dX8_carryOut_1 : decode cX8_carryOut 1 = .ok (.invokevirtual 132, 3) := by decide +kernel
theorem dX8_carryOut_4 : decode cX8_carryOut 4 = .ok (.bipush (-6), 2) := by decide +kernel
theorem dX8_carryOut_6 : decode cX8_carryOut 6 = .ok (.if_icmp .eq 6, 3) := by decide +kernel
theorem dX8_carryOut_9 : decode cX8_carryOut 9 = .ok (.bipush (-3), 2) := by decide +kernel
theorem dX8_carryOut_11 : decode cX8_carryOut 11 = .ok (.ireturn, 1) := by decide +kernel
theorem dX8_carryOut_12 : decode cX8_carryOut 12 = .ok (.aload_n 0, 1) := by decide +kernel
theorem dX8_carryOut_13 : decode cX8_carryOut 13 = .ok (.invokevirtual 69, 3) := by decide +kernel
theorem dX8_carryOut_16 : decode cX8_carryOut 16 = .ok (.iconst 0, 1) := by decide +kernel
theorem dX8_carryOut_17 : decode cX8_carryOut 17 = .ok (.istore_n 1, 1) := by decide +kernel
theorem dX8_carryOut_18 : decode cX8_carryOut 18 = .ok (.iconst 0, 1) := by decide +kernel
theorem dX8_carryOut_19 : decode cX8_carryOut 19 = .ok (.istore_n 2, 1) := by decide +kernel
theorem dX8_carryOut_20 : decode cX8_carryOut 20 = .ok (.iload_n 2, 1) := by decide +kernel
theorem dX8_carryOut_21 : decode cX8_carryOut 21 = .ok (.aload_n 0, 1) := by decide +kernel
theorem dX8_carryOut_22 : decode cX8_carryOut 22 = .ok (.getfield 106, 3) := by decide +kernel
theorem dX8_carryOut_25 : decode cX8_carryOut 25 = .ok (.if_icmp .ge 30, 3) := by decide +kernel
theorem dX8_carryOut_28 : decode cX8_carryOut 28 = .ok (.aload_n 0, 1) := by decide +kernel
theorem dX8_carryOut_29 : decode cX8_carryOut 29 = .ok (.iload_n 2, 1) := by decide +kernel
theorem dX8_carryOut_30 : decode cX8_carryOut 30 = .ok (.invokevirtual 135, 3) := by decide +kernel
theorem dX8_carryOut_33 : decode cX8_carryOut 33 = .ok (.ifCond .ne 22, 3) := by decide +kernel
theorem dX8_carryOut_36 : decode cX8_carryOut 36 = .ok (.aload_n 0, 1) := by decide +kernel
theorem dX8_carryOut_37 : decode cX8_carryOut 37 = .ok (.iload_n 2, 1) := by decide +kernel
theorem dX8_carryOut_38 : decode cX8_carryOut 38 = .ok (.invokevirtual 138, 3) := by decide +kernel
theorem dX8_carryOut_41 : decode cX8_carryOut 41 = .ok (.iinc 1 1, 3) := by decide +kernel
theorem dX8_carryOut_44 : decode cX8_carryOut 44 = .ok (.aload_n 0, 1) := by decide +kernel
theorem dX8_carryOut_45 : decode cX8_carryOut 45 = .ok (.iload_n 2, 1) := by decide +kernel
theorem dX8_carryOut_46 : decode cX8_carryOut 46 = .ok (.invokevirtual 123, 3) := by decide +kernel
theorem dX8_carryOut_49 : decode cX8_carryOut 49 = .ok (.iconst 1, 1) := by decide +kernel
theorem dX8_carryOut_50 : decode cX8_carryOut 50 = .ok (.iadd, 1) := by decide +kernel
theorem dX8_carryOut_51 : decode cX8_carryOut 51 = .ok (.istore_n 2, 1) := by decide +kernel
theorem dX8_carryOut_52 : decode cX8_carryOut 52 = .ok (.goto (-32), 3) := by decide +kernel
theorem dX8_carryOut_55 : decode cX8_carryOut 55 = .ok (.aload_n 0, 1) := by decide +kernel
theorem dX8_carryOut_56 : decode cX8_carryOut 56 = .ok (.iconst 0, 1) := by decide +kernel
theorem dX8_carryOut_57 : decode cX8_carryOut 57 = .ok (.putfield 106, 3) := by decide +kernel
theorem dX8_carryOut_60 : decode cX8_carryOut 60 = .ok (.iload_n 1, 1) := by decide +kernel
theorem dX8_carryOut_61 : decode cX8_carryOut 61 = .ok (.ireturn, 1) := by decide +kernel
theorem dX8_undo_0 : decode cX8_undo 0 = .ok (.aload_n 0, 1) := by decide +kernel
theorem dX8_undo_1 : decode cX8_undo 1 = .ok (.getfield 30, 3) := by decide +kernel
theorem dX8_undo_4 : decode cX8_undo 4 = .ok (.ifCond .ne 6, 3) := by decide +kernel
theorem dX8_undo_7 : decode cX8_undo 7 = .ok (.bipush (-5), 2) := by decide +kernel
theorem dX8_undo_9 : decode cX8_undo 9 = .ok (.ireturn, 1) := by decide +kernel
theorem dX8_undo_10 : decode cX8_undo 10 = .ok (.aload_n 0, 1) := by decide +kernel
theorem dX8_undo_11 : decode cX8_undo 11 = .ok (.dup, 1) := by decide +kernel
theorem dX8_undo_12 : decode cX8_undo 12 = .ok (.getfield 30, 3) := by decide +kernel
theorem dX8_undo_15 : decode cX8_undo 15 = .ok (.iconst 1, 1) := by decide +kernel
theorem dX8_undo_16 : decode cX8_undo 16 = .ok (.isub, 1) := by decide +kernel
theorem dX8_undo_17 : decode cX8_undo 17 = .ok (.putfield 30, 3) := by decide +kernel
theorem dX8_undo_20 : decode cX8_undo 20 = .ok (.iconst 0, 1) := by decide +kernel
theorem dX8_undo_21 : decode cX8_undo 21 = .ok (.istore_n 1, 1) := by decide +kernel
theorem dX8_undo_22 : decode cX8_undo 22 = .ok (.iload_n 1, 1) := by decide +kernel
theorem dX8_undo_23 : decode cX8_undo 23 = .ok (.sipush 161, 3) := by decide +kernel
theorem dX8_undo_26 : decode cX8_undo 26 = .ok (.if_icmp .ge 30, 3) := by decide +kernel
theorem dX8_undo_29 : decode cX8_undo 29 = .ok (.aload_n 0, 1) := by decide +kernel
theorem dX8_undo_30 : decode cX8_undo 30 = .ok (.getfield 7, 3) := by decide +kernel
theorem dX8_undo_33 : decode cX8_undo 33 = .ok (.iload_n 1, 1) := by decide +kernel
theorem dX8_undo_34 : decode cX8_undo 34 = .ok (.aload_n 0, 1) := by decide +kernel
theorem dX8_undo_35 : decode cX8_undo 35 = .ok (.getfield 13, 3) := by decide +kernel
theorem dX8_undo_38 : decode cX8_undo 38 = .ok (.sipush 161, 3) := by decide +kernel
theorem dX8_undo_41 : decode cX8_undo 41 = .ok (.aload_n 0, 1) := by decide +kernel
theorem dX8_undo_42 : decode cX8_undo 42 = .ok (.getfield 30, 3) := by decide +kernel
theorem dX8_undo_45 : decode cX8_undo 45 = .ok (.imul, 1) := by decide +kernel
theorem dX8_undo_46 : decode cX8_undo 46 = .ok (.iload_n 1, 1) := by decide +kernel
theorem dX8_undo_47 : decode cX8_undo 47 = .ok (.iadd, 1) := by decide +kernel
theorem dX8_undo_48 : decode cX8_undo 48 = .ok (.iaload, 1) := by decide +kernel
theorem dX8_undo_49 : decode cX8_undo 49 = .ok (.iastore, 1) := by decide +kernel
theorem dX8_undo_50 : decode cX8_undo 50 = .ok (.iinc 1 1, 3) := by decide +kernel
theorem dX8_undo_53 : decode cX8_undo 53 = .ok (.goto (-31), 3) := by decide +kernel
theorem dX8_undo_56 : decode cX8_undo 56 = .ok (.aload_n 0, 1) := by decide +kernel
theorem dX8_undo_57 : decode cX8_undo 57 = .ok (.getfield 30, 3) := by decide +kernel
theorem dX8_undo_60 : decode cX8_undo 60 = .ok (.ireturn, 1) := by decide +kernel
theorem dX8_save_0 : decode cX8_save 0 = .ok (.iload_n 1, 1) := by decide +kernel
theorem dX8_save_1 : decode cX8_save 1 = .ok (.iconst 0, 1) := by decide +kernel
theorem dX8_save_2 : decode cX8_save 2 = .ok (.iconst 1, 1) := by decide +kernel
theorem dX8_save_3 : decode cX8_save 3 = .ok (.invokestatic 26, 3) := by decide +kernel
theorem dX8_save_6 : decode cX8_save 6 = .ok (.ifCond .ne 6, 3) := by decide +kernel
theorem dX8_save_9 : decode cX8_save 9 = .ok (.bipush (-2), 2) := by decide +kernel
theorem dX8_save_11 : decode cX8_save 11 = .ok (.ireturn, 1) := by decide +kernel
theorem dX8_save_12 : decode cX8_save 12 = .ok (.iconst 0, 1) := by decide +kernel
theorem dX8_save_13 : decode cX8_save 13 = .ok (.istore_n 2, 1) := by decide +kernel
theorem dX8_save_14 : decode cX8_save 14 = .ok (.iload_n 2, 1) := by decide +kernel
theorem dX8_save_15 : decode cX8_save 15 = .ok (.sipush 161, 3) := by decide +kernel
theorem dX8_save_18 : decode cX8_save 18 = .ok (.if_icmp .ge 27, 3) := by decide +kernel
theorem dX8_save_21 : decode cX8_save 21 = .ok (.aload_n 0, 1) := by decide +kernel
theorem dX8_save_22 : decode cX8_save 22 = .ok (.getfield 16, 3) := by decide +kernel
theorem dX8_save_25 : decode cX8_save 25 = .ok (.sipush 161, 3) := by decide +kernel
theorem dX8_save_28 : decode cX8_save 28 = .ok (.iload_n 1, 1) := by decide +kernel
theorem dX8_save_29 : decode cX8_save 29 = .ok (.imul, 1) := by decide +kernel
theorem dX8_save_30 : decode cX8_save 30 = .ok (.iload_n 2, 1) := by decide +kernel
theorem dX8_save_31 : decode cX8_save 31 = .ok (.iadd, 1) := by decide +kernel
theorem dX8_save_32 : decode cX8_save 32 = .ok (.aload_n 0, 1) := by decide +kernel
theorem dX8_save_33 : decode cX8_save 33 = .ok (.getfield 7, 3) := by decide +kernel
theorem dX8_save_36 : decode cX8_save 36 = .ok (.iload_n 2, 1) := by decide +kernel
theorem dX8_save_37 : decode cX8_save 37 = .ok (.iaload, 1) := by decide +kernel
theorem dX8_save_38 : decode cX8_save 38 = .ok (.iastore, 1) := by decide +kernel
theorem dX8_save_39 : decode cX8_save 39 = .ok (.iinc 2 1, 3) := by decide +kernel
theorem dX8_save_42 : decode cX8_save 42 = .ok (.goto (-28), 3) := by decide +kernel
theorem dX8_save_45 : decode cX8_save 45 = .ok (.aload_n 0, 1) := by decide +kernel
theorem dX8_save_46 : decode cX8_save 46 = .ok (.getfield 19, 3) := by decide +kernel
theorem dX8_save_49 : decode cX8_save 49 = .ok (.iload_n 1, 1) := by decide +kernel
theorem dX8_save_50 : decode cX8_save 50 = .ok (.iconst 1, 1) := by decide +kernel
theorem dX8_save_51 : decode cX8_save 51 = .ok (.bastore, 1) := by decide +kernel
theorem dX8_save_52 : decode cX8_save 52 = .ok (.aload_n 0, 1) := by decide +kernel
theorem dX8_save_53 : decode cX8_save 53 = .ok (.getfield 7, 3) := by decide +kernel
theorem dX8_save_56 : decode cX8_save 56 = .ok (.iconst 4, 1) := by decide +kernel
theorem dX8_save_57 : decode cX8_save 57 = .ok (.iaload, 1) := by decide +kernel
theorem dX8_save_58 : decode cX8_save 58 = .ok (.ireturn, 1) := by decide +kernel
theorem dX8_restore_0 : decode cX8_restore 0 = .ok (.iload_n 1, 1) := by decide +kernel
theorem dX8_restore_1 : decode cX8_restore 1 = .ok (.iconst 0, 1) := by decide +kernel
theorem dX8_restore_2 : decode cX8_restore 2 = .ok (.iconst 1, 1) := by decide +kernel
theorem dX8_restore_3 : decode cX8_restore 3 = .ok (.invokestatic 26, 3) := by decide +kernel
theorem dX8_restore_6 : decode cX8_restore 6 = .ok (.ifCond .ne 6, 3) := by decide +kernel
theorem dX8_restore_9 : decode cX8_restore 9 = .ok (.bipush (-2), 2) := by decide +kernel
theorem dX8_restore_11 : decode cX8_restore 11 = .ok (.ireturn, 1) := by decide +kernel
theorem dX8_restore_12 : decode cX8_restore 12 = .ok (.aload_n 0, 1) := by decide +kernel
theorem dX8_restore_13 : decode cX8_restore 13 = .ok (.getfield 19, 3) := by decide +kernel
theorem dX8_restore_16 : decode cX8_restore 16 = .ok (.iload_n 1, 1) := by decide +kernel
theorem dX8_restore_17 : decode cX8_restore 17 = .ok (.baload, 1) := by decide +kernel
theorem dX8_restore_18 : decode cX8_restore 18 = .ok (.ifCond .ne 6, 3) := by decide +kernel
theorem dX8_restore_21 : decode cX8_restore 21 = .ok (.bipush (-5), 2) := by decide +kernel
theorem dX8_restore_23 : decode cX8_restore 23 = .ok (.ireturn, 1) := by decide +kernel
theorem dX8_restore_24 : decode cX8_restore 24 = .ok (.aload_n 0, 1) := by decide +kernel
theorem dX8_restore_25 : decode cX8_restore 25 = .ok (.invokevirtual 69, 3) := by decide +kernel
theorem dX8_restore_28 : decode cX8_restore 28 = .ok (.iconst 0, 1) := by decide +kernel
theorem dX8_restore_29 : decode cX8_restore 29 = .ok (.istore_n 2, 1) := by decide +kernel
theorem dX8_restore_30 : decode cX8_restore 30 = .ok (.iload_n 2, 1) := by decide +kernel
theorem dX8_restore_31 : decode cX8_restore 31 = .ok (.sipush 161, 3) := by decide +kernel
theorem dX8_restore_34 : decode cX8_restore 34 = .ok (.if_icmp .ge 27, 3) := by decide +kernel
theorem dX8_restore_37 : decode cX8_restore 37 = .ok (.aload_n 0, 1) := by decide +kernel
theorem dX8_restore_38 : decode cX8_restore 38 = .ok (.getfield 7, 3) := by decide +kernel
theorem dX8_restore_41 : decode cX8_restore 41 = .ok (.iload_n 2, 1) := by decide +kernel
theorem dX8_restore_42 : decode cX8_restore 42 = .ok (.aload_n 0, 1) := by decide +kernel
theorem dX8_restore_43 : decode cX8_restore 43 = .ok (.getfield 16, 3) := by decide +kernel
theorem dX8_restore_46 : decode cX8_restore 46 = .ok (.sipush 161, 3) := by decide +kernel
theorem dX8_restore_49 : decode cX8_restore 49 = .ok (.iload_n 1, 1) := by decide +kernel
theorem dX8_restore_50 : decode cX8_restore 50 = .ok (.imul, 1) := by decide +kernel
theorem dX8_restore_51 : decode cX8_restore 51 = .ok (.iload_n 2, 1) := by decide +kernel
theorem dX8_restore_52 : decode cX8_restore 52 = .ok (.iadd, 1) := by decide +kernel
theorem dX8_restore_53 : decode cX8_restore 53 = .ok (.iaload, 1) := by decide +kernel
theorem dX8_restore_54 : decode cX8_restore 54 = .ok (.iastore, 1) := by decide +kernel
theorem dX8_restore_55 : decode cX8_restore 55 = .ok (.iinc 2 1, 3) := by decide +kernel
theorem dX8_restore_58 : decode cX8_restore 58 = .ok (.goto (-28), 3) := by decide +kernel
theorem dX8_restore_61 : decode cX8_restore 61 = .ok (.aload_n 0, 1) := by decide +kernel
theorem dX8_restore_62 : decode cX8_restore 62 = .ok (.getfield 7, 3) := by decide +kernel
theorem dX8_restore_65 : decode cX8_restore 65 = .ok (.iconst 4, 1) := by decide +kernel
theorem dX8_restore_66 : decode cX8_restore 66 = .ok (.iaload, 1) := by decide +kernel
theorem dX8_restore_67 : decode cX8_restore 67 = .ok (.ireturn, 1) := by decide +kernel
theorem dJ9_abs_0f7a4_0 : decode cJ9_abs_0f7a4 0 = .ok (.iload_n 0, 1) := by decide +kernel
theorem dJ9_abs_0f7a4_1 : decode cJ9_abs_0f7a4 1 = .ok (.ifCond .ge 8, 3) := by decide +kernel
theorem dJ9_abs_0f7a4_4 : decode cJ9_abs_0f7a4 4 = .ok (.iload_n 0, 1) := by decide +kernel
theorem dJ9_abs_0f7a4_5 : decode cJ9_abs_0f7a4 5 = .ok (.ineg, 1) := by decide +kernel
theorem dJ9_abs_0f7a4_6 : decode cJ9_abs_0f7a4 6 = .ok (.goto 4, 3) := by decide +kernel
theorem dJ9_abs_0f7a4_9 : decode cJ9_abs_0f7a4 9 = .ok (.iload_n 0, 1) := by decide +kernel
theorem dJ9_abs_0f7a4_10 : decode cJ9_abs_0f7a4 10 = .ok (.ireturn, 1) := by decide +kernel
theorem dJ9_max_7cf53_0 : decode cJ9_max_7cf53 0 = .ok (.iload_n 0, 1) := by decide +kernel
theorem dJ9_max_7cf53_1 : decode cJ9_max_7cf53 1 = .ok (.iload_n 1, 1) := by decide +kernel
theorem dJ9_max_7cf53_2 : decode cJ9_max_7cf53 2 = .ok (.if_icmp .lt 7, 3) := by decide +kernel
theorem dJ9_max_7cf53_5 : decode cJ9_max_7cf53 5 = .ok (.iload_n 0, 1) := by decide +kernel
theorem dJ9_max_7cf53_6 : decode cJ9_max_7cf53 6 = .ok (.goto 4, 3) := by decide +kernel
theorem dJ9_max_7cf53_9 : decode cJ9_max_7cf53 9 = .ok (.iload_n 1, 1) := by decide +kernel
theorem dJ9_max_7cf53_10 : decode cJ9_max_7cf53 10 = .ok (.ireturn, 1) := by decide +kernel
theorem dJ9_min_7cf53_0 : decode cJ9_min_7cf53 0 = .ok (.iload_n 0, 1) := by decide +kernel
theorem dJ9_min_7cf53_1 : decode cJ9_min_7cf53 1 = .ok (.iload_n 1, 1) := by decide +kernel
theorem dJ9_min_7cf53_2 : decode cJ9_min_7cf53 2 = .ok (.if_icmp .gt 7, 3) := by decide +kernel
theorem dJ9_min_7cf53_5 : decode cJ9_min_7cf53 5 = .ok (.iload_n 0, 1) := by decide +kernel
theorem dJ9_min_7cf53_6 : decode cJ9_min_7cf53 6 = .ok (.goto 4, 3) := by decide +kernel
theorem dJ9_min_7cf53_9 : decode cJ9_min_7cf53 9 = .ok (.iload_n 1, 1) := by decide +kernel
theorem dJ9_min_7cf53_10 : decode cJ9_min_7cf53 10 = .ok (.ireturn, 1) := by decide +kernel
theorem dL_law_0 : decode cL_law 0 = .ok (.new 7, 3) := by decide +kernel
theorem dL_law_3 : decode cL_law 3 = .ok (.dup, 1) := by decide +kernel
theorem dL_law_4 : decode cL_law 4 = .ok (.invokespecial 9, 3) := by decide +kernel
theorem dL_law_7 : decode cL_law 7 = .ok (.astore_n 1, 1) := by decide +kernel
theorem dL_law_8 : decode cL_law 8 = .ok (.new 10, 3) := by decide +kernel
theorem dL_law_11 : decode cL_law 11 = .ok (.dup, 1) := by decide +kernel
theorem dL_law_12 : decode cL_law 12 = .ok (.invokespecial 12, 3) := by decide +kernel
theorem dL_law_15 : decode cL_law 15 = .ok (.astore_n 2, 1) := by decide +kernel
theorem dL_law_16 : decode cL_law 16 = .ok (.iconst 0, 1) := by decide +kernel
theorem dL_law_17 : decode cL_law 17 = .ok (.istore_n 3, 1) := by decide +kernel
theorem dL_law_18 : decode cL_law 18 = .ok (.iload_n 3, 1) := by decide +kernel
theorem dL_law_19 : decode cL_law 19 = .ok (.aload_n 0, 1) := by decide +kernel
theorem dL_law_20 : decode cL_law 20 = .ok (.arraylength, 1) := by decide +kernel
theorem dL_law_21 : decode cL_law 21 = .ok (.iconst 4, 1) := by decide +kernel
theorem dL_law_22 : decode cL_law 22 = .ok (.isub, 1) := by decide +kernel
theorem dL_law_23 : decode cL_law 23 = .ok (.if_icmp .gt 665, 3) := by decide +kernel
theorem dL_law_26 : decode cL_law 26 = .ok (.aload_n 0, 1) := by decide +kernel
theorem dL_law_27 : decode cL_law 27 = .ok (.iload_n 3, 1) := by decide +kernel
theorem dL_law_28 : decode cL_law 28 = .ok (.iaload, 1) := by decide +kernel
theorem dL_law_29 : decode cL_law 29 = .ok (.bipush 31, 2) := by decide +kernel
theorem dL_law_31 : decode cL_law 31 = .ok (.iand, 1) := by decide +kernel
theorem dL_law_32 : decode cL_law 32 = .ok (.tableswitch 650 0 21 #[104, 137, 180, 203, 226, 249, 272, 285, 318, 341, 374, 397, 420, 433, 456, 499, 552, 565, 578, 591, 604, 627], 104) := by decide +kernel
theorem dL_law_136 : decode cL_law 136 = .ok (.aload_n 1, 1) := by decide +kernel
theorem dL_law_137 : decode cL_law 137 = .ok (.aload_n 0, 1) := by decide +kernel
theorem dL_law_138 : decode cL_law 138 = .ok (.iload_n 3, 1) := by decide +kernel
theorem dL_law_139 : decode cL_law 139 = .ok (.iconst 1, 1) := by decide +kernel
theorem dL_law_140 : decode cL_law 140 = .ok (.iadd, 1) := by decide +kernel
theorem dL_law_141 : decode cL_law 141 = .ok (.iaload, 1) := by decide +kernel
theorem dL_law_142 : decode cL_law 142 = .ok (.aload_n 0, 1) := by decide +kernel
theorem dL_law_143 : decode cL_law 143 = .ok (.iload_n 3, 1) := by decide +kernel
theorem dL_law_144 : decode cL_law 144 = .ok (.iconst 2, 1) := by decide +kernel
theorem dL_law_145 : decode cL_law 145 = .ok (.iadd, 1) := by decide +kernel
theorem dL_law_146 : decode cL_law 146 = .ok (.iaload, 1) := by decide +kernel
theorem dL_law_147 : decode cL_law 147 = .ok (.invokevirtual 13, 3) := by decide +kernel
theorem dL_law_150 : decode cL_law 150 = .ok (.aload_n 2, 1) := by decide +kernel
theorem dL_law_151 : decode cL_law 151 = .ok (.aload_n 0, 1) := by decide +kernel
theorem dL_law_152 : decode cL_law 152 = .ok (.iload_n 3, 1) := by decide +kernel
theorem dL_law_153 : decode cL_law 153 = .ok (.iconst 1, 1) := by decide +kernel
theorem dL_law_154 : decode cL_law 154 = .ok (.iadd, 1) := by decide +kernel
theorem dL_law_155 : decode cL_law 155 = .ok (.iaload, 1) := by decide +kernel
theorem dL_law_156 : decode cL_law 156 = .ok (.aload_n 0, 1) := by decide +kernel
theorem dL_law_157 : decode cL_law 157 = .ok (.iload_n 3, 1) := by decide +kernel
theorem dL_law_158 : decode cL_law 158 = .ok (.iconst 2, 1) := by decide +kernel
theorem dL_law_159 : decode cL_law 159 = .ok (.iadd, 1) := by decide +kernel
theorem dL_law_160 : decode cL_law 160 = .ok (.iaload, 1) := by decide +kernel
theorem dL_law_161 : decode cL_law 161 = .ok (.invokevirtual 17, 3) := by decide +kernel
theorem dL_law_164 : decode cL_law 164 = .ok (.if_icmp .eq 518, 3) := by decide +kernel
theorem dL_law_167 : decode cL_law 167 = .ok (.iconst 0, 1) := by decide +kernel
theorem dL_law_168 : decode cL_law 168 = .ok (.ireturn, 1) := by decide +kernel
theorem dL_law_169 : decode cL_law 169 = .ok (.aload_n 1, 1) := by decide +kernel
theorem dL_law_170 : decode cL_law 170 = .ok (.aload_n 0, 1) := by decide +kernel
theorem dL_law_171 : decode cL_law 171 = .ok (.iload_n 3, 1) := by decide +kernel
theorem dL_law_172 : decode cL_law 172 = .ok (.iconst 1, 1) := by decide +kernel
theorem dL_law_173 : decode cL_law 173 = .ok (.iadd, 1) := by decide +kernel
theorem dL_law_174 : decode cL_law 174 = .ok (.iaload, 1) := by decide +kernel
theorem dL_law_175 : decode cL_law 175 = .ok (.aload_n 0, 1) := by decide +kernel
theorem dL_law_176 : decode cL_law 176 = .ok (.iload_n 3, 1) := by decide +kernel
theorem dL_law_177 : decode cL_law 177 = .ok (.iconst 2, 1) := by decide +kernel
theorem dL_law_178 : decode cL_law 178 = .ok (.iadd, 1) := by decide +kernel
theorem dL_law_179 : decode cL_law 179 = .ok (.iaload, 1) := by decide +kernel
theorem dL_law_180 : decode cL_law 180 = .ok (.aload_n 0, 1) := by decide +kernel
theorem dL_law_181 : decode cL_law 181 = .ok (.iload_n 3, 1) := by decide +kernel
theorem dL_law_182 : decode cL_law 182 = .ok (.iconst 3, 1) := by decide +kernel
theorem dL_law_183 : decode cL_law 183 = .ok (.iadd, 1) := by decide +kernel
theorem dL_law_184 : decode cL_law 184 = .ok (.iaload, 1) := by decide +kernel
theorem dL_law_185 : decode cL_law 185 = .ok (.invokevirtual 18, 3) := by decide +kernel
theorem dL_law_188 : decode cL_law 188 = .ok (.aload_n 2, 1) := by decide +kernel
theorem dL_law_189 : decode cL_law 189 = .ok (.aload_n 0, 1) := by decide +kernel
theorem dL_law_190 : decode cL_law 190 = .ok (.iload_n 3, 1) := by decide +kernel
theorem dL_law_191 : decode cL_law 191 = .ok (.iconst 1, 1) := by decide +kernel
theorem dL_law_192 : decode cL_law 192 = .ok (.iadd, 1) := by decide +kernel
theorem dL_law_193 : decode cL_law 193 = .ok (.iaload, 1) := by decide +kernel
theorem dL_law_194 : decode cL_law 194 = .ok (.aload_n 0, 1) := by decide +kernel
theorem dL_law_195 : decode cL_law 195 = .ok (.iload_n 3, 1) := by decide +kernel
theorem dL_law_196 : decode cL_law 196 = .ok (.iconst 2, 1) := by decide +kernel
theorem dL_law_197 : decode cL_law 197 = .ok (.iadd, 1) := by decide +kernel
theorem dL_law_198 : decode cL_law 198 = .ok (.iaload, 1) := by decide +kernel
theorem dL_law_199 : decode cL_law 199 = .ok (.aload_n 0, 1) := by decide +kernel
theorem dL_law_200 : decode cL_law 200 = .ok (.iload_n 3, 1) := by decide +kernel
theorem dL_law_201 : decode cL_law 201 = .ok (.iconst 3, 1) := by decide +kernel
theorem dL_law_202 : decode cL_law 202 = .ok (.iadd, 1) := by decide +kernel
theorem dL_law_203 : decode cL_law 203 = .ok (.iaload, 1) := by decide +kernel
theorem dL_law_204 : decode cL_law 204 = .ok (.invokevirtual 22, 3) := by decide +kernel
theorem dL_law_207 : decode cL_law 207 = .ok (.if_icmp .eq 475, 3) := by decide +kernel
theorem dL_law_210 : decode cL_law 210 = .ok (.iconst 0, 1) := by decide +kernel
theorem dL_law_211 : decode cL_law 211 = .ok (.ireturn, 1) := by decide +kernel
theorem dL_law_212 : decode cL_law 212 = .ok (.aload_n 1, 1) := by decide +kernel
theorem dL_law_213 : decode cL_law 213 = .ok (.aload_n 0, 1) := by decide +kernel
theorem dL_law_214 : decode cL_law 214 = .ok (.iload_n 3, 1) := by decide +kernel
theorem dL_law_215 : decode cL_law 215 = .ok (.iconst 1, 1) := by decide +kernel
theorem dL_law_216 : decode cL_law 216 = .ok (.iadd, 1) := by decide +kernel
theorem dL_law_217 : decode cL_law 217 = .ok (.iaload, 1) := by decide +kernel
theorem dL_law_218 : decode cL_law 218 = .ok (.invokevirtual 23, 3) := by decide +kernel
theorem dL_law_221 : decode cL_law 221 = .ok (.aload_n 2, 1) := by decide +kernel
theorem dL_law_222 : decode cL_law 222 = .ok (.aload_n 0, 1) := by decide +kernel
theorem dL_law_223 : decode cL_law 223 = .ok (.iload_n 3, 1) := by decide +kernel
theorem dL_law_224 : decode cL_law 224 = .ok (.iconst 1, 1) := by decide +kernel
theorem dL_law_225 : decode cL_law 225 = .ok (.iadd, 1) := by decide +kernel
theorem dL_law_226 : decode cL_law 226 = .ok (.iaload, 1) := by decide +kernel
theorem dL_law_227 : decode cL_law 227 = .ok (.invokevirtual 27, 3) := by decide +kernel
theorem dL_law_230 : decode cL_law 230 = .ok (.if_icmp .eq 452, 3) := by decide +kernel
theorem dL_law_233 : decode cL_law 233 = .ok (.iconst 0, 1) := by decide +kernel
theorem dL_law_234 : decode cL_law 234 = .ok (.ireturn, 1) := by decide +kernel
theorem dL_law_235 : decode cL_law 235 = .ok (.aload_n 1, 1) := by decide +kernel
theorem dL_law_236 : decode cL_law 236 = .ok (.aload_n 0, 1) := by decide +kernel
theorem dL_law_237 : decode cL_law 237 = .ok (.iload_n 3, 1) := by decide +kernel
theorem dL_law_238 : decode cL_law 238 = .ok (.iconst 1, 1) := by decide +kernel
theorem dL_law_239 : decode cL_law 239 = .ok (.iadd, 1) := by decide +kernel
theorem dL_law_240 : decode cL_law 240 = .ok (.iaload, 1) := by decide +kernel
theorem dL_law_241 : decode cL_law 241 = .ok (.invokevirtual 28, 3) := by decide +kernel
theorem dL_law_244 : decode cL_law 244 = .ok (.aload_n 2, 1) := by decide +kernel
theorem dL_law_245 : decode cL_law 245 = .ok (.aload_n 0, 1) := by decide +kernel
theorem dL_law_246 : decode cL_law 246 = .ok (.iload_n 3, 1) := by decide +kernel
theorem dL_law_247 : decode cL_law 247 = .ok (.iconst 1, 1) := by decide +kernel
theorem dL_law_248 : decode cL_law 248 = .ok (.iadd, 1) := by decide +kernel
theorem dL_law_249 : decode cL_law 249 = .ok (.iaload, 1) := by decide +kernel
theorem dL_law_250 : decode cL_law 250 = .ok (.invokevirtual 31, 3) := by decide +kernel
theorem dL_law_253 : decode cL_law 253 = .ok (.if_icmp .eq 429, 3) := by decide +kernel
theorem dL_law_256 : decode cL_law 256 = .ok (.iconst 0, 1) := by decide +kernel
theorem dL_law_257 : decode cL_law 257 = .ok (.ireturn, 1) := by decide +kernel
theorem dL_law_258 : decode cL_law 258 = .ok (.aload_n 1, 1) := by decide +kernel
theorem dL_law_259 : decode cL_law 259 = .ok (.aload_n 0, 1) := by decide +kernel
theorem dL_law_260 : decode cL_law 260 = .ok (.iload_n 3, 1) := by decide +kernel
theorem dL_law_261 : decode cL_law 261 = .ok (.iconst 1, 1) := by decide +kernel
theorem dL_law_262 : decode cL_law 262 = .ok (.iadd, 1) := by decide +kernel
theorem dL_law_263 : decode cL_law 263 = .ok (.iaload, 1) := by decide +kernel
theorem dL_law_264 : decode cL_law 264 = .ok (.invokevirtual 32, 3) := by decide +kernel
theorem dL_law_267 : decode cL_law 267 = .ok (.aload_n 2, 1) := by decide +kernel
theorem dL_law_268 : decode cL_law 268 = .ok (.aload_n 0, 1) := by decide +kernel
theorem dL_law_269 : decode cL_law 269 = .ok (.iload_n 3, 1) := by decide +kernel
theorem dL_law_270 : decode cL_law 270 = .ok (.iconst 1, 1) := by decide +kernel
theorem dL_law_271 : decode cL_law 271 = .ok (.iadd, 1) := by decide +kernel
theorem dL_law_272 : decode cL_law 272 = .ok (.iaload, 1) := by decide +kernel
theorem dL_law_273 : decode cL_law 273 = .ok (.invokevirtual 35, 3) := by decide +kernel
theorem dL_law_276 : decode cL_law 276 = .ok (.if_icmp .eq 406, 3) := by decide +kernel
theorem dL_law_279 : decode cL_law 279 = .ok (.iconst 0, 1) := by decide +kernel
theorem dL_law_280 : decode cL_law 280 = .ok (.ireturn, 1) := by decide +kernel
theorem dL_law_281 : decode cL_law 281 = .ok (.aload_n 1, 1) := by decide +kernel
theorem dL_law_282 : decode cL_law 282 = .ok (.aload_n 0, 1) := by decide +kernel
theorem dL_law_283 : decode cL_law 283 = .ok (.iload_n 3, 1) := by decide +kernel
theorem dL_law_284 : decode cL_law 284 = .ok (.iconst 1, 1) := by decide +kernel
theorem dL_law_285 : decode cL_law 285 = .ok (.iadd, 1) := by decide +kernel
theorem dL_law_286 : decode cL_law 286 = .ok (.iaload, 1) := by decide +kernel
theorem dL_law_287 : decode cL_law 287 = .ok (.invokevirtual 36, 3) := by decide +kernel
theorem dL_law_290 : decode cL_law 290 = .ok (.aload_n 2, 1) := by decide +kernel
theorem dL_law_291 : decode cL_law 291 = .ok (.aload_n 0, 1) := by decide +kernel
theorem dL_law_292 : decode cL_law 292 = .ok (.iload_n 3, 1) := by decide +kernel
theorem dL_law_293 : decode cL_law 293 = .ok (.iconst 1, 1) := by decide +kernel
theorem dL_law_294 : decode cL_law 294 = .ok (.iadd, 1) := by decide +kernel
theorem dL_law_295 : decode cL_law 295 = .ok (.iaload, 1) := by decide +kernel
theorem dL_law_296 : decode cL_law 296 = .ok (.invokevirtual 39, 3) := by decide +kernel
theorem dL_law_299 : decode cL_law 299 = .ok (.if_icmp .eq 383, 3) := by decide +kernel
theorem dL_law_302 : decode cL_law 302 = .ok (.iconst 0, 1) := by decide +kernel
theorem dL_law_303 : decode cL_law 303 = .ok (.ireturn, 1) := by decide +kernel
theorem dL_law_304 : decode cL_law 304 = .ok (.aload_n 1, 1) := by decide +kernel
theorem dL_law_305 : decode cL_law 305 = .ok (.invokevirtual 40, 3) := by decide +kernel
theorem dL_law_308 : decode cL_law 308 = .ok (.aload_n 2, 1) := by decide +kernel
theorem dL_law_309 : decode cL_law 309 = .ok (.invokevirtual 44, 3) := by decide +kernel
theorem dL_law_312 : decode cL_law 312 = .ok (.if_icmp .eq 370, 3) := by decide +kernel
theorem dL_law_315 : decode cL_law 315 = .ok (.iconst 0, 1) := by decide +kernel
theorem dL_law_316 : decode cL_law 316 = .ok (.ireturn, 1) := by decide +kernel
theorem dL_law_317 : decode cL_law 317 = .ok (.aload_n 1, 1) := by decide +kernel
theorem dL_law_318 : decode cL_law 318 = .ok (.aload_n 0, 1) := by decide +kernel
theorem dL_law_319 : decode cL_law 319 = .ok (.iload_n 3, 1) := by decide +kernel
theorem dL_law_320 : decode cL_law 320 = .ok (.iconst 1, 1) := by decide +kernel
theorem dL_law_321 : decode cL_law 321 = .ok (.iadd, 1) := by decide +kernel
theorem dL_law_322 : decode cL_law 322 = .ok (.iaload, 1) := by decide +kernel
theorem dL_law_323 : decode cL_law 323 = .ok (.aload_n 0, 1) := by decide +kernel
theorem dL_law_324 : decode cL_law 324 = .ok (.iload_n 3, 1) := by decide +kernel
theorem dL_law_325 : decode cL_law 325 = .ok (.iconst 2, 1) := by decide +kernel
theorem dL_law_326 : decode cL_law 326 = .ok (.iadd, 1) := by decide +kernel
theorem dL_law_327 : decode cL_law 327 = .ok (.iaload, 1) := by decide +kernel
theorem dL_law_328 : decode cL_law 328 = .ok (.invokevirtual 45, 3) := by decide +kernel
theorem dL_law_331 : decode cL_law 331 = .ok (.aload_n 2, 1) := by decide +kernel
theorem dL_law_332 : decode cL_law 332 = .ok (.aload_n 0, 1) := by decide +kernel
theorem dL_law_333 : decode cL_law 333 = .ok (.iload_n 3, 1) := by decide +kernel
theorem dL_law_334 : decode cL_law 334 = .ok (.iconst 1, 1) := by decide +kernel
theorem dL_law_335 : decode cL_law 335 = .ok (.iadd, 1) := by decide +kernel
theorem dL_law_336 : decode cL_law 336 = .ok (.iaload, 1) := by decide +kernel
theorem dL_law_337 : decode cL_law 337 = .ok (.aload_n 0, 1) := by decide +kernel
theorem dL_law_338 : decode cL_law 338 = .ok (.iload_n 3, 1) := by decide +kernel
theorem dL_law_339 : decode cL_law 339 = .ok (.iconst 2, 1) := by decide +kernel
theorem dL_law_340 : decode cL_law 340 = .ok (.iadd, 1) := by decide +kernel
theorem dL_law_341 : decode cL_law 341 = .ok (.iaload, 1) := by decide +kernel
theorem dL_law_342 : decode cL_law 342 = .ok (.invokevirtual 48, 3) := by decide +kernel
theorem dL_law_345 : decode cL_law 345 = .ok (.if_icmp .eq 337, 3) := by decide +kernel
theorem dL_law_348 : decode cL_law 348 = .ok (.iconst 0, 1) := by decide +kernel
theorem dL_law_349 : decode cL_law 349 = .ok (.ireturn, 1) := by decide +kernel
theorem dL_law_350 : decode cL_law 350 = .ok (.aload_n 1, 1) := by decide +kernel
theorem dL_law_351 : decode cL_law 351 = .ok (.aload_n 0, 1) := by decide +kernel
theorem dL_law_352 : decode cL_law 352 = .ok (.iload_n 3, 1) := by decide +kernel
theorem dL_law_353 : decode cL_law 353 = .ok (.iconst 1, 1) := by decide +kernel
theorem dL_law_354 : decode cL_law 354 = .ok (.iadd, 1) := by decide +kernel
theorem dL_law_355 : decode cL_law 355 = .ok (.iaload, 1) := by decide +kernel
theorem dL_law_356 : decode cL_law 356 = .ok (.invokevirtual 49, 3) := by decide +kernel
theorem dL_law_359 : decode cL_law 359 = .ok (.aload_n 2, 1) := by decide +kernel
theorem dL_law_360 : decode cL_law 360 = .ok (.aload_n 0, 1) := by decide +kernel
theorem dL_law_361 : decode cL_law 361 = .ok (.iload_n 3, 1) := by decide +kernel
theorem dL_law_362 : decode cL_law 362 = .ok (.iconst 1, 1) := by decide +kernel
theorem dL_law_363 : decode cL_law 363 = .ok (.iadd, 1) := by decide +kernel
theorem dL_law_364 : decode cL_law 364 = .ok (.iaload, 1) := by decide +kernel
theorem dL_law_365 : decode cL_law 365 = .ok (.invokevirtual 52, 3) := by decide +kernel
theorem dL_law_368 : decode cL_law 368 = .ok (.if_icmp .eq 314, 3) := by decide +kernel
theorem dL_law_371 : decode cL_law 371 = .ok (.iconst 0, 1) := by decide +kernel
theorem dL_law_372 : decode cL_law 372 = .ok (.ireturn, 1) := by decide +kernel
theorem dL_law_373 : decode cL_law 373 = .ok (.aload_n 1, 1) := by decide +kernel
theorem dL_law_374 : decode cL_law 374 = .ok (.aload_n 0, 1) := by decide +kernel
theorem dL_law_375 : decode cL_law 375 = .ok (.iload_n 3, 1) := by decide +kernel
theorem dL_law_376 : decode cL_law 376 = .ok (.iconst 1, 1) := by decide +kernel
theorem dL_law_377 : decode cL_law 377 = .ok (.iadd, 1) := by decide +kernel
theorem dL_law_378 : decode cL_law 378 = .ok (.iaload, 1) := by decide +kernel
theorem dL_law_379 : decode cL_law 379 = .ok (.aload_n 0, 1) := by decide +kernel
theorem dL_law_380 : decode cL_law 380 = .ok (.iload_n 3, 1) := by decide +kernel
theorem dL_law_381 : decode cL_law 381 = .ok (.iconst 2, 1) := by decide +kernel
theorem dL_law_382 : decode cL_law 382 = .ok (.iadd, 1) := by decide +kernel
theorem dL_law_383 : decode cL_law 383 = .ok (.iaload, 1) := by decide +kernel
theorem dL_law_384 : decode cL_law 384 = .ok (.invokevirtual 53, 3) := by decide +kernel
theorem dL_law_387 : decode cL_law 387 = .ok (.aload_n 2, 1) := by decide +kernel
theorem dL_law_388 : decode cL_law 388 = .ok (.aload_n 0, 1) := by decide +kernel
theorem dL_law_389 : decode cL_law 389 = .ok (.iload_n 3, 1) := by decide +kernel
theorem dL_law_390 : decode cL_law 390 = .ok (.iconst 1, 1) := by decide +kernel
theorem dL_law_391 : decode cL_law 391 = .ok (.iadd, 1) := by decide +kernel
theorem dL_law_392 : decode cL_law 392 = .ok (.iaload, 1) := by decide +kernel
theorem dL_law_393 : decode cL_law 393 = .ok (.aload_n 0, 1) := by decide +kernel
theorem dL_law_394 : decode cL_law 394 = .ok (.iload_n 3, 1) := by decide +kernel
theorem dL_law_395 : decode cL_law 395 = .ok (.iconst 2, 1) := by decide +kernel
theorem dL_law_396 : decode cL_law 396 = .ok (.iadd, 1) := by decide +kernel
theorem dL_law_397 : decode cL_law 397 = .ok (.iaload, 1) := by decide +kernel
theorem dL_law_398 : decode cL_law 398 = .ok (.invokevirtual 56, 3) := by decide +kernel
theorem dL_law_401 : decode cL_law 401 = .ok (.if_icmp .eq 281, 3) := by decide +kernel
theorem dL_law_404 : decode cL_law 404 = .ok (.iconst 0, 1) := by decide +kernel
theorem dL_law_405 : decode cL_law 405 = .ok (.ireturn, 1) := by decide +kernel
theorem dL_law_406 : decode cL_law 406 = .ok (.aload_n 1, 1) := by decide +kernel
theorem dL_law_407 : decode cL_law 407 = .ok (.aload_n 0, 1) := by decide +kernel
theorem dL_law_408 : decode cL_law 408 = .ok (.iload_n 3, 1) := by decide +kernel
theorem dL_law_409 : decode cL_law 409 = .ok (.iconst 1, 1) := by decide +kernel
theorem dL_law_410 : decode cL_law 410 = .ok (.iadd, 1) := by decide +kernel
theorem dL_law_411 : decode cL_law 411 = .ok (.iaload, 1) := by decide +kernel
theorem dL_law_412 : decode cL_law 412 = .ok (.invokevirtual 57, 3) := by decide +kernel
theorem dL_law_415 : decode cL_law 415 = .ok (.aload_n 2, 1) := by decide +kernel
theorem dL_law_416 : decode cL_law 416 = .ok (.aload_n 0, 1) := by decide +kernel
theorem dL_law_417 : decode cL_law 417 = .ok (.iload_n 3, 1) := by decide +kernel
theorem dL_law_418 : decode cL_law 418 = .ok (.iconst 1, 1) := by decide +kernel
theorem dL_law_419 : decode cL_law 419 = .ok (.iadd, 1) := by decide +kernel
theorem dL_law_420 : decode cL_law 420 = .ok (.iaload, 1) := by decide +kernel
theorem dL_law_421 : decode cL_law 421 = .ok (.invokevirtual 60, 3) := by decide +kernel
theorem dL_law_424 : decode cL_law 424 = .ok (.if_icmp .eq 258, 3) := by decide +kernel
theorem dL_law_427 : decode cL_law 427 = .ok (.iconst 0, 1) := by decide +kernel
theorem dL_law_428 : decode cL_law 428 = .ok (.ireturn, 1) := by decide +kernel
theorem dL_law_429 : decode cL_law 429 = .ok (.aload_n 1, 1) := by decide +kernel
theorem dL_law_430 : decode cL_law 430 = .ok (.aload_n 0, 1) := by decide +kernel
theorem dL_law_431 : decode cL_law 431 = .ok (.iload_n 3, 1) := by decide +kernel
theorem dL_law_432 : decode cL_law 432 = .ok (.iconst 1, 1) := by decide +kernel
theorem dL_law_433 : decode cL_law 433 = .ok (.iadd, 1) := by decide +kernel
theorem dL_law_434 : decode cL_law 434 = .ok (.iaload, 1) := by decide +kernel
theorem dL_law_435 : decode cL_law 435 = .ok (.invokevirtual 61, 3) := by decide +kernel
theorem dL_law_438 : decode cL_law 438 = .ok (.aload_n 2, 1) := by decide +kernel
theorem dL_law_439 : decode cL_law 439 = .ok (.aload_n 0, 1) := by decide +kernel
theorem dL_law_440 : decode cL_law 440 = .ok (.iload_n 3, 1) := by decide +kernel
theorem dL_law_441 : decode cL_law 441 = .ok (.iconst 1, 1) := by decide +kernel
theorem dL_law_442 : decode cL_law 442 = .ok (.iadd, 1) := by decide +kernel
theorem dL_law_443 : decode cL_law 443 = .ok (.iaload, 1) := by decide +kernel
theorem dL_law_444 : decode cL_law 444 = .ok (.invokevirtual 64, 3) := by decide +kernel
theorem dL_law_447 : decode cL_law 447 = .ok (.if_icmp .eq 235, 3) := by decide +kernel
theorem dL_law_450 : decode cL_law 450 = .ok (.iconst 0, 1) := by decide +kernel
theorem dL_law_451 : decode cL_law 451 = .ok (.ireturn, 1) := by decide +kernel
theorem dL_law_452 : decode cL_law 452 = .ok (.aload_n 1, 1) := by decide +kernel
theorem dL_law_453 : decode cL_law 453 = .ok (.invokevirtual 65, 3) := by decide +kernel
theorem dL_law_456 : decode cL_law 456 = .ok (.aload_n 2, 1) := by decide +kernel
theorem dL_law_457 : decode cL_law 457 = .ok (.invokevirtual 68, 3) := by decide +kernel
theorem dL_law_460 : decode cL_law 460 = .ok (.if_icmp .eq 222, 3) := by decide +kernel
theorem dL_law_463 : decode cL_law 463 = .ok (.iconst 0, 1) := by decide +kernel
theorem dL_law_464 : decode cL_law 464 = .ok (.ireturn, 1) := by decide +kernel
theorem dL_law_465 : decode cL_law 465 = .ok (.aload_n 1, 1) := by decide +kernel
theorem dL_law_466 : decode cL_law 466 = .ok (.aload_n 0, 1) := by decide +kernel
theorem dL_law_467 : decode cL_law 467 = .ok (.iload_n 3, 1) := by decide +kernel
theorem dL_law_468 : decode cL_law 468 = .ok (.iconst 1, 1) := by decide +kernel
theorem dL_law_469 : decode cL_law 469 = .ok (.iadd, 1) := by decide +kernel
theorem dL_law_470 : decode cL_law 470 = .ok (.iaload, 1) := by decide +kernel
theorem dL_law_471 : decode cL_law 471 = .ok (.invokevirtual 69, 3) := by decide +kernel
theorem dL_law_474 : decode cL_law 474 = .ok (.aload_n 2, 1) := by decide +kernel
theorem dL_law_475 : decode cL_law 475 = .ok (.aload_n 0, 1) := by decide +kernel
theorem dL_law_476 : decode cL_law 476 = .ok (.iload_n 3, 1) := by decide +kernel
theorem dL_law_477 : decode cL_law 477 = .ok (.iconst 1, 1) := by decide +kernel
theorem dL_law_478 : decode cL_law 478 = .ok (.iadd, 1) := by decide +kernel
theorem dL_law_479 : decode cL_law 479 = .ok (.iaload, 1) := by decide +kernel
theorem dL_law_480 : decode cL_law 480 = .ok (.invokevirtual 72, 3) := by decide +kernel
theorem dL_law_483 : decode cL_law 483 = .ok (.if_icmp .eq 199, 3) := by decide +kernel
theorem dL_law_486 : decode cL_law 486 = .ok (.iconst 0, 1) := by decide +kernel
theorem dL_law_487 : decode cL_law 487 = .ok (.ireturn, 1) := by decide +kernel
theorem dL_law_488 : decode cL_law 488 = .ok (.aload_n 1, 1) := by decide +kernel
theorem dL_law_489 : decode cL_law 489 = .ok (.aload_n 0, 1) := by decide +kernel
theorem dL_law_490 : decode cL_law 490 = .ok (.iload_n 3, 1) := by decide +kernel
theorem dL_law_491 : decode cL_law 491 = .ok (.iconst 1, 1) := by decide +kernel
theorem dL_law_492 : decode cL_law 492 = .ok (.iadd, 1) := by decide +kernel
theorem dL_law_493 : decode cL_law 493 = .ok (.iaload, 1) := by decide +kernel
theorem dL_law_494 : decode cL_law 494 = .ok (.aload_n 0, 1) := by decide +kernel
theorem dL_law_495 : decode cL_law 495 = .ok (.iload_n 3, 1) := by decide +kernel
theorem dL_law_496 : decode cL_law 496 = .ok (.iconst 2, 1) := by decide +kernel
theorem dL_law_497 : decode cL_law 497 = .ok (.iadd, 1) := by decide +kernel
theorem dL_law_498 : decode cL_law 498 = .ok (.iaload, 1) := by decide +kernel
theorem dL_law_499 : decode cL_law 499 = .ok (.aload_n 0, 1) := by decide +kernel
theorem dL_law_500 : decode cL_law 500 = .ok (.iload_n 3, 1) := by decide +kernel
theorem dL_law_501 : decode cL_law 501 = .ok (.iconst 3, 1) := by decide +kernel
theorem dL_law_502 : decode cL_law 502 = .ok (.iadd, 1) := by decide +kernel
theorem dL_law_503 : decode cL_law 503 = .ok (.iaload, 1) := by decide +kernel
theorem dL_law_504 : decode cL_law 504 = .ok (.invokevirtual 73, 3) := by decide +kernel
theorem dL_law_507 : decode cL_law 507 = .ok (.aload_n 2, 1) := by decide +kernel
theorem dL_law_508 : decode cL_law 508 = .ok (.aload_n 0, 1) := by decide +kernel
theorem dL_law_509 : decode cL_law 509 = .ok (.iload_n 3, 1) := by decide +kernel
theorem dL_law_510 : decode cL_law 510 = .ok (.iconst 1, 1) := by decide +kernel
theorem dL_law_511 : decode cL_law 511 = .ok (.iadd, 1) := by decide +kernel
theorem dL_law_512 : decode cL_law 512 = .ok (.iaload, 1) := by decide +kernel
theorem dL_law_513 : decode cL_law 513 = .ok (.aload_n 0, 1) := by decide +kernel
theorem dL_law_514 : decode cL_law 514 = .ok (.iload_n 3, 1) := by decide +kernel
theorem dL_law_515 : decode cL_law 515 = .ok (.iconst 2, 1) := by decide +kernel
theorem dL_law_516 : decode cL_law 516 = .ok (.iadd, 1) := by decide +kernel
theorem dL_law_517 : decode cL_law 517 = .ok (.iaload, 1) := by decide +kernel
theorem dL_law_518 : decode cL_law 518 = .ok (.aload_n 0, 1) := by decide +kernel
theorem dL_law_519 : decode cL_law 519 = .ok (.iload_n 3, 1) := by decide +kernel
theorem dL_law_520 : decode cL_law 520 = .ok (.iconst 3, 1) := by decide +kernel
theorem dL_law_521 : decode cL_law 521 = .ok (.iadd, 1) := by decide +kernel
theorem dL_law_522 : decode cL_law 522 = .ok (.iaload, 1) := by decide +kernel
theorem dL_law_523 : decode cL_law 523 = .ok (.invokevirtual 76, 3) := by decide +kernel
theorem dL_law_526 : decode cL_law 526 = .ok (.if_icmp .eq 156, 3) := by decide +kernel
theorem dL_law_529 : decode cL_law 529 = .ok (.iconst 0, 1) := by decide +kernel
theorem dL_law_530 : decode cL_law 530 = .ok (.ireturn, 1) := by decide +kernel
theorem dL_law_531 : decode cL_law 531 = .ok (.aload_n 1, 1) := by decide +kernel
theorem dL_law_532 : decode cL_law 532 = .ok (.aload_n 0, 1) := by decide +kernel
theorem dL_law_533 : decode cL_law 533 = .ok (.iload_n 3, 1) := by decide +kernel
theorem dL_law_534 : decode cL_law 534 = .ok (.iconst 1, 1) := by decide +kernel
theorem dL_law_535 : decode cL_law 535 = .ok (.iadd, 1) := by decide +kernel
theorem dL_law_536 : decode cL_law 536 = .ok (.iaload, 1) := by decide +kernel
theorem dL_law_537 : decode cL_law 537 = .ok (.i2l, 1) := by decide +kernel
theorem dL_law_538 : decode cL_law 538 = .ok (.bipush 32, 2) := by decide +kernel
theorem dL_law_540 : decode cL_law 540 = .ok (.lshl, 1) := by decide +kernel
theorem dL_law_541 : decode cL_law 541 = .ok (.aload_n 0, 1) := by decide +kernel
theorem dL_law_542 : decode cL_law 542 = .ok (.iload_n 3, 1) := by decide +kernel
theorem dL_law_543 : decode cL_law 543 = .ok (.iconst 2, 1) := by decide +kernel
theorem dL_law_544 : decode cL_law 544 = .ok (.iadd, 1) := by decide +kernel
theorem dL_law_545 : decode cL_law 545 = .ok (.iaload, 1) := by decide +kernel
theorem dL_law_546 : decode cL_law 546 = .ok (.i2l, 1) := by decide +kernel
theorem dL_law_547 : decode cL_law 547 = .ok (.ldc2_w 77, 3) := by decide +kernel
theorem dL_law_550 : decode cL_law 550 = .ok (.land, 1) := by decide +kernel
theorem dL_law_551 : decode cL_law 551 = .ok (.lor, 1) := by decide +kernel
theorem dL_law_552 : decode cL_law 552 = .ok (.invokevirtual 79, 3) := by decide +kernel
theorem dL_law_555 : decode cL_law 555 = .ok (.aload_n 2, 1) := by decide +kernel
theorem dL_law_556 : decode cL_law 556 = .ok (.aload_n 0, 1) := by decide +kernel
theorem dL_law_557 : decode cL_law 557 = .ok (.iload_n 3, 1) := by decide +kernel
theorem dL_law_558 : decode cL_law 558 = .ok (.iconst 1, 1) := by decide +kernel
theorem dL_law_559 : decode cL_law 559 = .ok (.iadd, 1) := by decide +kernel
theorem dL_law_560 : decode cL_law 560 = .ok (.iaload, 1) := by decide +kernel
theorem dL_law_561 : decode cL_law 561 = .ok (.i2l, 1) := by decide +kernel
theorem dL_law_562 : decode cL_law 562 = .ok (.bipush 32, 2) := by decide +kernel
theorem dL_law_564 : decode cL_law 564 = .ok (.lshl, 1) := by decide +kernel
theorem dL_law_565 : decode cL_law 565 = .ok (.aload_n 0, 1) := by decide +kernel
theorem dL_law_566 : decode cL_law 566 = .ok (.iload_n 3, 1) := by decide +kernel
theorem dL_law_567 : decode cL_law 567 = .ok (.iconst 2, 1) := by decide +kernel
theorem dL_law_568 : decode cL_law 568 = .ok (.iadd, 1) := by decide +kernel
theorem dL_law_569 : decode cL_law 569 = .ok (.iaload, 1) := by decide +kernel
theorem dL_law_570 : decode cL_law 570 = .ok (.i2l, 1) := by decide +kernel
theorem dL_law_571 : decode cL_law 571 = .ok (.ldc2_w 77, 3) := by decide +kernel
theorem dL_law_574 : decode cL_law 574 = .ok (.land, 1) := by decide +kernel
theorem dL_law_575 : decode cL_law 575 = .ok (.lor, 1) := by decide +kernel
theorem dL_law_576 : decode cL_law 576 = .ok (.invokevirtual 83, 3) := by decide +kernel
theorem dL_law_579 : decode cL_law 579 = .ok (.if_icmp .eq 103, 3) := by decide +kernel
theorem dL_law_582 : decode cL_law 582 = .ok (.iconst 0, 1) := by decide +kernel
theorem dL_law_583 : decode cL_law 583 = .ok (.ireturn, 1) := by decide +kernel
theorem dL_law_584 : decode cL_law 584 = .ok (.aload_n 1, 1) := by decide +kernel
theorem dL_law_585 : decode cL_law 585 = .ok (.invokevirtual 84, 3) := by decide +kernel
theorem dL_law_588 : decode cL_law 588 = .ok (.aload_n 2, 1) := by decide +kernel
theorem dL_law_589 : decode cL_law 589 = .ok (.invokevirtual 87, 3) := by decide +kernel
theorem dL_law_592 : decode cL_law 592 = .ok (.if_icmp .eq 90, 3) := by decide +kernel
theorem dL_law_595 : decode cL_law 595 = .ok (.iconst 0, 1) := by decide +kernel
theorem dL_law_596 : decode cL_law 596 = .ok (.ireturn, 1) := by decide +kernel
theorem dL_law_597 : decode cL_law 597 = .ok (.aload_n 1, 1) := by decide +kernel
theorem dL_law_598 : decode cL_law 598 = .ok (.invokevirtual 88, 3) := by decide +kernel
theorem dL_law_601 : decode cL_law 601 = .ok (.aload_n 2, 1) := by decide +kernel
theorem dL_law_602 : decode cL_law 602 = .ok (.invokevirtual 91, 3) := by decide +kernel
theorem dL_law_605 : decode cL_law 605 = .ok (.if_icmp .eq 77, 3) := by decide +kernel
theorem dL_law_608 : decode cL_law 608 = .ok (.iconst 0, 1) := by decide +kernel
theorem dL_law_609 : decode cL_law 609 = .ok (.ireturn, 1) := by decide +kernel
theorem dL_law_610 : decode cL_law 610 = .ok (.aload_n 1, 1) := by decide +kernel
theorem dL_law_611 : decode cL_law 611 = .ok (.invokevirtual 92, 3) := by decide +kernel
theorem dL_law_614 : decode cL_law 614 = .ok (.aload_n 2, 1) := by decide +kernel
theorem dL_law_615 : decode cL_law 615 = .ok (.invokevirtual 95, 3) := by decide +kernel
theorem dL_law_618 : decode cL_law 618 = .ok (.if_icmp .eq 64, 3) := by decide +kernel
theorem dL_law_621 : decode cL_law 621 = .ok (.iconst 0, 1) := by decide +kernel
theorem dL_law_622 : decode cL_law 622 = .ok (.ireturn, 1) := by decide +kernel
theorem dL_law_623 : decode cL_law 623 = .ok (.aload_n 1, 1) := by decide +kernel
theorem dL_law_624 : decode cL_law 624 = .ok (.invokevirtual 96, 3) := by decide +kernel
theorem dL_law_627 : decode cL_law 627 = .ok (.aload_n 2, 1) := by decide +kernel
theorem dL_law_628 : decode cL_law 628 = .ok (.invokevirtual 99, 3) := by decide +kernel
theorem dL_law_631 : decode cL_law 631 = .ok (.if_icmp .eq 51, 3) := by decide +kernel
theorem dL_law_634 : decode cL_law 634 = .ok (.iconst 0, 1) := by decide +kernel
theorem dL_law_635 : decode cL_law 635 = .ok (.ireturn, 1) := by decide +kernel
theorem dL_law_636 : decode cL_law 636 = .ok (.aload_n 1, 1) := by decide +kernel
theorem dL_law_637 : decode cL_law 637 = .ok (.aload_n 0, 1) := by decide +kernel
theorem dL_law_638 : decode cL_law 638 = .ok (.iload_n 3, 1) := by decide +kernel
theorem dL_law_639 : decode cL_law 639 = .ok (.iconst 1, 1) := by decide +kernel
theorem dL_law_640 : decode cL_law 640 = .ok (.iadd, 1) := by decide +kernel
theorem dL_law_641 : decode cL_law 641 = .ok (.iaload, 1) := by decide +kernel
theorem dL_law_642 : decode cL_law 642 = .ok (.invokevirtual 100, 3) := by decide +kernel
theorem dL_law_645 : decode cL_law 645 = .ok (.aload_n 2, 1) := by decide +kernel
theorem dL_law_646 : decode cL_law 646 = .ok (.aload_n 0, 1) := by decide +kernel
theorem dL_law_647 : decode cL_law 647 = .ok (.iload_n 3, 1) := by decide +kernel
theorem dL_law_648 : decode cL_law 648 = .ok (.iconst 1, 1) := by decide +kernel
theorem dL_law_649 : decode cL_law 649 = .ok (.iadd, 1) := by decide +kernel
theorem dL_law_650 : decode cL_law 650 = .ok (.iaload, 1) := by decide +kernel
theorem dL_law_651 : decode cL_law 651 = .ok (.invokevirtual 103, 3) := by decide +kernel
theorem dL_law_654 : decode cL_law 654 = .ok (.if_icmp .eq 28, 3) := by decide +kernel
theorem dL_law_657 : decode cL_law 657 = .ok (.iconst 0, 1) := by decide +kernel
theorem dL_law_658 : decode cL_law 658 = .ok (.ireturn, 1) := by decide +kernel
theorem dL_law_659 : decode cL_law 659 = .ok (.aload_n 1, 1) := by decide +kernel
theorem dL_law_660 : decode cL_law 660 = .ok (.aload_n 0, 1) := by decide +kernel
theorem dL_law_661 : decode cL_law 661 = .ok (.iload_n 3, 1) := by decide +kernel
theorem dL_law_662 : decode cL_law 662 = .ok (.iconst 1, 1) := by decide +kernel
theorem dL_law_663 : decode cL_law 663 = .ok (.iadd, 1) := by decide +kernel
theorem dL_law_664 : decode cL_law 664 = .ok (.iaload, 1) := by decide +kernel
theorem dL_law_665 : decode cL_law 665 = .ok (.invokevirtual 104, 3) := by decide +kernel
theorem dL_law_668 : decode cL_law 668 = .ok (.aload_n 2, 1) := by decide +kernel
theorem dL_law_669 : decode cL_law 669 = .ok (.aload_n 0, 1) := by decide +kernel
theorem dL_law_670 : decode cL_law 670 = .ok (.iload_n 3, 1) := by decide +kernel
theorem dL_law_671 : decode cL_law 671 = .ok (.iconst 1, 1) := by decide +kernel
theorem dL_law_672 : decode cL_law 672 = .ok (.iadd, 1) := by decide +kernel
theorem dL_law_673 : decode cL_law 673 = .ok (.iaload, 1) := by decide +kernel
theorem dL_law_674 : decode cL_law 674 = .ok (.invokevirtual 107, 3) := by decide +kernel
theorem dL_law_677 : decode cL_law 677 = .ok (.if_icmp .eq 5, 3) := by decide +kernel
theorem dL_law_680 : decode cL_law 680 = .ok (.iconst 0, 1) := by decide +kernel
theorem dL_law_681 : decode cL_law 681 = .ok (.ireturn, 1) := by decide +kernel
theorem dL_law_682 : decode cL_law 682 = .ok (.iinc 3 4, 3) := by decide +kernel
theorem dL_law_685 : decode cL_law 685 = .ok (.goto (-667), 3) := by decide +kernel
theorem dL_law_688 : decode cL_law 688 = .ok (.iconst 1, 1) := by decide +kernel
theorem dL_law_689 : decode cL_law 689 = .ok (.ireturn, 1) := by decide +kernel
