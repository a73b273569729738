/-! decode rows -/
theorem dX7_roll_14 : decode cX7_roll 14 = .ok (.ireturn, 1) := by decide +kernel
theorem dX7_roll_15 : decode cX7_roll 15 = .ok (.aload_n 0, 1) := by decide +kernel
theorem dX7_roll_16 : decode cX7_roll 16 = .ok (.getfield 19, 3) := by decide +kernel
theorem dX7_roll_19 : decode cX7_roll 19 = .ok (.aload_n 0, 1) := by decide +kernel
theorem dX7_roll_20 : decode cX7_roll 20 = .ok (.getfield 10, 3) := by decide +kernel
theorem dX7_roll_23 : decode cX7_roll 23 = .ok (.invokevirtual 55, 3) := by decide +kernel
theorem dX7_roll_26 : decode cX7_roll 26 = .ok (.aload_n 0, 1) := by decide +kernel
theorem dX7_roll_27 : decode cX7_roll 27 = .ok (.getfield 10, 3) := by decide +kernel
theorem dX7_roll_30 : decode cX7_roll 30 = .ok (.iload_n 1, 1) := by decide +kernel
theorem dX7_roll_31 : decode cX7_roll 31 = .ok (.invokevirtual 92, 3) := by decide +kernel
theorem dX7_roll_34 : decode cX7_roll 34 = .ok (.ireturn, 1) := by decide +kernel
theorem dX7_tap_0 : decode cX7_tap 0 = .ok (.aload_n 0, 1) := by decide +kernel
theorem dX7_tap_1 : decode cX7_tap 1 = .ok (.getfield 10, 3) := by decide +kernel
theorem dX7_tap_4 : decode cX7_tap 4 = .ok (.iload_n 1, 1) := by decide +kernel
theorem dX7_tap_5 : decode cX7_tap 5 = .ok (.invokevirtual 95, 3) := by decide +kernel
theorem dX7_tap_8 : decode cX7_tap 8 = .ok (.istore_n 2, 1) := by decide +kernel
theorem dX7_tap_9 : decode cX7_tap 9 = .ok (.iload_n 2, 1) := by decide +kernel
theorem dX7_tap_10 : decode cX7_tap 10 = .ok (.ifCond .eq 5, 3) := by decide +kernel
theorem dX7_tap_13 : decode cX7_tap 13 = .ok (.iload_n 2, 1) := by decide +kernel
theorem dX7_tap_14 : decode cX7_tap 14 = .ok (.ireturn, 1) := by decide +kernel
theorem dX7_tap_15 : decode cX7_tap 15 = .ok (.aload_n 0, 1) := by decide +kernel
theorem dX7_tap_16 : decode cX7_tap 16 = .ok (.getfield 19, 3) := by decide +kernel
theorem dX7_tap_19 : decode cX7_tap 19 = .ok (.aload_n 0, 1) := by decide +kernel
theorem dX7_tap_20 : decode cX7_tap 20 = .ok (.getfield 10, 3) := by decide +kernel
theorem dX7_tap_23 : decode cX7_tap 23 = .ok (.invokevirtual 55, 3) := by decide +kernel
theorem dX7_tap_26 : decode cX7_tap 26 = .ok (.aload_n 0, 1) := by decide +kernel
theorem dX7_tap_27 : decode cX7_tap 27 = .ok (.getfield 10, 3) := by decide +kernel
theorem dX7_tap_30 : decode cX7_tap 30 = .ok (.iload_n 1, 1) := by decide +kernel
theorem dX7_tap_31 : decode cX7_tap 31 = .ok (.invokevirtual 98, 3) := by decide +kernel
theorem dX7_tap_34 : decode cX7_tap 34 = .ok (.ireturn, 1) := by decide +kernel
theorem dX7_push_0 : decode cX7_push 0 = .ok (.aload_n 0, 1) := by decide +kernel
theorem dX7_push_1 : decode cX7_push 1 = .ok (.getfield 10, 3) := by decide +kernel
theorem dX7_push_4 : decode cX7_push 4 = .ok (.invokevirtual 101, 3) := by decide +kernel
theorem dX7_push_7 : decode cX7_push 7 = .ok (.istore_n 1, 1) := by decide +kernel
theorem dX7_push_8 : decode cX7_push 8 = .ok (.iload_n 1, 1) := by decide +kernel
theorem dX7_push_9 : decode cX7_push 9 = .ok (.ifCond .eq 5, 3) := by decide +kernel
theorem dX7_push_12 : decode cX7_push 12 = .ok (.iload_n 1, 1) := by decide +kernel
theorem dX7_push_13 : decode cX7_push 13 = .ok (.ireturn, 1) := by decide +kernel
theorem dX7_push_14 : decode cX7_push 14 = .ok (.aload_n 0, 1) := by decide +kernel
theorem dX7_push_15 : decode cX7_push 15 = .ok (.getfield 19, 3) := by decide +kernel
theorem dX7_push_18 : decode cX7_push 18 = .ok (.aload_n 0, 1) := by decide +kernel
theorem dX7_push_19 : decode cX7_push 19 = .ok (.getfield 10, 3) := by decide +kernel
theorem dX7_push_22 : decode cX7_push 22 = .ok (.invokevirtual 55, 3) := by decide +kernel
theorem dX7_push_25 : decode cX7_push 25 = .ok (.aload_n 0, 1) := by decide +kernel
theorem dX7_push_26 : decode cX7_push 26 = .ok (.getfield 10, 3) := by decide +kernel
theorem dX7_push_29 : decode cX7_push 29 = .ok (.invokevirtual 105, 3) := by decide +kernel
theorem dX7_push_32 : decode cX7_push 32 = .ok (.ireturn, 1) := by decide +kernel
theorem dX7_of_0 : decode cX7_of 0 = .ok (.aload_n 0, 1) := by decide +kernel
theorem dX7_of_1 : decode cX7_of 1 = .ok (.getfield 10, 3) := by decide +kernel
theorem dX7_of_4 : decode cX7_of 4 = .ok (.getfield 70, 3) := by decide +kernel
theorem dX7_of_7 : decode cX7_of 7 = .ok (.iload_n 1, 1) := by decide +kernel
theorem dX7_of_8 : decode cX7_of 8 = .ok (.invokevirtual 74, 3) := by decide +kernel
theorem dX7_of_11 : decode cX7_of 11 = .ok (.ifCond .ne 5, 3) := by decide +kernel
theorem dX7_of_14 : decode cX7_of 14 = .ok (.iconst (-1), 1) := by decide +kernel
theorem dX7_of_15 : decode cX7_of 15 = .ok (.ireturn, 1) := by decide +kernel
theorem dX7_of_16 : decode cX7_of 16 = .ok (.iload_n 2, 1) := by decide +kernel
theorem dX7_of_17 : decode cX7_of 17 = .ok (.ifCond .lt 8, 3) := by decide +kernel
theorem dX7_of_20 : decode cX7_of 20 = .ok (.iload_n 2, 1) := by decide +kernel
theorem dX7_of_21 : decode cX7_of 21 = .ok (.iconst 5, 1) := by decide +kernel
theorem dX7_of_22 : decode cX7_of 22 = .ok (.if_icmp .lt 6, 3) := by decide +kernel
theorem dX7_of_25 : decode cX7_of 25 = .ok (.bipush (-2), 2) := by decide +kernel
theorem dX7_of_27 : decode cX7_of 27 = .ok (.ireturn, 1) := by decide +kernel
theorem dX7_of_28 : decode cX7_of 28 = .ok (.aload_n 0, 1) := by decide +kernel
theorem dX7_of_29 : decode cX7_of 29 = .ok (.getfield 10, 3) := by decide +kernel
theorem dX7_of_32 : decode cX7_of 32 = .ok (.getfield 70, 3) := by decide +kernel
theorem dX7_of_35 : decode cX7_of 35 = .ok (.iload_n 1, 1) := by decide +kernel
theorem dX7_of_36 : decode cX7_of 36 = .ok (.iload_n 2, 1) := by decide +kernel
theorem dX7_of_37 : decode cX7_of 37 = .ok (.invokevirtual 108, 3) := by decide +kernel
theorem dX7_of_40 : decode cX7_of 40 = .ok (.ireturn, 1) := by decide +kernel
theorem dX7_ofHoop_0 : decode cX7_ofHoop 0 = .ok (.iload_n 1, 1) := by decide +kernel
theorem dX7_ofHoop_1 : decode cX7_ofHoop 1 = .ok (.ifCond .lt 9, 3) := by decide +kernel
theorem dX7_ofHoop_4 : decode cX7_ofHoop 4 = .ok (.iload_n 1, 1) := by decide +kernel
theorem dX7_ofHoop_5 : decode cX7_ofHoop 5 = .ok (.bipush 7, 2) := by decide +kernel
theorem dX7_ofHoop_7 : decode cX7_ofHoop 7 = .ok (.if_icmp .le 6, 3) := by decide +kernel
theorem dX7_ofHoop_10 : decode cX7_ofHoop 10 = .ok (.bipush (-2), 2) := by decide +kernel
theorem dX7_ofHoop_12 : decode cX7_ofHoop 12 = .ok (.ireturn, 1) := by decide +kernel
theorem dX7_ofHoop_13 : decode cX7_ofHoop 13 = .ok (.aload_n 0, 1) := by decide +kernel
theorem dX7_ofHoop_14 : decode cX7_ofHoop 14 = .ok (.getfield 10, 3) := by decide +kernel
theorem dX7_ofHoop_17 : decode cX7_ofHoop 17 = .ok (.getfield 111, 3) := by decide +kernel
theorem dX7_ofHoop_20 : decode cX7_ofHoop 20 = .ok (.getfield 114, 3) := by decide +kernel
theorem dX7_ofHoop_23 : decode cX7_ofHoop 23 = .ok (.ifCond .ne 6, 3) := by decide +kernel
theorem dX7_ofHoop_26 : decode cX7_ofHoop 26 = .ok (.bipush (-6), 2) := by decide +kernel
theorem dX7_ofHoop_28 : decode cX7_ofHoop 28 = .ok (.ireturn, 1) := by decide +kernel
theorem dX7_ofHoop_29 : decode cX7_ofHoop 29 = .ok (.aload_n 0, 1) := by decide +kernel
theorem dX7_ofHoop_30 : decode cX7_ofHoop 30 = .ok (.getfield 10, 3) := by decide +kernel
theorem dX7_ofHoop_33 : decode cX7_ofHoop 33 = .ok (.getfield 111, 3) := by decide +kernel
theorem dX7_ofHoop_36 : decode cX7_ofHoop 36 = .ok (.iload_n 1, 1) := by decide +kernel
theorem dX7_ofHoop_37 : decode cX7_ofHoop 37 = .ok (.invokestatic 118, 3) := by decide +kernel
theorem dX7_ofHoop_40 : decode cX7_ofHoop 40 = .ok (.ireturn, 1) := by decide +kernel
theorem dX7_run_0 : decode cX7_run 0 = .ok (.aload_n 0, 1) := by decide +kernel
theorem dX7_run_1 : decode cX7_run 1 = .ok (.getfield 10, 3) := by decide +kernel
theorem dX7_run_4 : decode cX7_run 4 = .ok (.getfield 122, 3) := by decide +kernel
theorem dX7_run_7 : decode cX7_run 7 = .ok (.iload_n 1, 1) := by decide +kernel
theorem dX7_run_8 : decode cX7_run 8 = .ok (.invokevirtual 126, 3) := by decide +kernel
theorem dX7_run_11 : decode cX7_run 11 = .ok (.ifCond .ne 5, 3) := by decide +kernel
theorem dX7_run_14 : decode cX7_run 14 = .ok (.iconst (-1), 1) := by decide +kernel
theorem dX7_run_15 : decode cX7_run 15 = .ok (.ireturn, 1) := by decide +kernel
theorem dX7_run_16 : decode cX7_run 16 = .ok (.iload_n 2, 1) := by decide +kernel
theorem dX7_run_17 : decode cX7_run 17 = .ok (.ifCond .lt 8, 3) := by decide +kernel
theorem dX7_run_20 : decode cX7_run 20 = .ok (.iload_n 2, 1) := by decide +kernel
theorem dX7_run_21 : decode cX7_run 21 = .ok (.iconst 4, 1) := by decide +kernel
theorem dX7_run_22 : decode cX7_run 22 = .ok (.if_icmp .lt 6, 3) := by decide +kernel
theorem dX7_run_25 : decode cX7_run 25 = .ok (.bipush (-2), 2) := by decide +kernel
theorem dX7_run_27 : decode cX7_run 27 = .ok (.ireturn, 1) := by decide +kernel
theorem dX7_run_28 : decode cX7_run 28 = .ok (.aload_n 0, 1) := by decide +kernel
theorem dX7_run_29 : decode cX7_run 29 = .ok (.getfield 10, 3) := by decide +kernel
theorem dX7_run_32 : decode cX7_run 32 = .ok (.getfield 122, 3) := by decide +kernel
theorem dX7_run_35 : decode cX7_run 35 = .ok (.iload_n 1, 1) := by decide +kernel
theorem dX7_run_36 : decode cX7_run 36 = .ok (.iload_n 2, 1) := by decide +kernel
theorem dX7_run_37 : decode cX7_run 37 = .ok (.invokevirtual 129, 3) := by decide +kernel
theorem dX7_run_40 : decode cX7_run 40 = .ok (.ireturn, 1) := by decide +kernel
theorem dX7_count_0 : decode cX7_count 0 = .ok (.iload_n 1, 1) := by decide +kernel
theorem dX7_count_1 : decode cX7_count 1 = .ok (.ifCond .lt 9, 3) := by decide +kernel
theorem dX7_count_4 : decode cX7_count 4 = .ok (.iload_n 1, 1) := by decide +kernel
theorem dX7_count_5 : decode cX7_count 5 = .ok (.bipush 15, 2) := by decide +kernel
theorem dX7_count_7 : decode cX7_count 7 = .ok (.if_icmp .le 6, 3) := by decide +kernel
theorem dX7_count_10 : decode cX7_count 10 = .ok (.bipush (-2), 2) := by decide +kernel
theorem dX7_count_12 : decode cX7_count 12 = .ok (.ireturn, 1) := by decide +kernel
theorem dX7_count_13 : decode cX7_count 13 = .ok (.iload_n 1, 1) := by decide +kernel
theorem dX7_count_14 : decode cX7_count 14 = .ok (.bipush 14, 2) := by decide +kernel
theorem dX7_count_16 : decode cX7_count 16 = .ok (.if_icmp .ne 11, 3) := by decide +kernel
theorem dX7_count_19 : decode cX7_count 19 = .ok (.aload_n 0, 1) := by decide +kernel
theorem dX7_count_20 : decode cX7_count 20 = .ok (.getfield 34, 3) := by decide +kernel
theorem dX7_count_23 : decode cX7_count 23 = .ok (.getfield 130, 3) := by decide +kernel
theorem dX7_count_26 : decode cX7_count 26 = .ok (.ireturn, 1) := by decide +kernel
theorem dX7_count_27 : decode cX7_count 27 = .ok (.iload_n 1, 1) := by decide +kernel
theorem dX7_count_28 : decode cX7_count 28 = .ok (.bipush 15, 2) := by decide +kernel
theorem dX7_count_30 : decode cX7_count 30 = .ok (.if_icmp .ne 11, 3) := by decide +kernel
theorem dX7_count_33 : decode cX7_count 33 = .ok (.aload_n 0, 1) := by decide +kernel
theorem dX7_count_34 : decode cX7_count 34 = .ok (.getfield 19, 3) := by decide +kernel
theorem dX7_count_37 : decode cX7_count 37 = .ok (.getfield 134, 3) := by decide +kernel
theorem dX7_count_40 : decode cX7_count 40 = .ok (.ireturn, 1) := by decide +kernel
theorem dX7_count_41 : decode cX7_count 41 = .ok (.iload_n 1, 1) := by decide +kernel
theorem dX7_count_42 : decode cX7_count 42 = .ok (.bipush 10, 2) := by decide +kernel
theorem dX7_count_44 : decode cX7_count 44 = .ok (.if_icmp .lt 18, 3) := by decide +kernel
theorem dX7_count_47 : decode cX7_count 47 = .ok (.aload_n 0, 1) := by decide +kernel
theorem dX7_count_48 : decode cX7_count 48 = .ok (.getfield 10, 3) := by decide +kernel
theorem dX7_count_51 : decode cX7_count 51 = .ok (.getfield 45, 3) := by decide +kernel
theorem dX7_count_54 : decode cX7_count 54 = .ok (.iload_n 1, 1) := by decide +kernel
theorem dX7_count_55 : decode cX7_count 55 = .ok (.bipush 10, 2) := by decide +kernel
theorem dX7_count_57 : decode cX7_count 57 = .ok (.isub, 1) := by decide +kernel
theorem dX7_count_58 : decode cX7_count 58 = .ok (.invokevirtual 135, 3) := by decide +kernel
theorem dX7_count_61 : decode cX7_count 61 = .ok (.ireturn, 1) := by decide +kernel
theorem dX7_count_62 : decode cX7_count 62 = .ok (.aload_n 0, 1) := by decide +kernel
theorem dX7_count_63 : decode cX7_count 63 = .ok (.getfield 10, 3) := by decide +kernel
theorem dX7_count_66 : decode cX7_count 66 = .ok (.iload_n 1, 1) := by decide +kernel
theorem dX7_count_67 : decode cX7_count 67 = .ok (.invokevirtual 138, 3) := by decide +kernel
theorem dX7_count_70 : decode cX7_count 70 = .ok (.ireturn, 1) := by decide +kernel
theorem dX7_aboutHoop_0 : decode cX7_aboutHoop 0 = .ok (.iload_n 1, 1) := by decide +kernel
theorem dX7_aboutHoop_1 : decode cX7_aboutHoop 1 = .ok (.tableswitch 82 0 6 #[43, 48, 53, 62, 67, 72, 77], 43) := by decide +kernel
theorem dX7_aboutHoop_44 : decode cX7_aboutHoop 44 = .ok (.aload_n 0, 1) := by decide +kernel
theorem dX7_aboutHoop_45 : decode cX7_aboutHoop 45 = .ok (.getfield 141, 3) := by decide +kernel
theorem dX7_aboutHoop_48 : decode cX7_aboutHoop 48 = .ok (.ireturn, 1) := by decide +kernel
theorem dX7_aboutHoop_49 : decode cX7_aboutHoop 49 = .ok (.aload_n 0, 1) := by decide +kernel
theorem dX7_aboutHoop_50 : decode cX7_aboutHoop 50 = .ok (.getfield 144, 3) := by decide +kernel
theorem dX7_aboutHoop_53 : decode cX7_aboutHoop 53 = .ok (.ireturn, 1) := by decide +kernel
theorem dX7_aboutHoop_54 : decode cX7_aboutHoop 54 = .ok (.aload_n 0, 1) := by decide +kernel
theorem dX7_aboutHoop_55 : decode cX7_aboutHoop 55 = .ok (.getfield 147, 3) := by decide +kernel
theorem dX7_aboutHoop_58 : decode cX7_aboutHoop 58 = .ok (.sipush 500, 3) := by decide +kernel
theorem dX7_aboutHoop_61 : decode cX7_aboutHoop 61 = .ok (.iadd, 1) := by decide +kernel
theorem dX7_aboutHoop_62 : decode cX7_aboutHoop 62 = .ok (.ireturn, 1) := by decide +kernel
theorem dX7_aboutHoop_63 : decode cX7_aboutHoop 63 = .ok (.aload_n 0, 1) := by decide +kernel
theorem dX7_aboutHoop_64 : decode cX7_aboutHoop 64 = .ok (.getfield 150, 3) := by decide +kernel
theorem dX7_aboutHoop_67 : decode cX7_aboutHoop 67 = .ok (.ireturn, 1) := by decide +kernel
theorem dX7_aboutHoop_68 : decode cX7_aboutHoop 68 = .ok (.aload_n 0, 1) := by decide +kernel
theorem dX7_aboutHoop_69 : decode cX7_aboutHoop 69 = .ok (.getfield 153, 3) := by decide +kernel
theorem dX7_aboutHoop_72 : decode cX7_aboutHoop 72 = .ok (.ireturn, 1) := by decide +kernel
theorem dX7_aboutHoop_73 : decode cX7_aboutHoop 73 = .ok (.aload_n 0, 1) := by decide +kernel
theorem dX7_aboutHoop_74 : decode cX7_aboutHoop 74 = .ok (.getfield 156, 3) := by decide +kernel
theorem dX7_aboutHoop_77 : decode cX7_aboutHoop 77 = .ok (.ireturn, 1) := by decide +kernel
theorem dX7_aboutHoop_78 : decode cX7_aboutHoop 78 = .ok (.aload_n 0, 1) := by decide +kernel
theorem dX7_aboutHoop_79 : decode cX7_aboutHoop 79 = .ok (.getfield 159, 3) := by decide +kernel
theorem dX7_aboutHoop_82 : decode cX7_aboutHoop 82 = .ok (.ireturn, 1) := by decide +kernel
theorem dX7_aboutHoop_83 : decode cX7_aboutHoop 83 = .ok (.aload_n 0, 1) := by decide +kernel
theorem dX7_aboutHoop_84 : decode cX7_aboutHoop 84 = .ok (.getfield 162, 3) := by decide +kernel
theorem dX7_aboutHoop_87 : decode cX7_aboutHoop 87 = .ok (.ireturn, 1) := by decide +kernel
theorem dX7_ifRolled_0 : decode cX7_ifRolled 0 = .ok (.iload_n 1, 1) := by decide +kernel
theorem dX7_ifRolled_1 : decode cX7_ifRolled 1 = .ok (.ifCond .lt 8, 3) := by decide +kernel
theorem dX7_ifRolled_4 : decode cX7_ifRolled 4 = .ok (.iload_n 1, 1) := by decide +kernel
theorem dX7_ifRolled_5 : decode cX7_ifRolled 5 = .ok (.iconst 3, 1) := by decide +kernel
theorem dX7_ifRolled_6 : decode cX7_ifRolled 6 = .ok (.if_icmp .le 6, 3) := by decide +kernel
theorem dX7_ifRolled_9 : decode cX7_ifRolled 9 = .ok (.bipush (-2), 2) := by decide +kernel
theorem dX7_ifRolled_11 : decode cX7_ifRolled 11 = .ok (.ireturn, 1) := by decide +kernel
theorem dX7_ifRolled_12 : decode cX7_ifRolled 12 = .ok (.aload_n 0, 1) := by decide +kernel
theorem dX7_ifRolled_13 : decode cX7_ifRolled 13 = .ok (.getfield 10, 3) := by decide +kernel
theorem dX7_ifRolled_16 : decode cX7_ifRolled 16 = .ok (.getfield 111, 3) := by decide +kernel
theorem dX7_ifRolled_19 : decode cX7_ifRolled 19 = .ok (.invokevirtual 165, 3) := by decide +kernel
theorem dX7_ifRolled_22 : decode cX7_ifRolled 22 = .ok (.ifCond .ne 6, 3) := by decide +kernel
theorem dX7_ifRolled_25 : decode cX7_ifRolled 25 = .ok (.bipush (-5), 2) := by decide +kernel
theorem dX7_ifRolled_27 : decode cX7_ifRolled 27 = .ok (.ireturn, 1) := by decide +kernel
theorem dX7_ifRolled_28 : decode cX7_ifRolled 28 = .ok (.aload_n 0, 1) := by decide +kernel
theorem dX7_ifRolled_29 : decode cX7_ifRolled 29 = .ok (.getfield 41, 3) := by decide +kernel
theorem dX7_ifRolled_32 : decode cX7_ifRolled 32 = .ok (.aload_n 0, 1) := by decide +kernel
theorem dX7_ifRolled_33 : decode cX7_ifRolled 33 = .ok (.getfield 10, 3) := by decide +kernel
theorem dX7_ifRolled_36 : decode cX7_ifRolled 36 = .ok (.getfield 111, 3) := by decide +kernel
theorem dX7_ifRolled_39 : decode cX7_ifRolled 39 = .ok (.invokevirtual 169, 3) := by decide +kernel
theorem dX7_ifRolled_42 : decode cX7_ifRolled 42 = .ok (.aload_n 0, 1) := by decide +kernel
theorem dX7_ifRolled_43 : decode cX7_ifRolled 43 = .ok (.getfield 41, 3) := by decide +kernel
theorem dX7_ifRolled_46 : decode cX7_ifRolled 46 = .ok (.iconst 0, 1) := by decide +kernel
theorem dX7_ifRolled_47 : decode cX7_ifRolled 47 = .ok (.putfield 173, 3) := by decide +kernel
theorem dX7_ifRolled_50 : decode cX7_ifRolled 50 = .ok (.aload_n 0, 1) := by decide +kernel
theorem dX7_ifRolled_51 : decode cX7_ifRolled 51 = .ok (.getfield 41, 3) := by decide +kernel
theorem dX7_ifRolled_54 : decode cX7_ifRolled 54 = .ok (.bipush 20, 2) := by decide +kernel
theorem dX7_ifRolled_56 : decode cX7_ifRolled 56 = .ok (.aload_n 0, 1) := by decide +kernel
theorem dX7_ifRolled_57 : decode cX7_ifRolled 57 = .ok (.getfield 10, 3) := by decide +kernel
theorem dX7_ifRolled_60 : decode cX7_ifRolled 60 = .ok (.getfield 70, 3) := by decide +kernel
theorem dX7_ifRolled_63 : decode cX7_ifRolled 63 = .ok (.aload_n 0, 1) := by decide +kernel
theorem dX7_ifRolled_64 : decode cX7_ifRolled 64 = .ok (.getfield 10, 3) := by decide +kernel
theorem dX7_ifRolled_67 : decode cX7_ifRolled 67 = .ok (.getfield 45, 3) := by decide +kernel
theorem dX7_ifRolled_70 : decode cX7_ifRolled 70 = .ok (.invokevirtual 176, 3) := by decide +kernel
theorem dX7_ifRolled_73 : decode cX7_ifRolled 73 = .ok (.iload_n 1, 1) := by decide +kernel
theorem dX7_ifRolled_74 : decode cX7_ifRolled 74 = .ok (.tableswitch 50 0 2 #[26, 34, 42], 26) := by decide +kernel
theorem dX7_ifRolled_100 : decode cX7_ifRolled 100 = .ok (.aload_n 0, 1) := by decide +kernel
theorem dX7_ifRolled_101 : decode cX7_ifRolled 101 = .ok (.getfield 41, 3) := by decide +kernel
theorem dX7_ifRolled_104 : decode cX7_ifRolled 104 = .ok (.getfield 156, 3) := by decide +kernel
theorem dX7_ifRolled_107 : decode cX7_ifRolled 107 = .ok (.ireturn, 1) := by decide +kernel
theorem dX7_ifRolled_108 : decode cX7_ifRolled 108 = .ok (.aload_n 0, 1) := by decide +kernel
theorem dX7_ifRolled_109 : decode cX7_ifRolled 109 = .ok (.getfield 41, 3) := by decide +kernel
theorem dX7_ifRolled_112 : decode cX7_ifRolled 112 = .ok (.getfield 153, 3) := by decide +kernel
theorem dX7_ifRolled_115 : decode cX7_ifRolled 115 = .ok (.ireturn, 1) := by decide +kernel
theorem dX7_ifRolled_116 : decode cX7_ifRolled 116 = .ok (.aload_n 0, 1) := by decide +kernel
theorem dX7_ifRolled_117 : decode cX7_ifRolled 117 = .ok (.getfield 41, 3) := by decide +kernel
theorem dX7_ifRolled_120 : decode cX7_ifRolled 120 = .ok (.getfield 144, 3) := by decide +kernel
theorem dX7_ifRolled_123 : decode cX7_ifRolled 123 = .ok (.ireturn, 1) := by decide +kernel
theorem dX7_ifRolled_124 : decode cX7_ifRolled 124 = .ok (.aload_n 0, 1) := by decide +kernel
theorem dX7_ifRolled_125 : decode cX7_ifRolled 125 = .ok (.getfield 41, 3) := by decide +kernel
theorem dX7_ifRolled_128 : decode cX7_ifRolled 128 = .ok (.getfield 173, 3) := by decide +kernel
theorem dX7_ifRolled_131 : decode cX7_ifRolled 131 = .ok (.ireturn, 1) := by decide +kernel
theorem dX7_widest_0 : decode cX7_widest 0 = .ok (.bipush 60, 2) := by decide +kernel
theorem dX7_widest_2 : decode cX7_widest 2 = .ok (.istore_n 1, 1) := by decide +kernel
theorem dX7_widest_3 : decode cX7_widest 3 = .ok (.iload_n 1, 1) := by decide +kernel
theorem dX7_widest_4 : decode cX7_widest 4 = .ok (.iconst 1, 1) := by decide +kernel
theorem dX7_widest_5 : decode cX7_widest 5 = .ok (.if_icmp .lt 53, 3) := by decide +kernel
theorem dX7_widest_8 : decode cX7_widest 8 = .ok (.aload_n 0, 1) := by decide +kernel
theorem dX7_widest_9 : decode cX7_widest 9 = .ok (.getfield 41, 3) := by decide +kernel
theorem dX7_widest_12 : decode cX7_widest 12 = .ok (.iload_n 1, 1) := by decide +kernel
theorem dX7_widest_13 : decode cX7_widest 13 = .ok (.invokevirtual 179, 3) := by decide +kernel
theorem dX7_widest_16 : decode cX7_widest 16 = .ok (.aload_n 0, 1) := by decide +kernel
theorem dX7_widest_17 : decode cX7_widest 17 = .ok (.getfield 41, 3) := by decide +kernel
theorem dX7_widest_20 : decode cX7_widest 20 = .ok (.bipush 20, 2) := by decide +kernel
theorem dX7_widest_22 : decode cX7_widest 22 = .ok (.aload_n 0, 1) := by decide +kernel
theorem dX7_widest_23 : decode cX7_widest 23 = .ok (.getfield 10, 3) := by decide +kernel
theorem dX7_widest_26 : decode cX7_widest 26 = .ok (.getfield 70, 3) := by decide +kernel
theorem dX7_widest_29 : decode cX7_widest 29 = .ok (.aload_n 0, 1) := by decide +kernel
theorem dX7_widest_30 : decode cX7_widest 30 = .ok (.getfield 10, 3) := by decide +kernel
theorem dX7_widest_33 : decode cX7_widest 33 = .ok (.getfield 45, 3) := by decide +kernel
theorem dX7_widest_36 : decode cX7_widest 36 = .ok (.invokevirtual 176, 3) := by decide +kernel
theorem dX7_widest_39 : decode cX7_widest 39 = .ok (.aload_n 0, 1) := by decide +kernel
theorem dX7_widest_40 : decode cX7_widest 40 = .ok (.getfield 41, 3) := by decide +kernel
theorem dX7_widest_43 : decode cX7_widest 43 = .ok (.getfield 156, 3) := by decide +kernel
theorem dX7_widest_46 : decode cX7_widest 46 = .ok (.iconst 4, 1) := by decide +kernel
theorem dX7_widest_47 : decode cX7_widest 47 = .ok (.if_icmp .ne 5, 3) := by decide +kernel
theorem dX7_widest_50 : decode cX7_widest 50 = .ok (.iload_n 1, 1) := by decide +kernel
theorem dX7_widest_51 : decode cX7_widest 51 = .ok (.ireturn, 1) := by decide +kernel
theorem dX7_widest_52 : decode cX7_widest 52 = .ok (.iinc 1 (-1), 3) := by decide +kernel
theorem dX7_widest_55 : decode cX7_widest 55 = .ok (.goto (-52), 3) := by decide +kernel
theorem dX7_widest_58 : decode cX7_widest 58 = .ok (.bipush (-6), 2) := by decide +kernel
theorem dX7_widest_60 : decode cX7_widest 60 = .ok (.ireturn, 1) := by decide +kernel
theorem dX7_saves_0 : decode cX7_saves 0 = .ok (.aload_n 0, 1) := by decide +kernel
theorem dX7_saves_1 : decode cX7_saves 1 = .ok (.getfield 10, 3) := by decide +kernel
theorem dX7_saves_4 : decode cX7_saves 4 = .ok (.iload_n 1, 1) := by decide +kernel
theorem dX7_saves_5 : decode cX7_saves 5 = .ok (.invokevirtual 95, 3) := by decide +kernel
theorem dX7_saves_8 : decode cX7_saves 8 = .ok (.istore_n 2, 1) := by decide +kernel
theorem dX7_saves_9 : decode cX7_saves 9 = .ok (.iload_n 2, 1) := by decide +kernel
theorem dX7_saves_10 : decode cX7_saves 10 = .ok (.ifCond .eq 5, 3) := by decide +kernel
theorem dX7_saves_13 : decode cX7_saves 13 = .ok (.iload_n 2, 1) := by decide +kernel
theorem dX7_saves_14 : decode cX7_saves 14 = .ok (.ireturn, 1) := by decide +kernel
theorem dX7_saves_15 : decode cX7_saves 15 = .ok (.iconst 0, 1) := by decide +kernel
theorem dX7_saves_16 : decode cX7_saves 16 = .ok (.istore_n 3, 1) := by decide +kernel
theorem dX7_saves_17 : decode cX7_saves 17 = .ok (.iload_n 3, 1) := by decide +kernel
theorem dX7_saves_18 : decode cX7_saves 18 = .ok (.bipush 20, 2) := by decide +kernel
theorem dX7_saves_20 : decode cX7_saves 20 = .ok (.if_icmp .gt 20, 3) := by decide +kernel
theorem dX7_saves_23 : decode cX7_saves 23 = .ok (.aload_n 0, 1) := by decide +kernel
theorem dX7_saves_24 : decode cX7_saves 24 = .ok (.iload_n 3, 1) := by decide +kernel
theorem dX7_saves_25 : decode cX7_saves 25 = .ok (.iload_n 1, 1) := by decide +kernel
theorem dX7_saves_26 : decode cX7_saves 26 = .ok (.invokevirtual 183, 3) := by decide +kernel
theorem dX7_saves_29 : decode cX7_saves 29 = .ok (.ifCond .eq 5, 3) := by decide +kernel
theorem dX7_saves_32 : decode cX7_saves 32 = .ok (.iload_n 3, 1) := by decide +kernel
theorem dX7_saves_33 : decode cX7_saves 33 = .ok (.ireturn, 1) := by decide +kernel
theorem dX7_saves_34 : decode cX7_saves 34 = .ok (.iinc 3 1, 3) := by decide +kernel
theorem dX7_saves_37 : decode cX7_saves 37 = .ok (.goto (-20), 3) := by decide +kernel
theorem dX7_saves_40 : decode cX7_saves 40 = .ok (.bipush (-6), 2) := by decide +kernel
theorem dX7_saves_42 : decode cX7_saves 42 = .ok (.ireturn, 1) := by decide +kernel
theorem dX7_passesAfterTaps_0 : decode cX7_passesAfterTaps 0 = .ok (.aload_n 0, 1) := by decide +kernel
theorem dX7_passesAfterTaps_1 : decode cX7_passesAfterTaps 1 = .ok (.getfield 41, 3) := by decide +kernel
theorem dX7_passesAfterTaps_4 : decode cX7_passesAfterTaps 4 = .ok (.aload_n 0, 1) := by decide +kernel
theorem dX7_passesAfterTaps_5 : decode cX7_passesAfterTaps 5 = .ok (.getfield 10, 3) := by decide +kernel
theorem dX7_passesAfterTaps_8 : decode cX7_passesAfterTaps 8 = .ok (.getfield 111, 3) := by decide +kernel
theorem dX7_passesAfterTaps_11 : decode cX7_passesAfterTaps 11 = .ok (.invokevirtual 169, 3) := by decide +kernel
theorem dX7_passesAfterTaps_14 : decode cX7_passesAfterTaps 14 = .ok (.iconst 0, 1) := by decide +kernel
theorem dX7_passesAfterTaps_15 : decode cX7_passesAfterTaps 15 = .ok (.istore_n 3, 1) := by decide +kernel
theorem dX7_passesAfterTaps_16 : decode cX7_passesAfterTaps 16 = .ok (.iload_n 3, 1) := by decide +kernel
theorem dX7_passesAfterTaps_17 : decode cX7_passesAfterTaps 17 = .ok (.iload_n 1, 1) := by decide +kernel
theorem dX7_passesAfterTaps_18 : decode cX7_passesAfterTaps 18 = .ok (.if_icmp .ge 28, 3) := by decide +kernel
theorem dX7_passesAfterTaps_21 : decode cX7_passesAfterTaps 21 = .ok (.aload_n 0, 1) := by decide +kernel
theorem dX7_passesAfterTaps_22 : decode cX7_passesAfterTaps 22 = .ok (.getfield 41, 3) := by decide +kernel
theorem dX7_passesAfterTaps_25 : decode cX7_passesAfterTaps 25 = .ok (.iload_n 2, 1) := by decide +kernel
theorem dX7_passesAfterTaps_26 : decode cX7_passesAfterTaps 26 = .ok (.aload_n 0, 1) := by decide +kernel
theorem dX7_passesAfterTaps_27 : decode cX7_passesAfterTaps 27 = .ok (.getfield 10, 3) := by decide +kernel
theorem dX7_passesAfterTaps_30 : decode cX7_passesAfterTaps 30 = .ok (.getfield 45, 3) := by decide +kernel
theorem dX7_passesAfterTaps_33 : decode cX7_passesAfterTaps 33 = .ok (.iconst 3, 1) := by decide +kernel
theorem dX7_passesAfterTaps_34 : decode cX7_passesAfterTaps 34 = .ok (.invokevirtual 135, 3) := by decide +kernel
theorem dX7_passesAfterTaps_37 : decode cX7_passesAfterTaps 37 = .ok (.invokevirtual 186, 3) := by decide +kernel
theorem dX7_passesAfterTaps_40 : decode cX7_passesAfterTaps 40 = .ok (.iinc 3 1, 3) := by decide +kernel
theorem dX7_passesAfterTaps_43 : decode cX7_passesAfterTaps 43 = .ok (.goto (-27), 3) := by decide +kernel
theorem dX7_passesAfterTaps_46 : decode cX7_passesAfterTaps 46 = .ok (.aload_n 0, 1) := by decide +kernel
theorem dX7_passesAfterTaps_47 : decode cX7_passesAfterTaps 47 = .ok (.getfield 41, 3) := by decide +kernel
theorem dX7_passesAfterTaps_50 : decode cX7_passesAfterTaps 50 = .ok (.bipush 20, 2) := by decide +kernel
theorem dX7_passesAfterTaps_52 : decode cX7_passesAfterTaps 52 = .ok (.aload_n 0, 1) := by decide +kernel
theorem dX7_passesAfterTaps_53 : decode cX7_passesAfterTaps 53 = .ok (.getfield 10, 3) := by decide +kernel
theorem dX7_passesAfterTaps_56 : decode cX7_passesAfterTaps 56 = .ok (.getfield 70, 3) := by decide +kernel
theorem dX7_passesAfterTaps_59 : decode cX7_passesAfterTaps 59 = .ok (.aload_n 0, 1) := by decide +kernel
theorem dX7_passesAfterTaps_60 : decode cX7_passesAfterTaps 60 = .ok (.getfield 10, 3) := by decide +kernel
theorem dX7_passesAfterTaps_63 : decode cX7_passesAfterTaps 63 = .ok (.getfield 45, 3) := by decide +kernel
theorem dX7_passesAfterTaps_66 : decode cX7_passesAfterTaps 66 = .ok (.invokevirtual 176, 3) := by decide +kernel
theorem dX7_passesAfterTaps_69 : decode cX7_passesAfterTaps 69 = .ok (.aload_n 0, 1) := by decide +kernel
theorem dX7_passesAfterTaps_70 : decode cX7_passesAfterTaps 70 = .ok (.getfield 41, 3) := by decide +kernel
theorem dX7_passesAfterTaps_73 : decode cX7_passesAfterTaps 73 = .ok (.getfield 156, 3) := by decide +kernel
theorem dX7_passesAfterTaps_76 : decode cX7_passesAfterTaps 76 = .ok (.iconst 4, 1) := by decide +kernel
theorem dX7_passesAfterTaps_77 : decode cX7_passesAfterTaps 77 = .ok (.if_icmp .ne 7, 3) := by decide +kernel
theorem dX7_passesAfterTaps_80 : decode cX7_passesAfterTaps 80 = .ok (.iconst 1, 1) := by decide +kernel
theorem dX7_passesAfterTaps_81 : decode cX7_passesAfterTaps 81 = .ok (.goto 4, 3) := by decide +kernel
theorem dX7_passesAfterTaps_84 : decode cX7_passesAfterTaps 84 = .ok (.iconst 0, 1) := by decide +kernel
theorem dX7_passesAfterTaps_85 : decode cX7_passesAfterTaps 85 = .ok (.ireturn, 1) := by decide +kernel
theorem dX7_traced_0 : decode cX7_traced 0 = .ok (.aload_n 0, 1) := by decide +kernel
theorem dX7_traced_1 : decode cX7_traced 1 = .ok (.getfield 10, 3) := by decide +kernel
theorem dX7_traced_4 : decode cX7_traced 4 = .ok (.getfield 70, 3) := by decide +kernel
theorem dX7_traced_7 : decode cX7_traced 7 = .ok (.iload_n 2, 1) := by decide +kernel
theorem dX7_traced_8 : decode cX7_traced 8 = .ok (.invokevirtual 74, 3) := by decide +kernel
theorem dX7_traced_11 : decode cX7_traced 11 = .ok (.ifCond .ne 5, 3) := by decide +kernel
theorem dX7_traced_14 : decode cX7_traced 14 = .ok (.iconst (-1), 1) := by decide +kernel
theorem dX7_traced_15 : decode cX7_traced 15 = .ok (.ireturn, 1) := by decide +kernel
theorem dX7_traced_16 : decode cX7_traced 16 = .ok (.iload_n 1, 1) := by decide +kernel
theorem dX7_traced_17 : decode cX7_traced 17 = .ok (.invokestatic 84, 3) := by decide +kernel
theorem dX7_traced_20 : decode cX7_traced 20 = .ok (.ifCond .eq 12, 3) := by decide +kernel
theorem dX7_traced_23 : decode cX7_traced 23 = .ok (.iload_n 3, 1) := by decide +kernel
theorem dX7_traced_24 : decode cX7_traced 24 = .ok (.ifCond .lt 8, 3) := by decide +kernel
theorem dX7_traced_27 : decode cX7_traced 27 = .ok (.iload_n 3, 1) := by decide +kernel
theorem dX7_traced_28 : decode cX7_traced 28 = .ok (.iconst 2, 1) := by decide +kernel
theorem dX7_traced_29 : decode cX7_traced 29 = .ok (.if_icmp .le 6, 3) := by decide +kernel
theorem dX7_traced_32 : decode cX7_traced 32 = .ok (.bipush (-2), 2) := by decide +kernel
theorem dX7_traced_34 : decode cX7_traced 34 = .ok (.ireturn, 1) := by decide +kernel
theorem dX7_traced_35 : decode cX7_traced 35 = .ok (.aload_n 0, 1) := by decide +kernel
theorem dX7_traced_36 : decode cX7_traced 36 = .ok (.getfield 41, 3) := by decide +kernel
theorem dX7_traced_39 : decode cX7_traced 39 = .ok (.iload_n 1, 1) := by decide +kernel
theorem dX7_traced_40 : decode cX7_traced 40 = .ok (.invokevirtual 179, 3) := by decide +kernel
theorem dX7_traced_43 : decode cX7_traced 43 = .ok (.aload_n 0, 1) := by decide +kernel
theorem dX7_traced_44 : decode cX7_traced 44 = .ok (.getfield 41, 3) := by decide +kernel
theorem dX7_traced_47 : decode cX7_traced 47 = .ok (.iload_n 2, 1) := by decide +kernel
theorem dX7_traced_48 : decode cX7_traced 48 = .ok (.iconst 1, 1) := by decide +kernel
theorem dX7_traced_49 : decode cX7_traced 49 = .ok (.iadd, 1) := by decide +kernel
theorem dX7_traced_50 : decode cX7_traced 50 = .ok (.aload_n 0, 1) := by decide +kernel
theorem dX7_traced_51 : decode cX7_traced 51 = .ok (.getfield 10, 3) := by decide +kernel
theorem dX7_traced_54 : decode cX7_traced 54 = .ok (.getfield 70, 3) := by decide +kernel
theorem dX7_traced_57 : decode cX7_traced 57 = .ok (.aload_n 0, 1) := by decide +kernel
theorem dX7_traced_58 : decode cX7_traced 58 = .ok (.getfield 10, 3) := by decide +kernel
theorem dX7_traced_61 : decode cX7_traced 61 = .ok (.getfield 45, 3) := by decide +kernel
theorem dX7_traced_64 : decode cX7_traced 64 = .ok (.invokevirtual 176, 3) := by decide +kernel
theorem dX7_traced_67 : decode cX7_traced 67 = .ok (.aload_n 0, 1) := by decide +kernel
theorem dX7_traced_68 : decode cX7_traced 68 = .ok (.getfield 41, 3) := by decide +kernel
theorem dX7_traced_71 : decode cX7_traced 71 = .ok (.getfield 156, 3) := by decide +kernel
theorem dX7_traced_74 : decode cX7_traced 74 = .ok (.ifCond .eq 17, 3) := by decide +kernel
theorem dX7_traced_77 : decode cX7_traced 77 = .ok (.aload_n 0, 1) := by decide +kernel
theorem dX7_traced_78 : decode cX7_traced 78 = .ok (.getfield 41, 3) := by decide +kernel
theorem dX7_traced_81 : decode cX7_traced 81 = .ok (.getfield 156, 3) := by decide +kernel
theorem dX7_traced_84 : decode cX7_traced 84 = .ok (.iconst 4, 1) := by decide +kernel
theorem dX7_traced_85 : decode cX7_traced 85 = .ok (.if_icmp .eq 6, 3) := by decide +kernel
theorem dX7_traced_88 : decode cX7_traced 88 = .ok (.bipush (-6), 2) := by decide +kernel
theorem dX7_traced_90 : decode cX7_traced 90 = .ok (.ireturn, 1) := by decide +kernel
theorem dX7_traced_91 : decode cX7_traced 91 = .ok (.aload_n 0, 1) := by decide +kernel
theorem dX7_traced_92 : decode cX7_traced 92 = .ok (.getfield 41, 3) := by decide +kernel
theorem dX7_traced_95 : decode cX7_traced 95 = .ok (.iload_n 3, 1) := by decide +kernel
theorem dX7_traced_96 : decode cX7_traced 96 = .ok (.iconst 1, 1) := by decide +kernel
theorem dX7_traced_97 : decode cX7_traced 97 = .ok (.iadd, 1) := by decide +kernel
theorem dX7_traced_98 : decode cX7_traced 98 = .ok (.invokestatic 118, 3) := by decide +kernel
theorem dX7_traced_101 : decode cX7_traced 101 = .ok (.ireturn, 1) := by decide +kernel
theorem dX7_put_0 : decode cX7_put 0 = .ok (.lload_n 1, 1) := by decide +kernel
theorem dX7_put_1 : decode cX7_put 1 = .ok (.invokestatic 190, 3) := by decide +kernel
theorem dX7_put_4 : decode cX7_put 4 = .ok (.istore_n 3, 1) := by decide +kernel
theorem dX7_put_5 : decode cX7_put 5 = .ok (.iload_n 3, 1) := by decide +kernel
theorem dX7_put_6 : decode cX7_put 6 = .ok (.ifCond .ne 6, 3) := by decide +kernel
theorem dX7_put_9 : decode cX7_put 9 = .ok (.bipush (-2), 2) := by decide +kernel
theorem dX7_put_11 : decode cX7_put 11 = .ok (.ireturn, 1) := by decide +kernel
theorem dX7_put_12 : decode cX7_put 12 = .ok (.aload_n 0, 1) := by decide +kernel
theorem dX7_put_13 : decode cX7_put 13 = .ok (.getfield 34, 3) := by decide +kernel
theorem dX7_put_16 : decode cX7_put 16 = .ok (.getfield 130, 3) := by decide +kernel
theorem dX7_put_19 : decode cX7_put 19 = .ok (.iload_n 3, 1) := by decide +kernel
theorem dX7_put_20 : decode cX7_put 20 = .ok (.iadd, 1) := by decide +kernel
theorem dX7_put_21 : decode cX7_put 21 = .ok (.bipush 80, 2) := by decide +kernel
theorem dX7_put_23 : decode cX7_put 23 = .ok (.if_icmp .le 6, 3) := by decide +kernel
theorem dX7_put_26 : decode cX7_put 26 = .ok (.bipush (-4), 2) := by decide +kernel
theorem dX7_put_28 : decode cX7_put 28 = .ok (.ireturn, 1) := by decide +kernel
theorem dX7_put_29 : decode cX7_put 29 = .ok (.aload_n 0, 1) := by decide +kernel
theorem dX7_put_30 : decode cX7_put 30 = .ok (.getfield 34, 3) := by decide +kernel
theorem dX7_put_33 : decode cX7_put 33 = .ok (.lload_n 1, 1) := by decide +kernel
theorem dX7_put_34 : decode cX7_put 34 = .ok (.iload_n 3, 1) := by decide +kernel
theorem dX7_put_35 : decode cX7_put 35 = .ok (.invokevirtual 194, 3) := by decide +kernel
theorem dX7_put_38 : decode cX7_put 38 = .ok (.ireturn, 1) := by decide +kernel
theorem dX7_wipe_0 : decode cX7_wipe 0 = .ok (.aload_n 0, 1) := by decide +kernel
theorem dX7_wipe_1 : decode cX7_wipe 1 = .ok (.getfield 34, 3) := by decide +kernel
theorem dX7_wipe_4 : decode cX7_wipe 4 = .ok (.invokevirtual 198, 3) := by decide +kernel
theorem dX7_wipe_7 : decode cX7_wipe 7 = .ok (.ireturn, 1) := by decide +kernel
theorem dX7_fault_0 : decode cX7_fault 0 = .ok (.aload_n 0, 1) := by decide +kernel
theorem dX7_fault_1 : decode cX7_fault 1 = .ok (.getfield 34, 3) := by decide +kernel
theorem dX7_fault_4 : decode cX7_fault 4 = .ok (.invokevirtual 201, 3) := by decide +kernel
theorem dX7_fault_7 : decode cX7_fault 7 = .ok (.ireturn, 1) := by decide +kernel
theorem dX7_carryOut_0 : decode cX7_carryOut 0 = .ok (.aload_n 0, 1) := by decide +kernel
theorem dX7_carryOut_1 : decode cX7_carryOut 1 = .ok (.getfield 34, 3) := by decide +kernel
theorem dX7_carryOut_4 : decode cX7_carryOut 4 = .ok (.invokevirtual 201, 3) := by decide +kernel
theorem dX7_carryOut_7 : decode cX7_carryOut 7 = .ok (.bipush (-6), 2) := by decide +kernel
theorem dX7_carryOut_9 : decode cX7_carryOut 9 = .ok (.if_icmp .eq 6, 3) := by decide +kernel
theorem dX7_carryOut_12 : decode cX7_carryOut 12 = .ok (.bipush (-3), 2) := by decide +kernel
theorem dX7_carryOut_14 : decode cX7_carryOut 14 = .ok (.ireturn, 1) := by decide +kernel
theorem dX7_carryOut_15 : decode cX7_carryOut 15 = .ok (.aload_n 0, 1) := by decide +kernel
theorem dX7_carryOut_16 : decode cX7_carryOut 16 = .ok (.getfield 19, 3) := by decide +kernel
theorem dX7_carryOut_19 : decode cX7_carryOut 19 = .ok (.aload_n 0, 1) := by decide +kernel
theorem dX7_carryOut_20 : decode cX7_carryOut 20 = .ok (.getfield 10, 3) := by decide +kernel
theorem dX7_carryOut_23 : decode cX7_carryOut 23 = .ok (.invokevirtual 55, 3) := by decide +kernel
theorem dX7_carryOut_26 : decode cX7_carryOut 26 = .ok (.iconst 0, 1) := by decide +kernel
theorem dX7_carryOut_27 : decode cX7_carryOut 27 = .ok (.istore_n 1, 1) := by decide +kernel
theorem dX7_carryOut_28 : decode cX7_carryOut 28 = .ok (.aload_n 0, 1) := by decide +kernel
theorem dX7_carryOut_29 : decode cX7_carryOut 29 = .ok (.getfield 34, 3) := by decide +kernel
theorem dX7_carryOut_32 : decode cX7_carryOut 32 = .ok (.invokevirtual 204, 3) := by decide +kernel
theorem dX7_carryOut_35 : decode cX7_carryOut 35 = .ok (.iconst 0, 1) := by decide +kernel
theorem dX7_carryOut_36 : decode cX7_carryOut 36 = .ok (.istore_n 2, 1) := by decide +kernel
theorem dX7_carryOut_37 : decode cX7_carryOut 37 = .ok (.iload_n 2, 1) := by decide +kernel
theorem dX7_carryOut_38 : decode cX7_carryOut 38 = .ok (.bipush 80, 2) := by decide +kernel
theorem dX7_carryOut_40 : decode cX7_carryOut 40 = .ok (.if_icmp .ge 73, 3) := by decide +kernel
theorem dX7_carryOut_43 : decode cX7_carryOut 43 = .ok (.aload_n 0, 1) := by decide +kernel
theorem dX7_carryOut_44 : decode cX7_carryOut 44 = .ok (.getfield 34, 3) := by decide +kernel
theorem dX7_carryOut_47 : decode cX7_carryOut 47 = .ok (.invokevirtual 207, 3) := by decide +kernel
theorem dX7_carryOut_50 : decode cX7_carryOut 50 = .ok (.ifCond .eq 63, 3) := by decide +kernel
theorem dX7_carryOut_53 : decode cX7_carryOut 53 = .ok (.aload_n 0, 1) := by decide +kernel
theorem dX7_carryOut_54 : decode cX7_carryOut 54 = .ok (.aload_n 0, 1) := by decide +kernel
theorem dX7_carryOut_55 : decode cX7_carryOut 55 = .ok (.getfield 34, 3) := by decide +kernel
theorem dX7_carryOut_58 : decode cX7_carryOut 58 = .ok (.getfield 210, 3) := by decide +kernel
theorem dX7_carryOut_61 : decode cX7_carryOut 61 = .ok (.aload_n 0, 1) := by decide +kernel
theorem dX7_carryOut_62 : decode cX7_carryOut 62 = .ok (.getfield 34, 3) := by decide +kernel
theorem dX7_carryOut_65 : decode cX7_carryOut 65 = .ok (.getfield 213, 3) := by decide +kernel
theorem dX7_carryOut_68 : decode cX7_carryOut 68 = .ok (.invokevirtual 215, 3) := by decide +kernel
theorem dX7_carryOut_71 : decode cX7_carryOut 71 = .ok (.ifCond .eq 6, 3) := by decide +kernel
theorem dX7_carryOut_74 : decode cX7_carryOut 74 = .ok (.goto 39, 3) := by decide +kernel
theorem dX7_carryOut_77 : decode cX7_carryOut 77 = .ok (.aload_n 0, 1) := by decide +kernel
theorem dX7_carryOut_78 : decode cX7_carryOut 78 = .ok (.aload_n 0, 1) := by decide +kernel
theorem dX7_carryOut_79 : decode cX7_carryOut 79 = .ok (.getfield 34, 3) := by decide +kernel
theorem dX7_carryOut_82 : decode cX7_carryOut 82 = .ok (.getfield 210, 3) := by decide +kernel
theorem dX7_carryOut_85 : decode cX7_carryOut 85 = .ok (.aload_n 0, 1) := by decide +kernel
theorem dX7_carryOut_86 : decode cX7_carryOut 86 = .ok (.getfield 34, 3) := by decide +kernel
theorem dX7_carryOut_89 : decode cX7_carryOut 89 = .ok (.getfield 213, 3) := by decide +kernel
theorem dX7_carryOut_92 : decode cX7_carryOut 92 = .ok (.invokevirtual 218, 3) := by decide +kernel
theorem dX7_carryOut_95 : decode cX7_carryOut 95 = .ok (.pop, 1) := by decide +kernel
theorem dX7_carryOut_96 : decode cX7_carryOut 96 = .ok (.iinc 1 1, 3) := by decide +kernel
theorem dX7_carryOut_99 : decode cX7_carryOut 99 = .ok (.aload_n 0, 1) := by decide +kernel
theorem dX7_carryOut_100 : decode cX7_carryOut 100 = .ok (.getfield 34, 3) := by decide +kernel
theorem dX7_carryOut_103 : decode cX7_carryOut 103 = .ok (.invokevirtual 221, 3) := by decide +kernel
theorem dX7_carryOut_106 : decode cX7_carryOut 106 = .ok (.pop, 1) := by decide +kernel
theorem dX7_carryOut_107 : decode cX7_carryOut 107 = .ok (.iinc 2 1, 3) := by decide +kernel
theorem dX7_carryOut_110 : decode cX7_carryOut 110 = .ok (.goto (-73), 3) := by decide +kernel
theorem dX7_carryOut_113 : decode cX7_carryOut 113 = .ok (.aload_n 0, 1) := by decide +kernel
theorem dX7_carryOut_114 : decode cX7_carryOut 114 = .ok (.getfield 34, 3) := by decide +kernel
theorem dX7_carryOut_117 : decode cX7_carryOut 117 = .ok (.invokevirtual 198, 3) := by decide +kernel
theorem dX7_carryOut_120 : decode cX7_carryOut 120 = .ok (.pop, 1) := by decide +kernel
theorem dX7_carryOut_121 : decode cX7_carryOut 121 = .ok (.iload_n 1, 1) := by decide +kernel
theorem dX7_carryOut_122 : decode cX7_carryOut 122 = .ok (.ireturn, 1) := by decide +kernel
theorem dX7_orderError_0 : decode cX7_orderError 0 = .ok (.iload_n 1, 1) := by decide +kernel
theorem dX7_orderError_1 : decode cX7_orderError 1 = .ok (.lookupswitch 168 #[(60, 150), (62, 159), (100, 67), (103, 107), (104, 127), (108, 87), (114, 141)], 67) := by decide +kernel
theorem dX7_orderError_68 : decode cX7_orderError 68 = .ok (.aload_n 0, 1) := by decide +kernel
theorem dX7_orderError_69 : decode cX7_orderError 69 = .ok (.getfield 10, 3) := by decide +kernel
theorem dX7_orderError_72 : decode cX7_orderError 72 = .ok (.aload_n 0, 1) := by decide +kernel
theorem dX7_orderError_73 : decode cX7_orderError 73 = .ok (.getfield 10, 3) := by decide +kernel
theorem dX7_orderError_76 : decode cX7_orderError 76 = .ok (.getfield 70, 3) := by decide +kernel
theorem dX7_orderError_79 : decode cX7_orderError 79 = .ok (.getfield 224, 3) := by decide +kernel
theorem dX7_orderError_82 : decode cX7_orderError 82 = .ok (.iconst 0, 1) := by decide +kernel
theorem dX7_orderError_83 : decode cX7_orderError 83 = .ok (.iload_n 2, 1) := by decide +kernel
theorem dX7_orderError_84 : decode cX7_orderError 84 = .ok (.invokevirtual 63, 3) := by decide +kernel
theorem dX7_orderError_87 : decode cX7_orderError 87 = .ok (.ireturn, 1) := by decide +kernel
theorem dX7_orderError_88 : decode cX7_orderError 88 = .ok (.aload_n 0, 1) := by decide +kernel
theorem dX7_orderError_89 : decode cX7_orderError 89 = .ok (.getfield 10, 3) := by decide +kernel
theorem dX7_orderError_92 : decode cX7_orderError 92 = .ok (.aload_n 0, 1) := by decide +kernel
theorem dX7_orderError_93 : decode cX7_orderError 93 = .ok (.getfield 10, 3) := by decide +kernel
theorem dX7_orderError_96 : decode cX7_orderError 96 = .ok (.getfield 70, 3) := by decide +kernel
theorem dX7_orderError_99 : decode cX7_orderError 99 = .ok (.getfield 224, 3) := by decide +kernel
theorem dX7_orderError_102 : decode cX7_orderError 102 = .ok (.iconst 1, 1) := by decide +kernel
theorem dX7_orderError_103 : decode cX7_orderError 103 = .ok (.iload_n 2, 1) := by decide +kernel
theorem dX7_orderError_104 : decode cX7_orderError 104 = .ok (.invokevirtual 63, 3) := by decide +kernel
theorem dX7_orderError_107 : decode cX7_orderError 107 = .ok (.ireturn, 1) := by decide +kernel
theorem dX7_orderError_108 : decode cX7_orderError 108 = .ok (.aload_n 0, 1) := by decide +kernel
theorem dX7_orderError_109 : decode cX7_orderError 109 = .ok (.getfield 10, 3) := by decide +kernel
theorem dX7_orderError_112 : decode cX7_orderError 112 = .ok (.aload_n 0, 1) := by decide +kernel
theorem dX7_orderError_113 : decode cX7_orderError 113 = .ok (.getfield 10, 3) := by decide +kernel
theorem dX7_orderError_116 : decode cX7_orderError 116 = .ok (.getfield 70, 3) := by decide +kernel
theorem dX7_orderError_119 : decode cX7_orderError 119 = .ok (.getfield 224, 3) := by decide +kernel
theorem dX7_orderError_122 : decode cX7_orderError 122 = .ok (.iconst 2, 1) := by decide +kernel
theorem dX7_orderError_123 : decode cX7_orderError 123 = .ok (.iload_n 2, 1) := by decide +kernel
theorem dX7_orderError_124 : decode cX7_orderError 124 = .ok (.invokevirtual 63, 3) := by decide +kernel
theorem dX7_orderError_127 : decode cX7_orderError 127 = .ok (.ireturn, 1) := by decide +kernel
theorem dX7_orderError_128 : decode cX7_orderError 128 = .ok (.iload_n 2, 1) := by decide +kernel
theorem dX7_orderError_129 : decode cX7_orderError 129 = .ok (.invokestatic 84, 3) := by decide +kernel
theorem dX7_orderError_132 : decode cX7_orderError 132 = .ok (.ifCond .eq 7, 3) := by decide +kernel
theorem dX7_orderError_135 : decode cX7_orderError 135 = .ok (.iconst 0, 1) := by decide +kernel
theorem dX7_orderError_136 : decode cX7_orderError 136 = .ok (.goto 5, 3) := by decide +kernel
theorem dX7_orderError_139 : decode cX7_orderError 139 = .ok (.bipush (-2), 2) := by decide +kernel
theorem dX7_orderError_141 : decode cX7_orderError 141 = .ok (.ireturn, 1) := by decide +kernel
theorem dX7_orderError_142 : decode cX7_orderError 142 = .ok (.aload_n 0, 1) := by decide +kernel
theorem dX7_orderError_143 : decode cX7_orderError 143 = .ok (.getfield 10, 3) := by decide +kernel
theorem dX7_orderError_146 : decode cX7_orderError 146 = .ok (.iload_n 2, 1) := by decide +kernel
theorem dX7_orderError_147 : decode cX7_orderError 147 = .ok (.invokevirtual 89, 3) := by decide +kernel
theorem dX7_orderError_150 : decode cX7_orderError 150 = .ok (.ireturn, 1) := by decide +kernel
theorem dX7_orderError_151 : decode cX7_orderError 151 = .ok (.aload_n 0, 1) := by decide +kernel
theorem dX7_orderError_152 : decode cX7_orderError 152 = .ok (.getfield 10, 3) := by decide +kernel
theorem dX7_orderError_155 : decode cX7_orderError 155 = .ok (.iconst 0, 1) := by decide +kernel
theorem dX7_orderError_156 : decode cX7_orderError 156 = .ok (.invokevirtual 95, 3) := by decide +kernel
theorem dX7_orderError_159 : decode cX7_orderError 159 = .ok (.ireturn, 1) := by decide +kernel
theorem dX7_orderError_160 : decode cX7_orderError 160 = .ok (.aload_n 0, 1) := by decide +kernel
theorem dX7_orderError_161 : decode cX7_orderError 161 = .ok (.getfield 10, 3) := by decide +kernel
theorem dX7_orderError_164 : decode cX7_orderError 164 = .ok (.iconst 1, 1) := by decide +kernel
theorem dX7_orderError_165 : decode cX7_orderError 165 = .ok (.invokevirtual 95, 3) := by decide +kernel
theorem dX7_orderError_168 : decode cX7_orderError 168 = .ok (.ireturn, 1) := by decide +kernel
theorem dX7_orderError_169 : decode cX7_orderError 169 = .ok (.aload_n 0, 1) := by decide +kernel
theorem dX7_orderError_170 : decode cX7_orderError 170 = .ok (.getfield 10, 3) := by decide +kernel
theorem dX7_orderError_173 : decode cX7_orderError 173 = .ok (.invokevirtual 101, 3) := by decide +kernel
theorem dX7_orderError_176 : decode cX7_orderError 176 = .ok (.ireturn, 1) := by decide +kernel
theorem dX7_carryOrder_0 : decode cX7_carryOrder 0 = .ok (.iload_n 1, 1) := by decide +kernel
theorem dX7_carryOrder_1 : decode cX7_carryOrder 1 = .ok (.lookupswitch 163 #[(60, 145), (62, 154), (100, 67), (103, 107), (104, 127), (108, 87), (114, 136)], 67) := by decide +kernel
theorem dX7_carryOrder_68 : decode cX7_carryOrder 68 = .ok (.aload_n 0, 1) := by decide +kernel
theorem dX7_carryOrder_69 : decode cX7_carryOrder 69 = .ok (.getfield 10, 3) := by decide +kernel
theorem dX7_carryOrder_72 : decode cX7_carryOrder 72 = .ok (.aload_n 0, 1) := by decide +kernel
theorem dX7_carryOrder_73 : decode cX7_carryOrder 73 = .ok (.getfield 10, 3) := by decide +kernel
theorem dX7_carryOrder_76 : decode cX7_carryOrder 76 = .ok (.getfield 70, 3) := by decide +kernel
theorem dX7_carryOrder_79 : decode cX7_carryOrder 79 = .ok (.getfield 224, 3) := by decide +kernel
theorem dX7_carryOrder_82 : decode cX7_carryOrder 82 = .ok (.iconst 0, 1) := by decide +kernel
theorem dX7_carryOrder_83 : decode cX7_carryOrder 83 = .ok (.iload_n 2, 1) := by decide +kernel
theorem dX7_carryOrder_84 : decode cX7_carryOrder 84 = .ok (.invokevirtual 67, 3) := by decide +kernel
theorem dX7_carryOrder_87 : decode cX7_carryOrder 87 = .ok (.ireturn, 1) := by decide +kernel
theorem dX7_carryOrder_88 : decode cX7_carryOrder 88 = .ok (.aload_n 0, 1) := by decide +kernel
theorem dX7_carryOrder_89 : decode cX7_carryOrder 89 = .ok (.getfield 10, 3) := by decide +kernel
theorem dX7_carryOrder_92 : decode cX7_carryOrder 92 = .ok (.aload_n 0, 1) := by decide +kernel
theorem dX7_carryOrder_93 : decode cX7_carryOrder 93 = .ok (.getfield 10, 3) := by decide +kernel
theorem dX7_carryOrder_96 : decode cX7_carryOrder 96 = .ok (.getfield 70, 3) := by decide +kernel
theorem dX7_carryOrder_99 : decode cX7_carryOrder 99 = .ok (.getfield 224, 3) := by decide +kernel
theorem dX7_carryOrder_102 : decode cX7_carryOrder 102 = .ok (.iconst 1, 1) := by decide +kernel
theorem dX7_carryOrder_103 : decode cX7_carryOrder 103 = .ok (.iload_n 2, 1) := by decide +kernel
theorem dX7_carryOrder_104 : decode cX7_carryOrder 104 = .ok (.invokevirtual 67, 3) := by decide +kernel
theorem dX7_carryOrder_107 : decode cX7_carryOrder 107 = .ok (.ireturn, 1) := by decide +kernel
theorem dX7_carryOrder_108 : decode cX7_carryOrder 108 = .ok (.aload_n 0, 1) := by decide +kernel
theorem dX7_carryOrder_109 : decode cX7_carryOrder 109 = .ok (.getfield 10, 3) := by decide +kernel
theorem dX7_carryOrder_112 : decode cX7_carryOrder 112 = .ok (.aload_n 0, 1) := by decide +kernel
theorem dX7_carryOrder_113 : decode cX7_carryOrder 113 = .ok (.getfield 10, 3) := by decide +kernel
theorem dX7_carryOrder_116 : decode cX7_carryOrder 116 = .ok (.getfield 70, 3) := by decide +kernel
theorem dX7_carryOrder_119 : decode cX7_carryOrder 119 = .ok (.getfield 224, 3) := by decide +kernel
theorem dX7_carryOrder_122 : decode cX7_carryOrder 122 = .ok (.iconst 2, 1) := by decide +kernel
theorem dX7_carryOrder_123 : decode cX7_carryOrder 123 = .ok (.iload_n 2, 1) := by decide +kernel
theorem dX7_carryOrder_124 : decode cX7_carryOrder 124 = .ok (.invokevirtual 67, 3) := by decide +kernel
theorem dX7_carryOrder_127 : decode cX7_carryOrder 127 = .ok (.ireturn, 1) := by decide +kernel
theorem dX7_carryOrder_128 : decode cX7_carryOrder 128 = .ok (.aload_n 0, 1) := by decide +kernel
theorem dX7_carryOrder_129 : decode cX7_carryOrder 129 = .ok (.getfield 10, 3) := by decide +kernel
theorem dX7_carryOrder_132 : decode cX7_carryOrder 132 = .ok (.iload_n 2, 1) := by decide +kernel
theorem dX7_carryOrder_133 : decode cX7_carryOrder 133 = .ok (.invokevirtual 86, 3) := by decide +kernel
theorem dX7_carryOrder_136 : decode cX7_carryOrder 136 = .ok (.ireturn, 1) := by decide +kernel
theorem dX7_carryOrder_137 : decode cX7_carryOrder 137 = .ok (.aload_n 0, 1) := by decide +kernel
theorem dX7_carryOrder_138 : decode cX7_carryOrder 138 = .ok (.getfield 10, 3) := by decide +kernel
theorem dX7_carryOrder_141 : decode cX7_carryOrder 141 = .ok (.iload_n 2, 1) := by decide +kernel
theorem dX7_carryOrder_142 : decode cX7_carryOrder 142 = .ok (.invokevirtual 92, 3) := by decide +kernel
theorem dX7_carryOrder_145 : decode cX7_carryOrder 145 = .ok (.ireturn, 1) := by decide +kernel
theorem dX7_carryOrder_146 : decode cX7_carryOrder 146 = .ok (.aload_n 0, 1) := by decide +kernel
theorem dX7_carryOrder_147 : decode cX7_carryOrder 147 = .ok (.getfield 10, 3) := by decide +kernel
theorem dX7_carryOrder_150 : decode cX7_carryOrder 150 = .ok (.iconst 0, 1) := by decide +kernel
theorem dX7_carryOrder_151 : decode cX7_carryOrder 151 = .ok (.invokevirtual 98, 3) := by decide +kernel
theorem dX7_carryOrder_154 : decode cX7_carryOrder 154 = .ok (.ireturn, 1) := by decide +kernel
theorem dX7_carryOrder_155 : decode cX7_carryOrder 155 = .ok (.aload_n 0, 1) := by decide +kernel
theorem dX7_carryOrder_156 : decode cX7_carryOrder 156 = .ok (.getfield 10, 3) := by decide +kernel
theorem dX7_carryOrder_159 : decode cX7_carryOrder 159 = .ok (.iconst 1, 1) := by decide +kernel
theorem dX7_carryOrder_160 : decode cX7_carryOrder 160 = .ok (.invokevirtual 98, 3) := by decide +kernel
theorem dX7_carryOrder_163 : decode cX7_carryOrder 163 = .ok (.ireturn, 1) := by decide +kernel
theorem dX7_carryOrder_164 : decode cX7_carryOrder 164 = .ok (.aload_n 0, 1) := by decide +kernel
theorem dX7_carryOrder_165 : decode cX7_carryOrder 165 = .ok (.getfield 10, 3) := by decide +kernel
theorem dX7_carryOrder_168 : decode cX7_carryOrder 168 = .ok (.invokevirtual 105, 3) := by decide +kernel
theorem dX7_carryOrder_171 : decode cX7_carryOrder 171 = .ok (.ireturn, 1) := by decide +kernel
theorem dX7_undo_0 : decode cX7_undo 0 = .ok (.aload_n 0, 1) := by decide +kernel
theorem dX7_undo_1 : decode cX7_undo 1 = .ok (.getfield 19, 3) := by decide +kernel
theorem dX7_undo_4 : decode cX7_undo 4 = .ok (.getfield 134, 3) := by decide +kernel
theorem dX7_undo_7 : decode cX7_undo 7 = .ok (.ifCond .ne 6, 3) := by decide +kernel
theorem dX7_undo_10 : decode cX7_undo 10 = .ok (.bipush (-5), 2) := by decide +kernel
theorem dX7_undo_12 : decode cX7_undo 12 = .ok (.ireturn, 1) := by decide +kernel
theorem dX7_undo_13 : decode cX7_undo 13 = .ok (.aload_n 0, 1) := by decide +kernel
theorem dX7_undo_14 : decode cX7_undo 14 = .ok (.getfield 19, 3) := by decide +kernel
theorem dX7_undo_17 : decode cX7_undo 17 = .ok (.aload_n 0, 1) := by decide +kernel
theorem dX7_undo_18 : decode cX7_undo 18 = .ok (.getfield 10, 3) := by decide +kernel
theorem dX7_undo_21 : decode cX7_undo 21 = .ok (.invokevirtual 225, 3) := by decide +kernel
theorem dX7_undo_24 : decode cX7_undo 24 = .ok (.ireturn, 1) := by decide +kernel
theorem dX7_save_0 : decode cX7_save 0 = .ok (.iload_n 1, 1) := by decide +kernel
theorem dX7_save_1 : decode cX7_save 1 = .ok (.ifCond .lt 8, 3) := by decide +kernel
theorem dX7_save_4 : decode cX7_save 4 = .ok (.iload_n 1, 1) := by decide +kernel
theorem dX7_save_5 : decode cX7_save 5 = .ok (.iconst 2, 1) := by decide +kernel
theorem dX7_save_6 : decode cX7_save 6 = .ok (.if_icmp .lt 6, 3) := by decide +kernel
theorem dX7_save_9 : decode cX7_save 9 = .ok (.bipush (-2), 2) := by decide +kernel
theorem dX7_save_11 : decode cX7_save 11 = .ok (.ireturn, 1) := by decide +kernel
theorem dX7_save_12 : decode cX7_save 12 = .ok (.aload_n 0, 1) := by decide +kernel
theorem dX7_save_13 : decode cX7_save 13 = .ok (.getfield 23, 3) := by decide +kernel
theorem dX7_save_16 : decode cX7_save 16 = .ok (.iload_n 1, 1) := by decide +kernel
theorem dX7_save_17 : decode cX7_save 17 = .ok (.aaload, 1) := by decide +kernel
theorem dX7_save_18 : decode cX7_save 18 = .ok (.aload_n 0, 1) := by decide +kernel
theorem dX7_save_19 : decode cX7_save 19 = .ok (.getfield 10, 3) := by decide +kernel
theorem dX7_save_22 : decode cX7_save 22 = .ok (.invokevirtual 229, 3) := by decide +kernel
theorem dX7_save_25 : decode cX7_save 25 = .ok (.aload_n 0, 1) := by decide +kernel
theorem dX7_save_26 : decode cX7_save 26 = .ok (.getfield 27, 3) := by decide +kernel
theorem dX7_save_29 : decode cX7_save 29 = .ok (.iload_n 1, 1) := by decide +kernel
theorem dX7_save_30 : decode cX7_save 30 = .ok (.iconst 1, 1) := by decide +kernel
theorem dX7_save_31 : decode cX7_save 31 = .ok (.bastore, 1) := by decide +kernel
theorem dX7_save_32 : decode cX7_save 32 = .ok (.aload_n 0, 1) := by decide +kernel
theorem dX7_save_33 : decode cX7_save 33 = .ok (.getfield 10, 3) := by decide +kernel
theorem dX7_save_36 : decode cX7_save 36 = .ok (.getfield 70, 3) := by decide +kernel
theorem dX7_save_39 : decode cX7_save 39 = .ok (.getfield 224, 3) := by decide +kernel
theorem dX7_save_42 : decode cX7_save 42 = .ok (.ireturn, 1) := by decide +kernel
theorem dX7_restore_0 : decode cX7_restore 0 = .ok (.iload_n 1, 1) := by decide +kernel
theorem dX7_restore_1 : decode cX7_restore 1 = .ok (.ifCond .lt 8, 3) := by decide +kernel
theorem dX7_restore_4 : decode cX7_restore 4 = .ok (.iload_n 1, 1) := by decide +kernel
theorem dX7_restore_5 : decode cX7_restore 5 = .ok (.iconst 2, 1) := by decide +kernel
theorem dX7_restore_6 : decode cX7_restore 6 = .ok (.if_icmp .lt 6, 3) := by decide +kernel
theorem dX7_restore_9 : decode cX7_restore 9 = .ok (.bipush (-2), 2) := by decide +kernel
theorem dX7_restore_11 : decode cX7_restore 11 = .ok (.ireturn, 1) := by decide +kernel
theorem dX7_restore_12 : decode cX7_restore 12 = .ok (.aload_n 0, 1) := by decide +kernel
theorem dX7_restore_13 : decode cX7_restore 13 = .ok (.getfield 27, 3) := by decide +kernel
theorem dX7_restore_16 : decode cX7_restore 16 = .ok (.iload_n 1, 1) := by decide +kernel
theorem dX7_restore_17 : decode cX7_restore 17 = .ok (.baload, 1) := by decide +kernel
theorem dX7_restore_18 : decode cX7_restore 18 = .ok (.ifCond .ne 6, 3) := by decide +kernel
theorem dX7_restore_21 : decode cX7_restore 21 = .ok (.bipush (-5), 2) := by decide +kernel
theorem dX7_restore_23 : decode cX7_restore 23 = .ok (.ireturn, 1) := by decide +kernel
theorem dX7_restore_24 : decode cX7_restore 24 = .ok (.aload_n 0, 1) := by decide +kernel
theorem dX7_restore_25 : decode cX7_restore 25 = .ok (.getfield 19, 3) := by decide +kernel
theorem dX7_restore_28 : decode cX7_restore 28 = .ok (.aload_n 0, 1) := by decide +kernel
theorem dX7_restore_29 : decode cX7_restore 29 = .ok (.getfield 10, 3) := by decide +kernel
theorem dX7_restore_32 : decode cX7_restore 32 = .ok (.invokevirtual 55, 3) := by decide +kernel
theorem dX7_restore_35 : decode cX7_restore 35 = .ok (.aload_n 0, 1) := by decide +kernel
theorem dX7_restore_36 : decode cX7_restore 36 = .ok (.getfield 10, 3) := by decide +kernel
theorem dX7_restore_39 : decode cX7_restore 39 = .ok (.aload_n 0, 1) := by decide +kernel
theorem dX7_restore_40 : decode cX7_restore 40 = .ok (.getfield 23, 3) := by decide +kernel
theorem dX7_restore_43 : decode cX7_restore 43 = .ok (.iload_n 1, 1) := by decide +kernel
theorem dX7_restore_44 : decode cX7_restore 44 = .ok (.aaload, 1) := by decide +kernel
theorem dX7_restore_45 : decode cX7_restore 45 = .ok (.invokevirtual 229, 3) := by decide +kernel
theorem dX7_restore_48 : decode cX7_restore 48 = .ok (.aload_n 0, 1) := by decide +kernel
theorem dX7_restore_49 : decode cX7_restore 49 = .ok (.getfield 10, 3) := by decide +kernel
theorem dX7_restore_52 : decode cX7_restore 52 = .ok (.getfield 70, 3) := by decide +kernel
theorem dX7_restore_55 : decode cX7_restore 55 = .ok (.getfield 224, 3) := by decide +kernel
theorem dX7_restore_58 : decode cX7_restore 58 = .ok (.ireturn, 1) := by decide +kernel
theorem dX8_init_0 : decode cX8_init 0 = .ok (.aload_n 0, 1) := by decide +kernel
theorem dX8_init_1 : decode cX8_init 1 = .ok (.invokespecial 1, 3) := by decide +kernel
theorem dX8_init_4 : decode cX8_init 4 = .ok (.aload_n 0, 1) := by decide +kernel
theorem dX8_init_5 : decode cX8_init 5 = .ok (.sipush 322, 3) := by decide +kernel
theorem dX8_init_8 : decode cX8_init 8 = .ok (.newarray .int, 2) := by decide +kernel
theorem dX8_init_10 : decode cX8_init 10 = .ok (.putfield 7, 3) := by decide +kernel
theorem dX8_init_13 : decode cX8_init 13 = .ok (.aload_n 0, 1) := by decide +kernel
theorem dX8_init_14 : decode cX8_init 14 = .ok (.sipush 966, 3) := by decide +kernel
theorem dX8_init_17 : decode cX8_init 17 = .ok (.newarray .int, 2) := by decide +kernel
theorem dX8_init_19 : decode cX8_init 19 = .ok (.putfield 13, 3) := by decide +kernel
theorem dX8_init_22 : decode cX8_init 22 = .ok (.aload_n 0, 1) := by decide +kernel
theorem dX8_init_23 : decode cX8_init 23 = .ok (.sipush 322, 3) := by decide +kernel
theorem dX8_init_26 : decode cX8_init 26 = .ok (.newarray .int, 2) := by decide +kernel
theorem dX8_init_28 : decode cX8_init 28 = .ok (.putfield 16, 3) := by decide +kernel
theorem dX8_init_31 : decode cX8_init 31 = .ok (.aload_n 0, 1) := by decide +kernel
theorem dX8_init_32 : decode cX8_init 32 = .ok (.iconst 2, 1) := by decide +kernel
theorem dX8_init_33 : decode cX8_init 33 = .ok (.newarray .boolean, 2) := by decide +kernel
theorem dX8_init_35 : decode cX8_init 35 = .ok (.putfield 19, 3) := by decide +kernel
theorem dX8_init_38 : decode cX8_init 38 = .ok (.aload_n 0, 1) := by decide +kernel
theorem dX8_init_39 : decode cX8_init 39 = .ok (.bipush 80, 2) := by decide +kernel
theorem dX8_init_41 : decode cX8_init 41 = .ok (.newarray .int, 2) := by decide +kernel
theorem dX8_init_43 : decode cX8_init 43 = .ok (.putfield 23, 3) := by decide +kernel
theorem dX8_init_46 : decode cX8_init 46 = .ok (.aload_n 0, 1) := by decide +kernel
theorem dX8_init_47 : decode cX8_init 47 = .ok (.getfield 7, 3) := by decide +kernel
theorem dX8_init_50 : decode cX8_init 50 = .ok (.iconst 0, 1) := by decide +kernel
theorem dX8_init_51 : decode cX8_init 51 = .ok (.bipush 45, 2) := by decide +kernel
theorem dX8_init_53 : decode cX8_init 53 = .ok (.iastore, 1) := by decide +kernel
theorem dX8_init_54 : decode cX8_init 54 = .ok (.aload_n 0, 1) := by decide +kernel
theorem dX8_init_55 : decode cX8_init 55 = .ok (.getfield 7, 3) := by decide +kernel
theorem dX8_init_58 : decode cX8_init 58 = .ok (.iconst 1, 1) := by decide +kernel
theorem dX8_init_59 : decode cX8_init 59 = .ok (.iconst 4, 1) := by decide +kernel
theorem dX8_init_60 : decode cX8_init 60 = .ok (.iastore, 1) := by decide +kernel
theorem dX8_init_61 : decode cX8_init 61 = .ok (.aload_n 0, 1) := by decide +kernel
theorem dX8_init_62 : decode cX8_init 62 = .ok (.getfield 7, 3) := by decide +kernel
theorem dX8_init_65 : decode cX8_init 65 = .ok (.iconst 2, 1) := by decide +kernel
theorem dX8_init_66 : decode cX8_init 66 = .ok (.iconst 3, 1) := by decide +kernel
theorem dX8_init_67 : decode cX8_init 67 = .ok (.iastore, 1) := by decide +kernel
theorem dX8_init_68 : decode cX8_init 68 = .ok (.aload_n 0, 1) := by decide +kernel
theorem dX8_init_69 : decode cX8_init 69 = .ok (.getfield 7, 3) := by decide +kernel
theorem dX8_init_72 : decode cX8_init 72 = .ok (.iconst 3, 1) := by decide +kernel
theorem dX8_init_73 : decode cX8_init 73 = .ok (.bipush 8, 2) := by decide +kernel
theorem dX8_init_75 : decode cX8_init 75 = .ok (.iastore, 1) := by decide +kernel
theorem dX8_init_76 : decode cX8_init 76 = .ok (.return_, 1) := by decide +kernel
theorem dX8_in_0 : decode cX8_in 0 = .ok (.iload_n 0, 1) := by decide +kernel
theorem dX8_in_1 : decode cX8_in 1 = .ok (.iload_n 1, 1) := by decide +kernel
theorem dX8_in_2 : decode cX8_in 2 = .ok (.if_icmp .lt 12, 3) := by decide +kernel
theorem dX8_in_5 : decode cX8_in 5 = .ok (.iload_n 0, 1) := by decide +kernel
theorem dX8_in_6 : decode cX8_in 6 = .ok (.iload_n 2, 1) := by decide +kernel
theorem dX8_in_7 : decode cX8_in 7 = .ok (.if_icmp .gt 7, 3) := by decide +kernel
theorem dX8_in_10 : decode cX8_in 10 = .ok (.iconst 1, 1) := by decide +kernel
theorem dX8_in_11 : decode cX8_in 11 = .ok (.goto 4, 3) := by decide +kernel
theorem dX8_in_14 : decode cX8_in 14 = .ok (.iconst 0, 1) := by decide +kernel
theorem dX8_in_15 : decode cX8_in 15 = .ok (.ireturn, 1) := by decide +kernel
theorem dX8_less_0 : decode cX8_less 0 = .ok (.iload_n 0, 1) := by decide +kernel
theorem dX8_less_1 : decode cX8_less 1 = .ok (.iload_n 1, 1) := by decide +kernel
theorem dX8_less_2 : decode cX8_less 2 = .ok (.if_icmp .ge 7, 3) := by decide +kernel
theorem dX8_less_5 : decode cX8_less 5 = .ok (.iload_n 0, 1) := by decide +kernel
theorem dX8_less_6 : decode cX8_less 6 = .ok (.goto 4, 3) := by decide +kernel
theorem dX8_less_9 : decode cX8_less 9 = .ok (.iload_n 1, 1) := by decide +kernel
theorem dX8_less_10 : decode cX8_less 10 = .ok (.ireturn, 1) := by decide +kernel
theorem dX8_size_0 : decode cX8_size 0 = .ok (.iload_n 0, 1) := by decide +kernel
theorem dX8_size_1 : decode cX8_size 1 = .ok (.ifCond .ge 8, 3) := by decide +kernel
theorem dX8_size_4 : decode cX8_size 4 = .ok (.iload_n 0, 1) := by decide +kernel
theorem dX8_size_5 : decode cX8_size 5 = .ok (.ineg, 1) := by decide +kernel
theorem dX8_size_6 : decode cX8_size 6 = .ok (.goto 4, 3) := by decide +kernel
theorem dX8_size_9 : decode cX8_size 9 = .ok (.iload_n 0, 1) := by decide +kernel
theorem dX8_size_10 : decode cX8_size 10 = .ok (.ireturn, 1) := by decide +kernel
theorem dX8_at_0 : decode cX8_at 0 = .ok (.iload_n 0, 1) := by decide +kernel
theorem dX8_at_1 : decode cX8_at 1 = .ok (.bipush 61, 2) := by decide +kernel
theorem dX8_at_3 : decode cX8_at 3 = .ok (.iadd, 1) := by decide +kernel
theorem dX8_at_4 : decode cX8_at 4 = .ok (.iconst 5, 1) := by decide +kernel
theorem dX8_at_5 : decode cX8_at 5 = .ok (.iload_n 1, 1) := by decide +kernel
theorem dX8_at_6 : decode cX8_at 6 = .ok (.imul, 1) := by decide +kernel
theorem dX8_at_7 : decode cX8_at 7 = .ok (.iadd, 1) := by decide +kernel
theorem dX8_at_8 : decode cX8_at 8 = .ok (.ireturn, 1) := by decide +kernel
theorem dX8_isPart_0 : decode cX8_isPart 0 = .ok (.iload_n 1, 1) := by decide +kernel
theorem dX8_isPart_1 : decode cX8_isPart 1 = .ok (.iconst 0, 1) := by decide +kernel
theorem dX8_isPart_2 : decode cX8_isPart 2 = .ok (.aload_n 0, 1) := by decide +kernel
theorem dX8_isPart_3 : decode cX8_isPart 3 = .ok (.getfield 7, 3) := by decide +kernel
theorem dX8_isPart_6 : decode cX8_isPart 6 = .ok (.iconst 4, 1) := by decide +kernel
theorem dX8_isPart_7 : decode cX8_isPart 7 = .ok (.iaload, 1) := by decide +kernel
theorem dX8_isPart_8 : decode cX8_isPart 8 = .ok (.iconst 1, 1) := by decide +kernel
theorem dX8_isPart_9 : decode cX8_isPart 9 = .ok (.isub, 1) := by decide +kernel
theorem dX8_isPart_10 : decode cX8_isPart 10 = .ok (.invokestatic 26, 3) := by decide +kernel
theorem dX8_isPart_13 : decode cX8_isPart 13 = .ok (.ireturn, 1) := by decide +kernel
theorem dX8_remembers_0 : decode cX8_remembers 0 = .ok (.aload_n 0, 1) := by decide +kernel
theorem dX8_remembers_1 : decode cX8_remembers 1 = .ok (.getfield 30, 3) := by decide +kernel
theorem dX8_remembers_4 : decode cX8_remembers 4 = .ok (.bipush 6, 2) := by decide +kernel
theorem dX8_remembers_6 : decode cX8_remembers 6 = .ok (.if_icmp .ne 44, 3) := by decide +kernel
theorem dX8_remembers_9 : decode cX8_remembers 9 = .ok (.iconst 0, 1) := by decide +kernel
theorem dX8_remembers_10 : decode cX8_remembers 10 = .ok (.istore_n 1, 1) := by decide +kernel
theorem dX8_remembers_11 : decode cX8_remembers 11 = .ok (.iload_n 1, 1) := by decide +kernel
theorem dX8_remembers_12 : decode cX8_remembers 12 = .ok (.sipush 805, 3) := by decide +kernel
theorem dX8_remembers_15 : decode cX8_remembers 15 = .ok (.if_icmp .ge 25, 3) := by decide +kernel
theorem dX8_remembers_18 : decode cX8_remembers 18 = .ok (.aload_n 0, 1) := by decide +kernel
theorem dX8_remembers_19 : decode cX8_remembers 19 = .ok (.getfield 13, 3) := by decide +kernel
theorem dX8_remembers_22 : decode cX8_remembers 22 = .ok (.iload_n 1, 1) := by decide +kernel
theorem dX8_remembers_23 : decode cX8_remembers 23 = .ok (.aload_n 0, 1) := by decide +kernel
theorem dX8_remembers_24 : decode cX8_remembers 24 = .ok (.getfield 13, 3) := by decide +kernel
theorem dX8_remembers_27 : decode cX8_remembers 27 = .ok (.sipush 161, 3) := by decide +kernel
theorem dX8_remembers_30 : decode cX8_remembers 30 = .ok (.iload_n 1, 1) := by decide +kernel
theorem dX8_remembers_31 : decode cX8_remembers 31 = .ok (.iadd, 1) := by decide +kernel
theorem dX8_remembers_32 : decode cX8_remembers 32 = .ok (.iaload, 1) := by decide +kernel
theorem dX8_remembers_33 : decode cX8_remembers 33 = .ok (.iastore, 1) := by decide +kernel
theorem dX8_remembers_34 : decode cX8_remembers 34 = .ok (.iinc 1 1, 3) := by decide +kernel
theorem dX8_remembers_37 : decode cX8_remembers 37 = .ok (.goto (-26), 3) := by decide +kernel
theorem dX8_remembers_40 : decode cX8_remembers 40 = .ok (.aload_n 0, 1) := by decide +kernel
theorem dX8_remembers_41 : decode cX8_remembers 41 = .ok (.dup, 1) := by decide +kernel
theorem dX8_remembers_42 : decode cX8_remembers 42 = .ok (.getfield 30, 3) := by decide +kernel
theorem dX8_remembers_45 : decode cX8_remembers 45 = .ok (.iconst 1, 1) := by decide +kernel
theorem dX8_remembers_46 : decode cX8_remembers 46 = .ok (.isub, 1) := by decide +kernel
theorem dX8_remembers_47 : decode cX8_remembers 47 = .ok (.putfield 30, 3) := by decide +kernel
theorem dX8_remembers_50 : decode cX8_remembers 50 = .ok (.iconst 0, 1) := by decide +kernel
theorem dX8_remembers_51 : decode cX8_remembers 51 = .ok (.istore_n 1, 1) := by decide +kernel
theorem dX8_remembers_52 : decode cX8_remembers 52 = .ok (.iload_n 1, 1) := by decide +kernel
theorem dX8_remembers_53 : decode cX8_remembers 53 = .ok (.sipush 161, 3) := by decide +kernel
theorem dX8_remembers_56 : decode cX8_remembers 56 = .ok (.if_icmp .ge 30, 3) := by decide +kernel
theorem dX8_remembers_59 : decode cX8_remembers 59 = .ok (.aload_n 0, 1) := by decide +kernel
theorem dX8_remembers_60 : decode cX8_remembers 60 = .ok (.getfield 13, 3) := by decide +kernel
theorem dX8_remembers_63 : decode cX8_remembers 63 = .ok (.sipush 161, 3) := by decide +kernel
theorem dX8_remembers_66 : decode cX8_remembers 66 = .ok (.aload_n 0, 1) := by decide +kernel
theorem dX8_remembers_67 : decode cX8_remembers 67 = .ok (.getfield 30, 3) := by decide +kernel
theorem dX8_remembers_70 : decode cX8_remembers 70 = .ok (.imul, 1) := by decide +kernel
theorem dX8_remembers_71 : decode cX8_remembers 71 = .ok (.iload_n 1, 1) := by decide +kernel
theorem dX8_remembers_72 : decode cX8_remembers 72 = .ok (.iadd, 1) := by decide +kernel
theorem dX8_remembers_73 : decode cX8_remembers 73 = .ok (.aload_n 0, 1) := by decide +kernel
theorem dX8_remembers_74 : decode cX8_remembers 74 = .ok (.getfield 7, 3) := by decide +kernel
theorem dX8_remembers_77 : decode cX8_remembers 77 = .ok (.iload_n 1, 1) := by decide +kernel
theorem dX8_remembers_78 : decode cX8_remembers 78 = .ok (.iaload, 1) := by decide +kernel
theorem dX8_remembers_79 : decode cX8_remembers 79 = .ok (.iastore, 1) := by decide +kernel
theorem dX8_remembers_80 : decode cX8_remembers 80 = .ok (.iinc 1 1, 3) := by decide +kernel
theorem dX8_remembers_83 : decode cX8_remembers 83 = .ok (.goto (-31), 3) := by decide +kernel
theorem dX8_remembers_86 : decode cX8_remembers 86 = .ok (.aload_n 0, 1) := by decide +kernel
theorem dX8_remembers_87 : decode cX8_remembers 87 = .ok (.dup, 1) := by decide +kernel
theorem dX8_remembers_88 : decode cX8_remembers 88 = .ok (.getfield 30, 3) := by decide +kernel
theorem dX8_remembers_91 : decode cX8_remembers 91 = .ok (.iconst 1, 1) := by decide +kernel
theorem dX8_remembers_92 : decode cX8_remembers 92 = .ok (.iadd, 1) := by decide +kernel
theorem dX8_remembers_93 : decode cX8_remembers 93 = .ok (.putfield 30, 3) := by decide +kernel
theorem dX8_remembers_96 : decode cX8_remembers 96 = .ok (.return_, 1) := by decide +kernel
theorem dX8_copies_0 : decode cX8_copies 0 = .ok (.iconst 0, 1) := by decide +kernel
theorem dX8_copies_1 : decode cX8_copies 1 = .ok (.istore_n 1, 1) := by decide +kernel
theorem dX8_copies_2 : decode cX8_copies 2 = .ok (.iload_n 1, 1) := by decide +kernel
theorem dX8_copies_3 : decode cX8_copies 3 = .ok (.sipush 161, 3) := by decide +kernel
theorem dX8_copies_6 : decode cX8_copies 6 = .ok (.if_icmp .ge 25, 3) := by decide +kernel
theorem dX8_copies_9 : decode cX8_copies 9 = .ok (.aload_n 0, 1) := by decide +kernel
theorem dX8_copies_10 : decode cX8_copies 10 = .ok (.getfield 7, 3) := by decide +kernel
theorem dX8_copies_13 : decode cX8_copies 13 = .ok (.sipush 161, 3) := by decide +kernel
theorem dX8_copies_16 : decode cX8_copies 16 = .ok (.iload_n 1, 1) := by decide +kernel
theorem dX8_copies_17 : decode cX8_copies 17 = .ok (.iadd, 1) := by decide +kernel
theorem dX8_copies_18 : decode cX8_copies 18 = .ok (.aload_n 0, 1) := by decide +kernel
theorem dX8_copies_19 : decode cX8_copies 19 = .ok (.getfield 7, 3) := by decide +kernel
theorem dX8_copies_22 : decode cX8_copies 22 = .ok (.iload_n 1, 1) := by decide +kernel
theorem dX8_copies_23 : decode cX8_copies 23 = .ok (.iaload, 1) := by decide +kernel
theorem dX8_copies_24 : decode cX8_copies 24 = .ok (.iastore, 1) := by decide +kernel
theorem dX8_copies_25 : decode cX8_copies 25 = .ok (.iinc 1 1, 3) := by decide +kernel
theorem dX8_copies_28 : decode cX8_copies 28 = .ok (.goto (-26), 3) := by decide +kernel
theorem dX8_copies_31 : decode cX8_copies 31 = .ok (.return_, 1) := by decide +kernel
theorem dX8_drops_0 : decode cX8_drops 0 = .ok (.aload_n 0, 1) := by decide +kernel
theorem dX8_drops_1 : decode cX8_drops 1 = .ok (.getfield 7, 3) := by decide +kernel
theorem dX8_drops_4 : decode cX8_drops 4 = .ok (.iload_n 1, 1) := by decide +kernel
theorem dX8_drops_5 : decode cX8_drops 5 = .ok (.bipush 7, 2) := by decide +kernel
theorem dX8_drops_7 : decode cX8_drops 7 = .ok (.iadd, 1) := by decide +kernel
theorem dX8_drops_8 : decode cX8_drops 8 = .ok (.aload_n 0, 1) := by decide +kernel
theorem dX8_drops_9 : decode cX8_drops 9 = .ok (.getfield 7, 3) := by decide +kernel
theorem dX8_drops_12 : decode cX8_drops 12 = .ok (.iload_n 1, 1) := by decide +kernel
theorem dX8_drops_13 : decode cX8_drops 13 = .ok (.bipush 7, 2) := by decide +kernel
theorem dX8_drops_15 : decode cX8_drops 15 = .ok (.iadd, 1) := by decide +kernel
theorem dX8_drops_16 : decode cX8_drops 16 = .ok (.iaload, 1) := by decide +kernel
theorem dX8_drops_17 : decode cX8_drops 17 = .ok (.iconst 4, 1) := by decide +kernel
theorem dX8_drops_18 : decode cX8_drops 18 = .ok (.iload_n 2, 1) := by decide +kernel
theorem dX8_drops_19 : decode cX8_drops 19 = .ok (.imul, 1) := by decide +kernel
theorem dX8_drops_20 : decode cX8_drops 20 = .ok (.iadd, 1) := by decide +kernel
theorem dX8_drops_21 : decode cX8_drops 21 = .ok (.bipush 99, 2) := by decide +kernel
theorem dX8_drops_23 : decode cX8_drops 23 = .ok (.invokestatic 34, 3) := by decide +kernel
theorem dX8_drops_26 : decode cX8_drops 26 = .ok (.iastore, 1) := by decide +kernel
theorem dX8_drops_27 : decode cX8_drops 27 = .ok (.aload_n 0, 1) := by decide +kernel
theorem dX8_drops_28 : decode cX8_drops 28 = .ok (.getfield 7, 3) := by decide +kernel
theorem dX8_drops_31 : decode cX8_drops 31 = .ok (.iload_n 1, 1) := by decide +kernel
theorem dX8_drops_32 : decode cX8_drops 32 = .ok (.bipush 9, 2) := by decide +kernel
theorem dX8_drops_34 : decode cX8_drops 34 = .ok (.iadd, 1) := by decide +kernel
theorem dX8_drops_35 : decode cX8_drops 35 = .ok (.aload_n 0, 1) := by decide +kernel
theorem dX8_drops_36 : decode cX8_drops 36 = .ok (.getfield 7, 3) := by decide +kernel
theorem dX8_drops_39 : decode cX8_drops 39 = .ok (.iload_n 1, 1) := by decide +kernel
theorem dX8_drops_40 : decode cX8_drops 40 = .ok (.bipush 9, 2) := by decide +kernel
theorem dX8_drops_42 : decode cX8_drops 42 = .ok (.iadd, 1) := by decide +kernel
theorem dX8_drops_43 : decode cX8_drops 43 = .ok (.iaload, 1) := by decide +kernel
theorem dX8_drops_44 : decode cX8_drops 44 = .ok (.aload_n 0, 1) := by decide +kernel
theorem dX8_drops_45 : decode cX8_drops 45 = .ok (.getfield 7, 3) := by decide +kernel
theorem dX8_drops_48 : decode cX8_drops 48 = .ok (.iload_n 1, 1) := by decide +kernel
theorem dX8_drops_49 : decode cX8_drops 49 = .ok (.iconst 1, 1) := by decide +kernel
theorem dX8_drops_50 : decode cX8_drops 50 = .ok (.iadd, 1) := by decide +kernel
theorem dX8_drops_51 : decode cX8_drops 51 = .ok (.iaload, 1) := by decide +kernel
theorem dX8_drops_52 : decode cX8_drops 52 = .ok (.iload_n 2, 1) := by decide +kernel
theorem dX8_drops_53 : decode cX8_drops 53 = .ok (.imul, 1) := by decide +kernel
theorem dX8_drops_54 : decode cX8_drops 54 = .ok (.iadd, 1) := by decide +kernel
theorem dX8_drops_55 : decode cX8_drops 55 = .ok (.bipush 99, 2) := by decide +kernel
theorem dX8_drops_57 : decode cX8_drops 57 = .ok (.invokestatic 34, 3) := by decide +kernel
theorem dX8_drops_60 : decode cX8_drops 60 = .ok (.iastore, 1) := by decide +kernel
theorem dX8_drops_61 : decode cX8_drops 61 = .ok (.aload_n 0, 1) := by decide +kernel
theorem dX8_drops_62 : decode cX8_drops 62 = .ok (.getfield 7, 3) := by decide +kernel
theorem dX8_drops_65 : decode cX8_drops 65 = .ok (.iload_n 1, 1) := by decide +kernel
theorem dX8_drops_66 : decode cX8_drops 66 = .ok (.bipush 9, 2) := by decide +kernel
theorem dX8_drops_68 : decode cX8_drops 68 = .ok (.iadd, 1) := by decide +kernel
theorem dX8_drops_69 : decode cX8_drops 69 = .ok (.iaload, 1) := by decide +kernel
theorem dX8_drops_70 : decode cX8_drops 70 = .ok (.iconst 4, 1) := by decide +kernel
theorem dX8_drops_71 : decode cX8_drops 71 = .ok (.idiv, 1) := by decide +kernel
theorem dX8_drops_72 : decode cX8_drops 72 = .ok (.istore_n 3, 1) := by decide +kernel
theorem dX8_drops_73 : decode cX8_drops 73 = .ok (.aload_n 0, 1) := by decide +kernel
theorem dX8_drops_74 : decode cX8_drops 74 = .ok (.getfield 7, 3) := by decide +kernel
theorem dX8_drops_77 : decode cX8_drops 77 = .ok (.iload_n 1, 1) := by decide +kernel
theorem dX8_drops_78 : decode cX8_drops 78 = .ok (.bipush 8, 2) := by decide +kernel
theorem dX8_drops_80 : decode cX8_drops 80 = .ok (.iadd, 1) := by decide +kernel
theorem dX8_drops_81 : decode cX8_drops 81 = .ok (.dup2, 1) := by decide +kernel
theorem dX8_drops_82 : decode cX8_drops 82 = .ok (.iaload, 1) := by decide +kernel
theorem dX8_drops_83 : decode cX8_drops 83 = .ok (.aload_n 0, 1) := by decide +kernel
theorem dX8_drops_84 : decode cX8_drops 84 = .ok (.getfield 7, 3) := by decide +kernel
theorem dX8_drops_87 : decode cX8_drops 87 = .ok (.iload_n 1, 1) := by decide +kernel
theorem dX8_drops_88 : decode cX8_drops 88 = .ok (.bipush 10, 2) := by decide +kernel
theorem dX8_drops_90 : decode cX8_drops 90 = .ok (.iadd, 1) := by decide +kernel
theorem dX8_drops_91 : decode cX8_drops 91 = .ok (.iaload, 1) := by decide +kernel
theorem dX8_drops_92 : decode cX8_drops 92 = .ok (.iconst 2, 1) := by decide +kernel
theorem dX8_drops_93 : decode cX8_drops 93 = .ok (.irem, 1) := by decide +kernel
theorem dX8_drops_94 : decode cX8_drops 94 = .ok (.ifCond .ne 7, 3) := by decide +kernel
theorem dX8_drops_97 : decode cX8_drops 97 = .ok (.iload_n 3, 1) := by decide +kernel
theorem dX8_drops_98 : decode cX8_drops 98 = .ok (.goto 5, 3) := by decide +kernel
theorem dX8_drops_101 : decode cX8_drops 101 = .ok (.iload_n 3, 1) := by decide +kernel
theorem dX8_drops_102 : decode cX8_drops 102 = .ok (.ineg, 1) := by decide +kernel
theorem dX8_drops_103 : decode cX8_drops 103 = .ok (.iadd, 1) := by decide +kernel
theorem dX8_drops_104 : decode cX8_drops 104 = .ok (.iastore, 1) := by decide +kernel
theorem dX8_drops_105 : decode cX8_drops 105 = .ok (.return_, 1) := by decide +kernel
theorem dX8_lands_0 : decode cX8_lands 0 = .ok (.iconst 0, 1) := by decide +kernel
theorem dX8_lands_1 : decode cX8_lands 1 = .ok (.istore_n 3, 1) := by decide +kernel
theorem dX8_lands_2 : decode cX8_lands 2 = .ok (.iload_n 3, 1) := by decide +kernel
theorem dX8_lands_3 : decode cX8_lands 3 = .ok (.iload_n 2, 1) := by decide +kernel
theorem dX8_lands_4 : decode cX8_lands 4 = .ok (.if_icmp .ge 143, 3) := by decide +kernel
theorem dX8_lands_7 : decode cX8_lands 7 = .ok (.aload_n 0, 1) := by decide +kernel
theorem dX8_lands_8 : decode cX8_lands 8 = .ok (.getfield 7, 3) := by decide +kernel
theorem dX8_lands_11 : decode cX8_lands 11 = .ok (.iload_n 1, 1) := by decide +kernel
theorem dX8_lands_12 : decode cX8_lands 12 = .ok (.bipush 7, 2) := by decide +kernel
theorem dX8_lands_14 : decode cX8_lands 14 = .ok (.iadd, 1) := by decide +kernel
theorem dX8_lands_15 : decode cX8_lands 15 = .ok (.aload_n 0, 1) := by decide +kernel
theorem dX8_lands_16 : decode cX8_lands 16 = .ok (.getfield 7, 3) := by decide +kernel
theorem dX8_lands_19 : decode cX8_lands 19 = .ok (.iload_n 1, 1) := by decide +kernel
theorem dX8_lands_20 : decode cX8_lands 20 = .ok (.bipush 7, 2) := by decide +kernel
theorem dX8_lands_22 : decode cX8_lands 22 = .ok (.iadd, 1) := by decide +kernel
theorem dX8_lands_23 : decode cX8_lands 23 = .ok (.iaload, 1) := by decide +kernel
theorem dX8_lands_24 : decode cX8_lands 24 = .ok (.aload_n 0, 1) := by decide +kernel
theorem dX8_lands_25 : decode cX8_lands 25 = .ok (.getfield 7, 3) := by decide +kernel
theorem dX8_lands_28 : decode cX8_lands 28 = .ok (.iload_n 1, 1) := by decide +kernel
theorem dX8_lands_29 : decode cX8_lands 29 = .ok (.iconst 2, 1) := by decide +kernel
theorem dX8_lands_30 : decode cX8_lands 30 = .ok (.iadd, 1) := by decide +kernel
theorem dX8_lands_31 : decode cX8_lands 31 = .ok (.iaload, 1) := by decide +kernel
theorem dX8_lands_32 : decode cX8_lands 32 = .ok (.if_icmp .ge 7, 3) := by decide +kernel
theorem dX8_lands_35 : decode cX8_lands 35 = .ok (.iconst 0, 1) := by decide +kernel
theorem dX8_lands_36 : decode cX8_lands 36 = .ok (.goto 21, 3) := by decide +kernel
theorem dX8_lands_39 : decode cX8_lands 39 = .ok (.aload_n 0, 1) := by decide +kernel
theorem dX8_lands_40 : decode cX8_lands 40 = .ok (.getfield 7, 3) := by decide +kernel
theorem dX8_lands_43 : decode cX8_lands 43 = .ok (.iload_n 1, 1) := by decide +kernel
theorem dX8_lands_44 : decode cX8_lands 44 = .ok (.bipush 7, 2) := by decide +kernel
theorem dX8_lands_46 : decode cX8_lands 46 = .ok (.iadd, 1) := by decide +kernel
theorem dX8_lands_47 : decode cX8_lands 47 = .ok (.iaload, 1) := by decide +kernel
theorem dX8_lands_48 : decode cX8_lands 48 = .ok (.aload_n 0, 1) := by decide +kernel
theorem dX8_lands_49 : decode cX8_lands 49 = .ok (.getfield 7, 3) := by decide +kernel
theorem dX8_lands_52 : decode cX8_lands 52 = .ok (.iload_n 1, 1) := by decide +kernel
theorem dX8_lands_53 : decode cX8_lands 53 = .ok (.iconst 2, 1) := by decide +kernel
theorem dX8_lands_54 : decode cX8_lands 54 = .ok (.iadd, 1) := by decide +kernel
theorem dX8_lands_55 : decode cX8_lands 55 = .ok (.iaload, 1) := by decide +kernel
theorem dX8_lands_56 : decode cX8_lands 56 = .ok (.isub, 1) := by decide +kernel
theorem dX8_lands_57 : decode cX8_lands 57 = .ok (.iastore, 1) := by decide +kernel
theorem dX8_lands_58 : decode cX8_lands 58 = .ok (.aload_n 0, 1) := by decide +kernel
theorem dX8_lands_59 : decode cX8_lands 59 = .ok (.getfield 7, 3) := by decide +kernel
theorem dX8_lands_62 : decode cX8_lands 62 = .ok (.iload_n 1, 1) := by decide +kernel
theorem dX8_lands_63 : decode cX8_lands 63 = .ok (.bipush 9, 2) := by decide +kernel
theorem dX8_lands_65 : decode cX8_lands 65 = .ok (.iadd, 1) := by decide +kernel
theorem dX8_lands_66 : decode cX8_lands 66 = .ok (.dup2, 1) := by decide +kernel
theorem dX8_lands_67 : decode cX8_lands 67 = .ok (.iaload, 1) := by decide +kernel
theorem dX8_lands_68 : decode cX8_lands 68 = .ok (.aload_n 0, 1) := by decide +kernel
theorem dX8_lands_69 : decode cX8_lands 69 = .ok (.getfield 7, 3) := by decide +kernel
theorem dX8_lands_72 : decode cX8_lands 72 = .ok (.iload_n 1, 1) := by decide +kernel
theorem dX8_lands_73 : decode cX8_lands 73 = .ok (.bipush 9, 2) := by decide +kernel
theorem dX8_lands_75 : decode cX8_lands 75 = .ok (.iadd, 1) := by decide +kernel
theorem dX8_lands_76 : decode cX8_lands 76 = .ok (.iaload, 1) := by decide +kernel
theorem dX8_lands_77 : decode cX8_lands 77 = .ok (.iconst 4, 1) := by decide +kernel
theorem dX8_lands_78 : decode cX8_lands 78 = .ok (.idiv, 1) := by decide +kernel
theorem dX8_lands_79 : decode cX8_lands 79 = .ok (.isub, 1) := by decide +kernel
theorem dX8_lands_80 : decode cX8_lands 80 = .ok (.iastore, 1) := by decide +kernel
theorem dX8_lands_81 : decode cX8_lands 81 = .ok (.aload_n 0, 1) := by decide +kernel
theorem dX8_lands_82 : decode cX8_lands 82 = .ok (.getfield 7, 3) := by decide +kernel
theorem dX8_lands_85 : decode cX8_lands 85 = .ok (.iload_n 1, 1) := by decide +kernel
theorem dX8_lands_86 : decode cX8_lands 86 = .ok (.bipush 8, 2) := by decide +kernel
theorem dX8_lands_88 : decode cX8_lands 88 = .ok (.iadd, 1) := by decide +kernel
theorem dX8_lands_89 : decode cX8_lands 89 = .ok (.iaload, 1) := by decide +kernel
theorem dX8_lands_90 : decode cX8_lands 90 = .ok (.istore 4, 2) := by decide +kernel
theorem dX8_lands_92 : decode cX8_lands 92 = .ok (.aload_n 0, 1) := by decide +kernel
theorem dX8_lands_93 : decode cX8_lands 93 = .ok (.getfield 7, 3) := by decide +kernel
theorem dX8_lands_96 : decode cX8_lands 96 = .ok (.iload_n 1, 1) := by decide +kernel
theorem dX8_lands_97 : decode cX8_lands 97 = .ok (.bipush 7, 2) := by decide +kernel
theorem dX8_lands_99 : decode cX8_lands 99 = .ok (.iadd, 1) := by decide +kernel
theorem dX8_lands_100 : decode cX8_lands 100 = .ok (.iaload, 1) := by decide +kernel
theorem dX8_lands_101 : decode cX8_lands 101 = .ok (.bipush 20, 2) := by decide +kernel
theorem dX8_lands_103 : decode cX8_lands 103 = .ok (.idiv, 1) := by decide +kernel
theorem dX8_lands_104 : decode cX8_lands 104 = .ok (.iload 4, 2) := by decide +kernel
theorem dX8_lands_106 : decode cX8_lands 106 = .ok (.invokestatic 38, 3) := by decide +kernel
theorem dX8_lands_109 : decode cX8_lands 109 = .ok (.invokestatic 34, 3) := by decide +kernel
theorem dX8_lands_112 : decode cX8_lands 112 = .ok (.istore 5, 2) := by decide +kernel
theorem dX8_lands_114 : decode cX8_lands 114 = .ok (.aload_n 0, 1) := by decide +kernel
theorem dX8_lands_115 : decode cX8_lands 115 = .ok (.getfield 7, 3) := by decide +kernel
theorem dX8_lands_118 : decode cX8_lands 118 = .ok (.iload_n 1, 1) := by decide +kernel
theorem dX8_lands_119 : decode cX8_lands 119 = .ok (.bipush 8, 2) := by decide +kernel
theorem dX8_lands_121 : decode cX8_lands 121 = .ok (.iadd, 1) := by decide +kernel
theorem dX8_lands_122 : decode cX8_lands 122 = .ok (.iload 4, 2) := by decide +kernel
theorem dX8_lands_124 : decode cX8_lands 124 = .ok (.ifCond .ge 11, 3) := by decide +kernel
theorem dX8_lands_127 : decode cX8_lands 127 = .ok (.iload 4, 2) := by decide +kernel
theorem dX8_lands_129 : decode cX8_lands 129 = .ok (.iload 5, 2) := by decide +kernel
theorem dX8_lands_131 : decode cX8_lands 131 = .ok (.iadd, 1) := by decide +kernel
theorem dX8_lands_132 : decode cX8_lands 132 = .ok (.goto 8, 3) := by decide +kernel
theorem dX8_lands_135 : decode cX8_lands 135 = .ok (.iload 4, 2) := by decide +kernel
theorem dX8_lands_137 : decode cX8_lands 137 = .ok (.iload 5, 2) := by decide +kernel
theorem dX8_lands_139 : decode cX8_lands 139 = .ok (.isub, 1) := by decide +kernel
theorem dX8_lands_140 : decode cX8_lands 140 = .ok (.iastore, 1) := by decide +kernel
theorem dX8_lands_141 : decode cX8_lands 141 = .ok (.iinc 3 1, 3) := by decide +kernel
theorem dX8_lands_144 : decode cX8_lands 144 = .ok (.goto (-142), 3) := by decide +kernel
theorem dX8_lands_147 : decode cX8_lands 147 = .ok (.return_, 1) := by decide +kernel
theorem dX8_passesPart_0 : decode cX8_passesPart 0 = .ok (.iload_n 1, 1) := by decide +kernel
theorem dX8_passesPart_1 : decode cX8_passesPart 1 = .ok (.aload_n 0, 1) := by decide +kernel
theorem dX8_passesPart_2 : decode cX8_passesPart 2 = .ok (.getfield 7, 3) := by decide +kernel
theorem dX8_passesPart_5 : decode cX8_passesPart 5 = .ok (.iload_n 1, 1) := by decide +kernel
theorem dX8_passesPart_6 : decode cX8_passesPart 6 = .ok (.bipush 10, 2) := by decide +kernel
theorem dX8_passesPart_8 : decode cX8_passesPart 8 = .ok (.iadd, 1) := by decide +kernel
theorem dX8_passesPart_9 : decode cX8_passesPart 9 = .ok (.iaload, 1) := by decide +kernel
theorem dX8_passesPart_10 : decode cX8_passesPart 10 = .ok (.invokestatic 42, 3) := by decide +kernel
theorem dX8_passesPart_13 : decode cX8_passesPart 13 = .ok (.istore_n 2, 1) := by decide +kernel
theorem dX8_passesPart_14 : decode cX8_passesPart 14 = .ok (.aload_n 0, 1) := by decide +kernel
theorem dX8_passesPart_15 : decode cX8_passesPart 15 = .ok (.getfield 7, 3) := by decide +kernel
theorem dX8_passesPart_18 : decode cX8_passesPart 18 = .ok (.iload_n 2, 1) := by decide +kernel
theorem dX8_passesPart_19 : decode cX8_passesPart 19 = .ok (.iconst 1, 1) := by decide +kernel
theorem dX8_passesPart_20 : decode cX8_passesPart 20 = .ok (.iadd, 1) := by decide +kernel
theorem dX8_passesPart_21 : decode cX8_passesPart 21 = .ok (.iaload, 1) := by decide +kernel
theorem dX8_passesPart_22 : decode cX8_passesPart 22 = .ok (.istore_n 3, 1) := by decide +kernel
theorem dX8_passesPart_23 : decode cX8_passesPart 23 = .ok (.aload_n 0, 1) := by decide +kernel
theorem dX8_passesPart_24 : decode cX8_passesPart 24 = .ok (.getfield 7, 3) := by decide +kernel
theorem dX8_passesPart_27 : decode cX8_passesPart 27 = .ok (.iload_n 2, 1) := by decide +kernel
theorem dX8_passesPart_28 : decode cX8_passesPart 28 = .ok (.iaload, 1) := by decide +kernel
theorem dX8_passesPart_29 : decode cX8_passesPart 29 = .ok (.ifCond .ne 12, 3) := by decide +kernel
theorem dX8_passesPart_32 : decode cX8_passesPart 32 = .ok (.aload_n 0, 1) := by decide +kernel
theorem dX8_passesPart_33 : decode cX8_passesPart 33 = .ok (.iload_n 1, 1) := by decide +kernel
theorem dX8_passesPart_34 : decode cX8_passesPart 34 = .ok (.iload_n 3, 1) := by decide +kernel
theorem dX8_passesPart_35 : decode cX8_passesPart 35 = .ok (.invokevirtual 45, 3) := by decide +kernel
theorem dX8_passesPart_38 : decode cX8_passesPart 38 = .ok (.goto 60, 3) := by decide +kernel
theorem dX8_passesPart_41 : decode cX8_passesPart 41 = .ok (.aload_n 0, 1) := by decide +kernel
theorem dX8_passesPart_42 : decode cX8_passesPart 42 = .ok (.getfield 7, 3) := by decide +kernel
theorem dX8_passesPart_45 : decode cX8_passesPart 45 = .ok (.iload_n 2, 1) := by decide +kernel
theorem dX8_passesPart_46 : decode cX8_passesPart 46 = .ok (.iaload, 1) := by decide +kernel
theorem dX8_passesPart_47 : decode cX8_passesPart 47 = .ok (.iconst 1, 1) := by decide +kernel
theorem dX8_passesPart_48 : decode cX8_passesPart 48 = .ok (.if_icmp .ne 23, 3) := by decide +kernel
theorem dX8_passesPart_51 : decode cX8_passesPart 51 = .ok (.aload_n 0, 1) := by decide +kernel
theorem dX8_passesPart_52 : decode cX8_passesPart 52 = .ok (.iload_n 1, 1) := by decide +kernel
theorem dX8_passesPart_53 : decode cX8_passesPart 53 = .ok (.iload_n 3, 1) := by decide +kernel
theorem dX8_passesPart_54 : decode cX8_passesPart 54 = .ok (.invokevirtual 49, 3) := by decide +kernel
theorem dX8_passesPart_57 : decode cX8_passesPart 57 = .ok (.aload_n 0, 1) := by decide +kernel
theorem dX8_passesPart_58 : decode cX8_passesPart 58 = .ok (.getfield 7, 3) := by decide +kernel
theorem dX8_passesPart_61 : decode cX8_passesPart 61 = .ok (.iload_n 1, 1) := by decide +kernel
theorem dX8_passesPart_62 : decode cX8_passesPart 62 = .ok (.bipush 7, 2) := by decide +kernel
theorem dX8_passesPart_64 : decode cX8_passesPart 64 = .ok (.iadd, 1) := by decide +kernel
theorem dX8_passesPart_65 : decode cX8_passesPart 65 = .ok (.iaload, 1) := by decide +kernel
theorem dX8_passesPart_66 : decode cX8_passesPart 66 = .ok (.ifCond .ne 32, 3) := by decide +kernel
theorem dX8_passesPart_69 : decode cX8_passesPart 69 = .ok (.iconst 3, 1) := by decide +kernel
theorem dX8_passesPart_70 : decode cX8_passesPart 70 = .ok (.ireturn, 1) := by decide +kernel
theorem dX8_passesPart_71 : decode cX8_passesPart 71 = .ok (.aload_n 0, 1) := by decide +kernel
theorem dX8_passesPart_72 : decode cX8_passesPart 72 = .ok (.getfield 7, 3) := by decide +kernel
theorem dX8_passesPart_75 : decode cX8_passesPart 75 = .ok (.iload_n 1, 1) := by decide +kernel
theorem dX8_passesPart_76 : decode cX8_passesPart 76 = .ok (.bipush 6, 2) := by decide +kernel
theorem dX8_passesPart_78 : decode cX8_passesPart 78 = .ok (.iadd, 1) := by decide +kernel
theorem dX8_passesPart_79 : decode cX8_passesPart 79 = .ok (.iaload, 1) := by decide +kernel
theorem dX8_passesPart_80 : decode cX8_passesPart 80 = .ok (.aload_n 0, 1) := by decide +kernel
theorem dX8_passesPart_81 : decode cX8_passesPart 81 = .ok (.getfield 7, 3) := by decide +kernel
theorem dX8_passesPart_84 : decode cX8_passesPart 84 = .ok (.iload_n 1, 1) := by decide +kernel
theorem dX8_passesPart_85 : decode cX8_passesPart 85 = .ok (.bipush 9, 2) := by decide +kernel
theorem dX8_passesPart_87 : decode cX8_passesPart 87 = .ok (.iadd, 1) := by decide +kernel
theorem dX8_passesPart_88 : decode cX8_passesPart 88 = .ok (.iaload, 1) := by decide +kernel
theorem dX8_passesPart_89 : decode cX8_passesPart 89 = .ok (.iconst 4, 1) := by decide +kernel
theorem dX8_passesPart_90 : decode cX8_passesPart 90 = .ok (.idiv, 1) := by decide +kernel
theorem dX8_passesPart_91 : decode cX8_passesPart 91 = .ok (.iadd, 1) := by decide +kernel
theorem dX8_passesPart_92 : decode cX8_passesPart 92 = .ok (.iload_n 3, 1) := by decide +kernel
theorem dX8_passesPart_93 : decode cX8_passesPart 93 = .ok (.if_icmp .le 5, 3) := by decide +kernel
theorem dX8_passesPart_96 : decode cX8_passesPart 96 = .ok (.iconst 2, 1) := by decide +kernel
theorem dX8_passesPart_97 : decode cX8_passesPart 97 = .ok (.ireturn, 1) := by decide +kernel
theorem dX8_passesPart_98 : decode cX8_passesPart 98 = .ok (.aload_n 0, 1) := by decide +kernel
theorem dX8_passesPart_99 : decode cX8_passesPart 99 = .ok (.getfield 7, 3) := by decide +kernel
theorem dX8_passesPart_102 : decode cX8_passesPart 102 = .ok (.iload_n 1, 1) := by decide +kernel
theorem dX8_passesPart_103 : decode cX8_passesPart 103 = .ok (.bipush 8, 2) := by decide +kernel
theorem dX8_passesPart_105 : decode cX8_passesPart 105 = .ok (.iadd, 1) := by decide +kernel
theorem dX8_passesPart_106 : decode cX8_passesPart 106 = .ok (.iaload, 1) := by decide +kernel
theorem dX8_passesPart_107 : decode cX8_passesPart 107 = .ok (.invokestatic 38, 3) := by decide +kernel
theorem dX8_passesPart_110 : decode cX8_passesPart 110 = .ok (.istore 4, 2) := by decide +kernel
theorem dX8_passesPart_112 : decode cX8_passesPart 112 = .ok (.aload_n 0, 1) := by decide +kernel
theorem dX8_passesPart_113 : decode cX8_passesPart 113 = .ok (.iload 4, 2) := by decide +kernel
theorem dX8_passesPart_115 : decode cX8_passesPart 115 = .ok (.aload_n 0, 1) := by decide +kernel
theorem dX8_passesPart_116 : decode cX8_passesPart 116 = .ok (.getfield 52, 3) := by decide +kernel
theorem dX8_passesPart_119 : decode cX8_passesPart 119 = .ok (.if_icmp .le 8, 3) := by decide +kernel
theorem dX8_passesPart_122 : decode cX8_passesPart 122 = .ok (.iload 4, 2) := by decide +kernel
theorem dX8_passesPart_124 : decode cX8_passesPart 124 = .ok (.goto 7, 3) := by decide +kernel
theorem dX8_passesPart_127 : decode cX8_passesPart 127 = .ok (.aload_n 0, 1) := by decide +kernel
theorem dX8_passesPart_128 : decode cX8_passesPart 128 = .ok (.getfield 52, 3) := by decide +kernel
theorem dX8_passesPart_131 : decode cX8_passesPart 131 = .ok (.putfield 52, 3) := by decide +kernel
theorem dX8_passesPart_134 : decode cX8_passesPart 134 = .ok (.iload 4, 2) := by decide +kernel
theorem dX8_passesPart_136 : decode cX8_passesPart 136 = .ok (.aload_n 0, 1) := by decide +kernel
theorem dX8_passesPart_137 : decode cX8_passesPart 137 = .ok (.getfield 7, 3) := by decide +kernel
theorem dX8_passesPart_140 : decode cX8_passesPart 140 = .ok (.iload_n 1, 1) := by decide +kernel
theorem dX8_passesPart_141 : decode cX8_passesPart 141 = .ok (.iconst 0, 1) := by decide +kernel
theorem dX8_passesPart_142 : decode cX8_passesPart 142 = .ok (.iadd, 1) := by decide +kernel
theorem dX8_passesPart_143 : decode cX8_passesPart 143 = .ok (.iaload, 1) := by decide +kernel
theorem dX8_passesPart_144 : decode cX8_passesPart 144 = .ok (.if_icmp .lt 5, 3) := by decide +kernel
theorem dX8_passesPart_147 : decode cX8_passesPart 147 = .ok (.iconst 1, 1) := by decide +kernel
theorem dX8_passesPart_148 : decode cX8_passesPart 148 = .ok (.ireturn, 1) := by decide +kernel
theorem dX8_passesPart_149 : decode cX8_passesPart 149 = .ok (.aload_n 0, 1) := by decide +kernel
theorem dX8_passesPart_150 : decode cX8_passesPart 150 = .ok (.getfield 7, 3) := by decide +kernel
theorem dX8_passesPart_153 : decode cX8_passesPart 153 = .ok (.iload_n 1, 1) := by decide +kernel
theorem dX8_passesPart_154 : decode cX8_passesPart 154 = .ok (.bipush 10, 2) := by decide +kernel
theorem dX8_passesPart_156 : decode cX8_passesPart 156 = .ok (.iadd, 1) := by decide +kernel
theorem dX8_passesPart_157 : decode cX8_passesPart 157 = .ok (.dup2, 1) := by decide +kernel
theorem dX8_passesPart_158 : decode cX8_passesPart 158 = .ok (.iaload, 1) := by decide +kernel
theorem dX8_passesPart_159 : decode cX8_passesPart 159 = .ok (.iconst 1, 1) := by decide +kernel
theorem dX8_passesPart_160 : decode cX8_passesPart 160 = .ok (.iadd, 1) := by decide +kernel
theorem dX8_passesPart_161 : decode cX8_passesPart 161 = .ok (.iastore, 1) := by decide +kernel
theorem dX8_passesPart_162 : decode cX8_passesPart 162 = .ok (.iconst 0, 1) := by decide +kernel
theorem dX8_passesPart_163 : decode cX8_passesPart 163 = .ok (.ireturn, 1) := by decide +kernel
theorem dX8_lists_0 : decode cX8_lists 0 = .ok (.bipush 39, 2) := by decide +kernel
theorem dX8_lists_2 : decode cX8_lists 2 = .ok (.istore_n 2, 1) := by decide +kernel
theorem dX8_lists_3 : decode cX8_lists 3 = .ok (.iload_n 2, 1) := by decide +kernel
theorem dX8_lists_4 : decode cX8_lists 4 = .ok (.iconst 4, 1) := by decide +kernel
theorem dX8_lists_5 : decode cX8_lists 5 = .ok (.if_icmp .lt 33, 3) := by decide +kernel
theorem dX8_lists_8 : decode cX8_lists 8 = .ok (.aload_n 0, 1) := by decide +kernel
theorem dX8_lists_9 : decode cX8_lists 9 = .ok (.getfield 7, 3) := by decide +kernel
theorem dX8_lists_12 : decode cX8_lists 12 = .ok (.iload_n 1, 1) := by decide +kernel
theorem dX8_lists_13 : decode cX8_lists 13 = .ok (.bipush 21, 2) := by decide +kernel
theorem dX8_lists_15 : decode cX8_lists 15 = .ok (.iadd, 1) := by decide +kernel
theorem dX8_lists_16 : decode cX8_lists 16 = .ok (.iload_n 2, 1) := by decide +kernel
theorem dX8_lists_17 : decode cX8_lists 17 = .ok (.iadd, 1) := by decide +kernel
theorem dX8_lists_18 : decode cX8_lists 18 = .ok (.aload_n 0, 1) := by decide +kernel
theorem dX8_lists_19 : decode cX8_lists 19 = .ok (.getfield 7, 3) := by decide +kernel
theorem dX8_lists_22 : decode cX8_lists 22 = .ok (.iload_n 1, 1) := by decide +kernel
theorem dX8_lists_23 : decode cX8_lists 23 = .ok (.bipush 21, 2) := by decide +kernel
theorem dX8_lists_25 : decode cX8_lists 25 = .ok (.iadd, 1) := by decide +kernel
theorem dX8_lists_26 : decode cX8_lists 26 = .ok (.iload_n 2, 1) := by decide +kernel
theorem dX8_lists_27 : decode cX8_lists 27 = .ok (.iadd, 1) := by decide +kernel
theorem dX8_lists_28 : decode cX8_lists 28 = .ok (.iconst 4, 1) := by decide +kernel
theorem dX8_lists_29 : decode cX8_lists 29 = .ok (.isub, 1) := by decide +kernel
theorem dX8_lists_30 : decode cX8_lists 30 = .ok (.iaload, 1) := by decide +kernel
theorem dX8_lists_31 : decode cX8_lists 31 = .ok (.iastore, 1) := by decide +kernel
theorem dX8_lists_32 : decode cX8_lists 32 = .ok (.iinc 2 (-1), 3) := by decide +kernel
theorem dX8_lists_35 : decode cX8_lists 35 = .ok (.goto (-32), 3) := by decide +kernel
theorem dX8_lists_38 : decode cX8_lists 38 = .ok (.aload_n 0, 1) := by decide +kernel
theorem dX8_lists_39 : decode cX8_lists 39 = .ok (.getfield 7, 3) := by decide +kernel
theorem dX8_lists_42 : decode cX8_lists 42 = .ok (.iload_n 1, 1) := by decide +kernel
theorem dX8_lists_43 : decode cX8_lists 43 = .ok (.bipush 21, 2) := by decide +kernel
theorem dX8_lists_45 : decode cX8_lists 45 = .ok (.iadd, 1) := by decide +kernel
theorem dX8_lists_46 : decode cX8_lists 46 = .ok (.aload_n 0, 1) := by decide +kernel
theorem dX8_lists_47 : decode cX8_lists 47 = .ok (.getfield 7, 3) := by decide +kernel
theorem dX8_lists_50 : decode cX8_lists 50 = .ok (.iload_n 1, 1) := by decide +kernel
theorem dX8_lists_51 : decode cX8_lists 51 = .ok (.bipush 6, 2) := by decide +kernel
theorem dX8_lists_53 : decode cX8_lists 53 = .ok (.iadd, 1) := by decide +kernel
theorem dX8_lists_54 : decode cX8_lists 54 = .ok (.iaload, 1) := by decide +kernel
theorem dX8_lists_55 : decode cX8_lists 55 = .ok (.iastore, 1) := by decide +kernel
theorem dX8_lists_56 : decode cX8_lists 56 = .ok (.aload_n 0, 1) := by decide +kernel
theorem dX8_lists_57 : decode cX8_lists 57 = .ok (.getfield 7, 3) := by decide +kernel
theorem dX8_lists_60 : decode cX8_lists 60 = .ok (.iload_n 1, 1) := by decide +kernel
theorem dX8_lists_61 : decode cX8_lists 61 = .ok (.bipush 21, 2) := by decide +kernel
theorem dX8_lists_63 : decode cX8_lists 63 = .ok (.iadd, 1) := by decide +kernel
theorem dX8_lists_64 : decode cX8_lists 64 = .ok (.iconst 1, 1) := by decide +kernel
theorem dX8_lists_65 : decode cX8_lists 65 = .ok (.iadd, 1) := by decide +kernel
theorem dX8_lists_66 : decode cX8_lists 66 = .ok (.aload_n 0, 1) := by decide +kernel
theorem dX8_lists_67 : decode cX8_lists 67 = .ok (.getfield 7, 3) := by decide +kernel
theorem dX8_lists_70 : decode cX8_lists 70 = .ok (.iload_n 1, 1) := by decide +kernel
theorem dX8_lists_71 : decode cX8_lists 71 = .ok (.bipush 11, 2) := by decide +kernel
theorem dX8_lists_73 : decode cX8_lists 73 = .ok (.iadd, 1) := by decide +kernel
theorem dX8_lists_74 : decode cX8_lists 74 = .ok (.iaload, 1) := by decide +kernel
theorem dX8_lists_75 : decode cX8_lists 75 = .ok (.iastore, 1) := by decide +kernel
theorem dX8_lists_76 : decode cX8_lists 76 = .ok (.aload_n 0, 1) := by decide +kernel
theorem dX8_lists_77 : decode cX8_lists 77 = .ok (.getfield 7, 3) := by decide +kernel
theorem dX8_lists_80 : decode cX8_lists 80 = .ok (.iload_n 1, 1) := by decide +kernel
theorem dX8_lists_81 : decode cX8_lists 81 = .ok (.bipush 21, 2) := by decide +kernel
theorem dX8_lists_83 : decode cX8_lists 83 = .ok (.iadd, 1) := by decide +kernel
theorem dX8_lists_84 : decode cX8_lists 84 = .ok (.iconst 2, 1) := by decide +kernel
theorem dX8_lists_85 : decode cX8_lists 85 = .ok (.iadd, 1) := by decide +kernel
theorem dX8_lists_86 : decode cX8_lists 86 = .ok (.aload_n 0, 1) := by decide +kernel
theorem dX8_lists_87 : decode cX8_lists 87 = .ok (.getfield 7, 3) := by decide +kernel
theorem dX8_lists_90 : decode cX8_lists 90 = .ok (.iload_n 1, 1) := by decide +kernel
theorem dX8_lists_91 : decode cX8_lists 91 = .ok (.bipush 10, 2) := by decide +kernel
theorem dX8_lists_93 : decode cX8_lists 93 = .ok (.iadd, 1) := by decide +kernel
theorem dX8_lists_94 : decode cX8_lists 94 = .ok (.iaload, 1) := by decide +kernel
theorem dX8_lists_95 : decode cX8_lists 95 = .ok (.iastore, 1) := by decide +kernel
theorem dX8_lists_96 : decode cX8_lists 96 = .ok (.aload_n 0, 1) := by decide +kernel
theorem dX8_lists_97 : decode cX8_lists 97 = .ok (.getfield 7, 3) := by decide +kernel
theorem dX8_lists_100 : decode cX8_lists 100 = .ok (.iload_n 1, 1) := by decide +kernel
theorem dX8_lists_101 : decode cX8_lists 101 = .ok (.bipush 21, 2) := by decide +kernel
theorem dX8_lists_103 : decode cX8_lists 103 = .ok (.iadd, 1) := by decide +kernel
theorem dX8_lists_104 : decode cX8_lists 104 = .ok (.iconst 3, 1) := by decide +kernel
theorem dX8_lists_105 : decode cX8_lists 105 = .ok (.iadd, 1) := by decide +kernel
theorem dX8_lists_106 : decode cX8_lists 106 = .ok (.aload_n 0, 1) := by decide +kernel
theorem dX8_lists_107 : decode cX8_lists 107 = .ok (.getfield 7, 3) := by decide +kernel
theorem dX8_lists_110 : decode cX8_lists 110 = .ok (.iload_n 1, 1) := by decide +kernel
theorem dX8_lists_111 : decode cX8_lists 111 = .ok (.bipush 12, 2) := by decide +kernel
theorem dX8_lists_113 : decode cX8_lists 113 = .ok (.iadd, 1) := by decide +kernel
theorem dX8_lists_114 : decode cX8_lists 114 = .ok (.iaload, 1) := by decide +kernel
theorem dX8_lists_115 : decode cX8_lists 115 = .ok (.iastore, 1) := by decide +kernel
theorem dX8_lists_116 : decode cX8_lists 116 = .ok (.aload_n 0, 1) := by decide +kernel
theorem dX8_lists_117 : decode cX8_lists 117 = .ok (.getfield 7, 3) := by decide +kernel
theorem dX8_lists_120 : decode cX8_lists 120 = .ok (.iload_n 1, 1) := by decide +kernel
theorem dX8_lists_121 : decode cX8_lists 121 = .ok (.bipush 20, 2) := by decide +kernel
theorem dX8_lists_123 : decode cX8_lists 123 = .ok (.iadd, 1) := by decide +kernel
theorem dX8_lists_124 : decode cX8_lists 124 = .ok (.dup2, 1) := by decide +kernel
theorem dX8_lists_125 : decode cX8_lists 125 = .ok (.iaload, 1) := by decide +kernel
theorem dX8_lists_126 : decode cX8_lists 126 = .ok (.aload_n 0, 1) := by decide +kernel
theorem dX8_lists_127 : decode cX8_lists 127 = .ok (.getfield 7, 3) := by decide +kernel
theorem dX8_lists_130 : decode cX8_lists 130 = .ok (.iload_n 1, 1) := by decide +kernel
theorem dX8_lists_131 : decode cX8_lists 131 = .ok (.bipush 20, 2) := by decide +kernel
theorem dX8_lists_133 : decode cX8_lists 133 = .ok (.iadd, 1) := by decide +kernel
theorem dX8_lists_134 : decode cX8_lists 134 = .ok (.iaload, 1) := by decide +kernel
theorem dX8_lists_135 : decode cX8_lists 135 = .ok (.bipush 10, 2) := by decide +kernel
theorem dX8_lists_137 : decode cX8_lists 137 = .ok (.if_icmp .ge 7, 3) := by decide +kernel
theorem dX8_lists_140 : decode cX8_lists 140 = .ok (.iconst 1, 1) := by decide +kernel
theorem dX8_lists_141 : decode cX8_lists 141 = .ok (.goto 4, 3) := by decide +kernel
theorem dX8_lists_144 : decode cX8_lists 144 = .ok (.iconst 0, 1) := by decide +kernel
theorem dX8_lists_145 : decode cX8_lists 145 = .ok (.iadd, 1) := by decide +kernel
theorem dX8_lists_146 : decode cX8_lists 146 = .ok (.iastore, 1) := by decide +kernel
theorem dX8_lists_147 : decode cX8_lists 147 = .ok (.return_, 1) := by decide +kernel
theorem dX8_ends_0 : decode cX8_ends 0 = .ok (.aload_n 0, 1) := by decide +kernel
theorem dX8_ends_1 : decode cX8_ends 1 = .ok (.getfield 7, 3) := by decide +kernel
theorem dX8_ends_4 : decode cX8_ends 4 = .ok (.iload_n 1, 1) := by decide +kernel
theorem dX8_ends_5 : decode cX8_ends 5 = .ok (.bipush 11, 2) := by decide +kernel
theorem dX8_ends_7 : decode cX8_ends 7 = .ok (.iadd, 1) := by decide +kernel
theorem dX8_ends_8 : decode cX8_ends 8 = .ok (.iload_n 2, 1) := by decide +kernel
theorem dX8_ends_9 : decode cX8_ends 9 = .ok (.iastore, 1) := by decide +kernel
theorem dX8_ends_10 : decode cX8_ends 10 = .ok (.aload_n 0, 1) := by decide +kernel
theorem dX8_ends_11 : decode cX8_ends 11 = .ok (.getfield 7, 3) := by decide +kernel
theorem dX8_ends_14 : decode cX8_ends 14 = .ok (.iload_n 1, 1) := by decide +kernel
theorem dX8_ends_15 : decode cX8_ends 15 = .ok (.bipush 15, 2) := by decide +kernel
theorem dX8_ends_17 : decode cX8_ends 17 = .ok (.iadd, 1) := by decide +kernel
theorem dX8_ends_18 : decode cX8_ends 18 = .ok (.iload_n 2, 1) := by decide +kernel
theorem dX8_ends_19 : decode cX8_ends 19 = .ok (.iadd, 1) := by decide +kernel
theorem dX8_ends_20 : decode cX8_ends 20 = .ok (.iconst 1, 1) := by decide +kernel
theorem dX8_ends_21 : decode cX8_ends 21 = .ok (.isub, 1) := by decide +kernel
theorem dX8_ends_22 : decode cX8_ends 22 = .ok (.dup2, 1) := by decide +kernel
theorem dX8_ends_23 : decode cX8_ends 23 = .ok (.iaload, 1) := by decide +kernel
theorem dX8_ends_24 : decode cX8_ends 24 = .ok (.iconst 1, 1) := by decide +kernel
theorem dX8_ends_25 : decode cX8_ends 25 = .ok (.iadd, 1) := by decide +kernel
theorem dX8_ends_26 : decode cX8_ends 26 = .ok (.iastore, 1) := by decide +kernel
theorem dX8_ends_27 : decode cX8_ends 27 = .ok (.iload_n 2, 1) := by decide +kernel
theorem dX8_ends_28 : decode cX8_ends 28 = .ok (.iconst 4, 1) := by decide +kernel
theorem dX8_ends_29 : decode cX8_ends 29 = .ok (.if_icmp .eq 29, 3) := by decide +kernel
theorem dX8_ends_32 : decode cX8_ends 32 = .ok (.aload_n 0, 1) := by decide +kernel
theorem dX8_ends_33 : decode cX8_ends 33 = .ok (.getfield 7, 3) := by decide +kernel
theorem dX8_ends_36 : decode cX8_ends 36 = .ok (.iload_n 1, 1) := by decide +kernel
theorem dX8_ends_37 : decode cX8_ends 37 = .ok (.aload_n 0, 1) := by decide +kernel
theorem dX8_ends_38 : decode cX8_ends 38 = .ok (.getfield 7, 3) := by decide +kernel
theorem dX8_ends_41 : decode cX8_ends 41 = .ok (.iload_n 1, 1) := by decide +kernel
theorem dX8_ends_42 : decode cX8_ends 42 = .ok (.bipush 10, 2) := by decide +kernel
theorem dX8_ends_44 : decode cX8_ends 44 = .ok (.iadd, 1) := by decide +kernel
theorem dX8_ends_45 : decode cX8_ends 45 = .ok (.iaload, 1) := by decide +kernel
theorem dX8_ends_46 : decode cX8_ends 46 = .ok (.invokestatic 42, 3) := by decide +kernel
theorem dX8_ends_49 : decode cX8_ends 49 = .ok (.iconst 1, 1) := by decide +kernel
theorem dX8_ends_50 : decode cX8_ends 50 = .ok (.iadd, 1) := by decide +kernel
theorem dX8_ends_51 : decode cX8_ends 51 = .ok (.iload_n 2, 1) := by decide +kernel
theorem dX8_ends_52 : decode cX8_ends 52 = .ok (.iadd, 1) := by decide +kernel
theorem dX8_ends_53 : decode cX8_ends 53 = .ok (.dup2, 1) := by decide +kernel
theorem dX8_ends_54 : decode cX8_ends 54 = .ok (.iaload, 1) := by decide +kernel
theorem dX8_ends_55 : decode cX8_ends 55 = .ok (.iconst 1, 1) := by decide +kernel
theorem dX8_ends_56 : decode cX8_ends 56 = .ok (.iadd, 1) := by decide +kernel
theorem dX8_ends_57 : decode cX8_ends 57 = .ok (.iastore, 1) := by decide +kernel
theorem dX8_ends_58 : decode cX8_ends 58 = .ok (.aload_n 0, 1) := by decide +kernel
theorem dX8_ends_59 : decode cX8_ends 59 = .ok (.iload_n 1, 1) := by decide +kernel
theorem dX8_ends_60 : decode cX8_ends 60 = .ok (.invokevirtual 55, 3) := by decide +kernel
theorem dX8_ends_63 : decode cX8_ends 63 = .ok (.return_, 1) := by decide +kernel
theorem dX8_rolls_0 : decode cX8_rolls 0 = .ok (.iconst 0, 1) := by decide +kernel
theorem dX8_rolls_1 : decode cX8_rolls 1 = .ok (.istore_n 3, 1) := by decide +kernel
theorem dX8_rolls_2 : decode cX8_rolls 2 = .ok (.iload_n 3, 1) := by decide +kernel
theorem dX8_rolls_3 : decode cX8_rolls 3 = .ok (.iload_n 2, 1) := by decide +kernel
theorem dX8_rolls_4 : decode cX8_rolls 4 = .ok (.if_icmp .ge 93, 3) := by decide +kernel
theorem dX8_rolls_7 : decode cX8_rolls 7 = .ok (.aload_n 0, 1) := by decide +kernel
theorem dX8_rolls_8 : decode cX8_rolls 8 = .ok (.getfield 7, 3) := by decide +kernel
theorem dX8_rolls_11 : decode cX8_rolls 11 = .ok (.iload_n 1, 1) := by decide +kernel
theorem dX8_rolls_12 : decode cX8_rolls 12 = .ok (.bipush 11, 2) := by decide +kernel
theorem dX8_rolls_14 : decode cX8_rolls 14 = .ok (.iadd, 1) := by decide +kernel
theorem dX8_rolls_15 : decode cX8_rolls 15 = .ok (.iaload, 1) := by decide +kernel
theorem dX8_rolls_16 : decode cX8_rolls 16 = .ok (.ifCond .ne 81, 3) := by decide +kernel
theorem dX8_rolls_19 : decode cX8_rolls 19 = .ok (.aload_n 0, 1) := by decide +kernel
theorem dX8_rolls_20 : decode cX8_rolls 20 = .ok (.getfield 7, 3) := by decide +kernel
theorem dX8_rolls_23 : decode cX8_rolls 23 = .ok (.iload_n 1, 1) := by decide +kernel
theorem dX8_rolls_24 : decode cX8_rolls 24 = .ok (.bipush 10, 2) := by decide +kernel
theorem dX8_rolls_26 : decode cX8_rolls 26 = .ok (.iadd, 1) := by decide +kernel
theorem dX8_rolls_27 : decode cX8_rolls 27 = .ok (.iaload, 1) := by decide +kernel
theorem dX8_rolls_28 : decode cX8_rolls 28 = .ok (.aload_n 0, 1) := by decide +kernel
theorem dX8_rolls_29 : decode cX8_rolls 29 = .ok (.getfield 7, 3) := by decide +kernel
theorem dX8_rolls_32 : decode cX8_rolls 32 = .ok (.iload_n 1, 1) := by decide +kernel
theorem dX8_rolls_33 : decode cX8_rolls 33 = .ok (.iconst 4, 1) := by decide +kernel
theorem dX8_rolls_34 : decode cX8_rolls 34 = .ok (.iadd, 1) := by decide +kernel
theorem dX8_rolls_35 : decode cX8_rolls 35 = .ok (.iaload, 1) := by decide +kernel
theorem dX8_rolls_36 : decode cX8_rolls 36 = .ok (.if_icmp .ge 11, 3) := by decide +kernel
theorem dX8_rolls_39 : decode cX8_rolls 39 = .ok (.aload_n 0, 1) := by decide +kernel
theorem dX8_rolls_40 : decode cX8_rolls 40 = .ok (.iload_n 1, 1) := by decide +kernel
theorem dX8_rolls_41 : decode cX8_rolls 41 = .ok (.invokevirtual 59, 3) := by decide +kernel
theorem dX8_rolls_44 : decode cX8_rolls 44 = .ok (.goto 4, 3) := by decide +kernel
theorem dX8_rolls_47 : decode cX8_rolls 47 = .ok (.iconst 0, 1) := by decide +kernel
theorem dX8_rolls_48 : decode cX8_rolls 48 = .ok (.istore 4, 2) := by decide +kernel
theorem dX8_rolls_50 : decode cX8_rolls 50 = .ok (.iload 4, 2) := by decide +kernel
theorem dX8_rolls_52 : decode cX8_rolls 52 = .ok (.ifCond .le 13, 3) := by decide +kernel
theorem dX8_rolls_55 : decode cX8_rolls 55 = .ok (.aload_n 0, 1) := by decide +kernel
theorem dX8_rolls_56 : decode cX8_rolls 56 = .ok (.iload_n 1, 1) := by decide +kernel
theorem dX8_rolls_57 : decode cX8_rolls 57 = .ok (.iload 4, 2) := by decide +kernel
theorem dX8_rolls_59 : decode cX8_rolls 59 = .ok (.invokevirtual 62, 3) := by decide +kernel
theorem dX8_rolls_62 : decode cX8_rolls 62 = .ok (.goto 29, 3) := by decide +kernel
theorem dX8_rolls_65 : decode cX8_rolls 65 = .ok (.aload_n 0, 1) := by decide +kernel
theorem dX8_rolls_66 : decode cX8_rolls 66 = .ok (.getfield 7, 3) := by decide +kernel
theorem dX8_rolls_69 : decode cX8_rolls 69 = .ok (.iload_n 1, 1) := by decide +kernel
theorem dX8_rolls_70 : decode cX8_rolls 70 = .ok (.bipush 10, 2) := by decide +kernel
theorem dX8_rolls_72 : decode cX8_rolls 72 = .ok (.iadd, 1) := by decide +kernel
theorem dX8_rolls_73 : decode cX8_rolls 73 = .ok (.iaload, 1) := by decide +kernel
theorem dX8_rolls_74 : decode cX8_rolls 74 = .ok (.aload_n 0, 1) := by decide +kernel
theorem dX8_rolls_75 : decode cX8_rolls 75 = .ok (.getfield 7, 3) := by decide +kernel
theorem dX8_rolls_78 : decode cX8_rolls 78 = .ok (.iload_n 1, 1) := by decide +kernel
theorem dX8_rolls_79 : decode cX8_rolls 79 = .ok (.iconst 4, 1) := by decide +kernel
theorem dX8_rolls_80 : decode cX8_rolls 80 = .ok (.iadd, 1) := by decide +kernel
theorem dX8_rolls_81 : decode cX8_rolls 81 = .ok (.iaload, 1) := by decide +kernel
theorem dX8_rolls_82 : decode cX8_rolls 82 = .ok (.if_icmp .ne 9, 3) := by decide +kernel
theorem dX8_rolls_85 : decode cX8_rolls 85 = .ok (.aload_n 0, 1) := by decide +kernel
theorem dX8_rolls_86 : decode cX8_rolls 86 = .ok (.iload_n 1, 1) := by decide +kernel
theorem dX8_rolls_87 : decode cX8_rolls 87 = .ok (.iconst 4, 1) := by decide +kernel
theorem dX8_rolls_88 : decode cX8_rolls 88 = .ok (.invokevirtual 62, 3) := by decide +kernel
theorem dX8_rolls_91 : decode cX8_rolls 91 = .ok (.iinc 3 1, 3) := by decide +kernel
theorem dX8_rolls_94 : decode cX8_rolls 94 = .ok (.goto (-92), 3) := by decide +kernel
theorem dX8_rolls_97 : decode cX8_rolls 97 = .ok (.aload_n 0, 1) := by decide +kernel
theorem dX8_rolls_98 : decode cX8_rolls 98 = .ok (.getfield 7, 3) := by decide +kernel
theorem dX8_rolls_101 : decode cX8_rolls 101 = .ok (.iload_n 1, 1) := by decide +kernel
theorem dX8_rolls_102 : decode cX8_rolls 102 = .ok (.bipush 11, 2) := by decide +kernel
theorem dX8_rolls_104 : decode cX8_rolls 104 = .ok (.iadd, 1) := by decide +kernel
theorem dX8_rolls_105 : decode cX8_rolls 105 = .ok (.iaload, 1) := by decide +kernel
theorem dX8_rolls_106 : decode cX8_rolls 106 = .ok (.ireturn, 1) := by decide +kernel
theorem dX8_begins_0 : decode cX8_begins 0 = .ok (.aload_n 0, 1) := by decide +kernel
theorem dX8_begins_1 : decode cX8_begins 1 = .ok (.getfield 7, 3) := by decide +kernel
theorem dX8_begins_4 : decode cX8_begins 4 = .ok (.iload_n 1, 1) := by decide +kernel
theorem dX8_begins_5 : decode cX8_begins 5 = .ok (.iconst 5, 1) := by decide +kernel
theorem dX8_begins_6 : decode cX8_begins 6 = .ok (.iadd, 1) := by decide +kernel
theorem dX8_begins_7 : decode cX8_begins 7 = .ok (.iconst 1, 1) := by decide +kernel
theorem dX8_begins_8 : decode cX8_begins 8 = .ok (.iastore, 1) := by decide +kernel
theorem dX8_begins_9 : decode cX8_begins 9 = .ok (.aload_n 0, 1) := by decide +kernel
theorem dX8_begins_10 : decode cX8_begins 10 = .ok (.getfield 7, 3) := by decide +kernel
theorem dX8_begins_13 : decode cX8_begins 13 = .ok (.iload_n 1, 1) := by decide +kernel
theorem dX8_begins_14 : decode cX8_begins 14 = .ok (.bipush 6, 2) := by decide +kernel
theorem dX8_begins_16 : decode cX8_begins 16 = .ok (.iadd, 1) := by decide +kernel
theorem dX8_begins_17 : decode cX8_begins 17 = .ok (.iload_n 2, 1) := by decide +kernel
theorem dX8_begins_18 : decode cX8_begins 18 = .ok (.iastore, 1) := by decide +kernel
theorem dX8_begins_19 : decode cX8_begins 19 = .ok (.aload_n 0, 1) := by decide +kernel
theorem dX8_begins_20 : decode cX8_begins 20 = .ok (.getfield 7, 3) := by decide +kernel
theorem dX8_begins_23 : decode cX8_begins 23 = .ok (.iload_n 1, 1) := by decide +kernel
theorem dX8_begins_24 : decode cX8_begins 24 = .ok (.bipush 7, 2) := by decide +kernel
theorem dX8_begins_26 : decode cX8_begins 26 = .ok (.iadd, 1) := by decide +kernel
theorem dX8_begins_27 : decode cX8_begins 27 = .ok (.bipush 10, 2) := by decide +kernel
theorem dX8_begins_29 : decode cX8_begins 29 = .ok (.iastore, 1) := by decide +kernel
theorem dX8_begins_30 : decode cX8_begins 30 = .ok (.aload_n 0, 1) := by decide +kernel
theorem dX8_begins_31 : decode cX8_begins 31 = .ok (.getfield 7, 3) := by decide +kernel
theorem dX8_begins_34 : decode cX8_begins 34 = .ok (.iload_n 1, 1) := by decide +kernel
theorem dX8_begins_35 : decode cX8_begins 35 = .ok (.bipush 8, 2) := by decide +kernel
theorem dX8_begins_37 : decode cX8_begins 37 = .ok (.iadd, 1) := by decide +kernel
theorem dX8_begins_38 : decode cX8_begins 38 = .ok (.iconst 0, 1) := by decide +kernel
theorem dX8_begins_39 : decode cX8_begins 39 = .ok (.iastore, 1) := by decide +kernel
theorem dX8_begins_40 : decode cX8_begins 40 = .ok (.aload_n 0, 1) := by decide +kernel
theorem dX8_begins_41 : decode cX8_begins 41 = .ok (.getfield 7, 3) := by decide +kernel
theorem dX8_begins_44 : decode cX8_begins 44 = .ok (.iload_n 1, 1) := by decide +kernel
theorem dX8_begins_45 : decode cX8_begins 45 = .ok (.bipush 9, 2) := by decide +kernel
theorem dX8_begins_47 : decode cX8_begins 47 = .ok (.iadd, 1) := by decide +kernel
theorem dX8_begins_48 : decode cX8_begins 48 = .ok (.iconst 0, 1) := by decide +kernel
theorem dX8_begins_49 : decode cX8_begins 49 = .ok (.iastore, 1) := by decide +kernel
theorem dX8_begins_50 : decode cX8_begins 50 = .ok (.aload_n 0, 1) := by decide +kernel
theorem dX8_begins_51 : decode cX8_begins 51 = .ok (.getfield 7, 3) := by decide +kernel
theorem dX8_begins_54 : decode cX8_begins 54 = .ok (.iload_n 1, 1) := by decide +kernel
theorem dX8_begins_55 : decode cX8_begins 55 = .ok (.bipush 10, 2) := by decide +kernel
theorem dX8_begins_57 : decode cX8_begins 57 = .ok (.iadd, 1) := by decide +kernel
theorem dX8_begins_58 : decode cX8_begins 58 = .ok (.iconst 0, 1) := by decide +kernel
theorem dX8_begins_59 : decode cX8_begins 59 = .ok (.iastore, 1) := by decide +kernel
theorem dX8_begins_60 : decode cX8_begins 60 = .ok (.aload_n 0, 1) := by decide +kernel
theorem dX8_begins_61 : decode cX8_begins 61 = .ok (.getfield 7, 3) := by decide +kernel
theorem dX8_begins_64 : decode cX8_begins 64 = .ok (.iload_n 1, 1) := by decide +kernel
theorem dX8_begins_65 : decode cX8_begins 65 = .ok (.bipush 11, 2) := by decide +kernel
theorem dX8_begins_67 : decode cX8_begins 67 = .ok (.iadd, 1) := by decide +kernel
theorem dX8_begins_68 : decode cX8_begins 68 = .ok (.iconst 0, 1) := by decide +kernel
theorem dX8_begins_69 : decode cX8_begins 69 = .ok (.iastore, 1) := by decide +kernel
theorem dX8_begins_70 : decode cX8_begins 70 = .ok (.aload_n 0, 1) := by decide +kernel
theorem dX8_begins_71 : decode cX8_begins 71 = .ok (.getfield 7, 3) := by decide +kernel
theorem dX8_begins_74 : decode cX8_begins 74 = .ok (.iload_n 1, 1) := by decide +kernel
theorem dX8_begins_75 : decode cX8_begins 75 = .ok (.bipush 12, 2) := by decide +kernel
theorem dX8_begins_77 : decode cX8_begins 77 = .ok (.iadd, 1) := by decide +kernel
theorem dX8_begins_78 : decode cX8_begins 78 = .ok (.iconst 0, 1) := by decide +kernel
theorem dX8_begins_79 : decode cX8_begins 79 = .ok (.iastore, 1) := by decide +kernel
theorem dX8_begins_80 : decode cX8_begins 80 = .ok (.aload_n 0, 1) := by decide +kernel
theorem dX8_begins_81 : decode cX8_begins 81 = .ok (.getfield 7, 3) := by decide +kernel
theorem dX8_begins_84 : decode cX8_begins 84 = .ok (.iload_n 1, 1) := by decide +kernel
theorem dX8_begins_85 : decode cX8_begins 85 = .ok (.bipush 13, 2) := by decide +kernel
theorem dX8_begins_87 : decode cX8_begins 87 = .ok (.iadd, 1) := by decide +kernel
theorem dX8_begins_88 : decode cX8_begins 88 = .ok (.iconst 0, 1) := by decide +kernel
theorem dX8_begins_89 : decode cX8_begins 89 = .ok (.iastore, 1) := by decide +kernel
theorem dX8_begins_90 : decode cX8_begins 90 = .ok (.aload_n 0, 1) := by decide +kernel
theorem dX8_begins_91 : decode cX8_begins 91 = .ok (.getfield 7, 3) := by decide +kernel
theorem dX8_begins_94 : decode cX8_begins 94 = .ok (.iload_n 1, 1) := by decide +kernel
theorem dX8_begins_95 : decode cX8_begins 95 = .ok (.bipush 14, 2) := by decide +kernel
theorem dX8_begins_97 : decode cX8_begins 97 = .ok (.iadd, 1) := by decide +kernel
theorem dX8_begins_98 : decode cX8_begins 98 = .ok (.dup2, 1) := by decide +kernel
theorem dX8_begins_99 : decode cX8_begins 99 = .ok (.iaload, 1) := by decide +kernel
theorem dX8_begins_100 : decode cX8_begins 100 = .ok (.iconst 1, 1) := by decide +kernel
theorem dX8_begins_101 : decode cX8_begins 101 = .ok (.iadd, 1) := by decide +kernel
theorem dX8_begins_102 : decode cX8_begins 102 = .ok (.iastore, 1) := by decide +kernel
theorem dX8_begins_103 : decode cX8_begins 103 = .ok (.return_, 1) := by decide +kernel
theorem dX8_taps_0 : decode cX8_taps 0 = .ok (.aload_n 0, 1) := by decide +kernel
theorem dX8_taps_1 : decode cX8_taps 1 = .ok (.getfield 7, 3) := by decide +kernel
theorem dX8_taps_4 : decode cX8_taps 4 = .ok (.iload_n 1, 1) := by decide +kernel
theorem dX8_taps_5 : decode cX8_taps 5 = .ok (.bipush 8, 2) := by decide +kernel
theorem dX8_taps_7 : decode cX8_taps 7 = .ok (.iadd, 1) := by decide +kernel
theorem dX8_taps_8 : decode cX8_taps 8 = .ok (.dup2, 1) := by decide +kernel
theorem dX8_taps_9 : decode cX8_taps 9 = .ok (.iaload, 1) := by decide +kernel
theorem dX8_taps_10 : decode cX8_taps 10 = .ok (.iload_n 2, 1) := by decide +kernel
theorem dX8_taps_11 : decode cX8_taps 11 = .ok (.ifCond .ne 14, 3) := by decide +kernel
theorem dX8_taps_14 : decode cX8_taps 14 = .ok (.aload_n 0, 1) := by decide +kernel
theorem dX8_taps_15 : decode cX8_taps 15 = .ok (.getfield 7, 3) := by decide +kernel
theorem dX8_taps_18 : decode cX8_taps 18 = .ok (.iload_n 1, 1) := by decide +kernel
theorem dX8_taps_19 : decode cX8_taps 19 = .ok (.iconst 3, 1) := by decide +kernel
theorem dX8_taps_20 : decode cX8_taps 20 = .ok (.iadd, 1) := by decide +kernel
theorem dX8_taps_21 : decode cX8_taps 21 = .ok (.iaload, 1) := by decide +kernel
theorem dX8_taps_22 : decode cX8_taps 22 = .ok (.goto 12, 3) := by decide +kernel
theorem dX8_taps_25 : decode cX8_taps 25 = .ok (.aload_n 0, 1) := by decide +kernel
theorem dX8_taps_26 : decode cX8_taps 26 = .ok (.getfield 7, 3) := by decide +kernel
theorem dX8_taps_29 : decode cX8_taps 29 = .ok (.iload_n 1, 1) := by decide +kernel
theorem dX8_taps_30 : decode cX8_taps 30 = .ok (.iconst 3, 1) := by decide +kernel
theorem dX8_taps_31 : decode cX8_taps 31 = .ok (.iadd, 1) := by decide +kernel
theorem dX8_taps_32 : decode cX8_taps 32 = .ok (.iaload, 1) := by decide +kernel
theorem dX8_taps_33 : decode cX8_taps 33 = .ok (.ineg, 1) := by decide +kernel
theorem dX8_taps_34 : decode cX8_taps 34 = .ok (.iadd, 1) := by decide +kernel
theorem dX8_taps_35 : decode cX8_taps 35 = .ok (.iastore, 1) := by decide +kernel
theorem dX8_taps_36 : decode cX8_taps 36 = .ok (.aload_n 0, 1) := by decide +kernel
theorem dX8_taps_37 : decode cX8_taps 37 = .ok (.getfield 7, 3) := by decide +kernel
theorem dX8_taps_40 : decode cX8_taps 40 = .ok (.iload_n 1, 1) := by decide +kernel
theorem dX8_taps_41 : decode cX8_taps 41 = .ok (.bipush 9, 2) := by decide +kernel
theorem dX8_taps_43 : decode cX8_taps 43 = .ok (.iadd, 1) := by decide +kernel
theorem dX8_taps_44 : decode cX8_taps 44 = .ok (.aload_n 0, 1) := by decide +kernel
theorem dX8_taps_45 : decode cX8_taps 45 = .ok (.getfield 7, 3) := by decide +kernel
theorem dX8_taps_48 : decode cX8_taps 48 = .ok (.iload_n 1, 1) := by decide +kernel
theorem dX8_taps_49 : decode cX8_taps 49 = .ok (.bipush 9, 2) := by decide +kernel
theorem dX8_taps_51 : decode cX8_taps 51 = .ok (.iadd, 1) := by decide +kernel
theorem dX8_taps_52 : decode cX8_taps 52 = .ok (.iaload, 1) := by decide +kernel
theorem dX8_taps_53 : decode cX8_taps 53 = .ok (.iconst 2, 1) := by decide +kernel
theorem dX8_taps_54 : decode cX8_taps 54 = .ok (.iadd, 1) := by decide +kernel
theorem dX8_taps_55 : decode cX8_taps 55 = .ok (.bipush 99, 2) := by decide +kernel
theorem dX8_taps_57 : decode cX8_taps 57 = .ok (.invokestatic 34, 3) := by decide +kernel
theorem dX8_taps_60 : decode cX8_taps 60 = .ok (.iastore, 1) := by decide +kernel
theorem dX8_taps_61 : decode cX8_taps 61 = .ok (.aload_n 0, 1) := by decide +kernel
theorem dX8_taps_62 : decode cX8_taps 62 = .ok (.getfield 7, 3) := by decide +kernel
theorem dX8_taps_65 : decode cX8_taps 65 = .ok (.iload_n 1, 1) := by decide +kernel
theorem dX8_taps_66 : decode cX8_taps 66 = .ok (.bipush 12, 2) := by decide +kernel
theorem dX8_taps_68 : decode cX8_taps 68 = .ok (.iadd, 1) := by decide +kernel
theorem dX8_taps_69 : decode cX8_taps 69 = .ok (.dup2, 1) := by decide +kernel
theorem dX8_taps_70 : decode cX8_taps 70 = .ok (.iaload, 1) := by decide +kernel
theorem dX8_taps_71 : decode cX8_taps 71 = .ok (.iconst 1, 1) := by decide +kernel
theorem dX8_taps_72 : decode cX8_taps 72 = .ok (.iadd, 1) := by decide +kernel
theorem dX8_taps_73 : decode cX8_taps 73 = .ok (.iastore, 1) := by decide +kernel
theorem dX8_taps_74 : decode cX8_taps 74 = .ok (.aload_n 0, 1) := by decide +kernel
theorem dX8_taps_75 : decode cX8_taps 75 = .ok (.getfield 7, 3) := by decide +kernel
theorem dX8_taps_78 : decode cX8_taps 78 = .ok (.iload_n 1, 1) := by decide +kernel
theorem dX8_taps_79 : decode cX8_taps 79 = .ok (.bipush 19, 2) := by decide +kernel
theorem dX8_taps_81 : decode cX8_taps 81 = .ok (.iadd, 1) := by decide +kernel
theorem dX8_taps_82 : decode cX8_taps 82 = .ok (.dup2, 1) := by decide +kernel
theorem dX8_taps_83 : decode cX8_taps 83 = .ok (.iaload, 1) := by decide +kernel
theorem dX8_taps_84 : decode cX8_taps 84 = .ok (.iconst 1, 1) := by decide +kernel
theorem dX8_taps_85 : decode cX8_taps 85 = .ok (.iadd, 1) := by decide +kernel
theorem dX8_taps_86 : decode cX8_taps 86 = .ok (.iastore, 1) := by decide +kernel
theorem dX8_taps_87 : decode cX8_taps 87 = .ok (.return_, 1) := by decide +kernel
theorem dX8_isRolling_0 : decode cX8_isRolling 0 = .ok (.aload_n 0, 1) := by decide +kernel
theorem dX8_isRolling_1 : decode cX8_isRolling 1 = .ok (.getfield 7, 3) := by decide +kernel
theorem dX8_isRolling_4 : decode cX8_isRolling 4 = .ok (.iconst 5, 1) := by decide +kernel
theorem dX8_isRolling_5 : decode cX8_isRolling 5 = .ok (.iaload, 1) := by decide +kernel
theorem dX8_isRolling_6 : decode cX8_isRolling 6 = .ok (.iconst 1, 1) := by decide +kernel
theorem dX8_isRolling_7 : decode cX8_isRolling 7 = .ok (.if_icmp .ne 17, 3) := by decide +kernel
theorem dX8_isRolling_10 : decode cX8_isRolling 10 = .ok (.aload_n 0, 1) := by decide +kernel
theorem dX8_isRolling_11 : decode cX8_isRolling 11 = .ok (.getfield 7, 3) := by decide +kernel
theorem dX8_isRolling_14 : decode cX8_isRolling 14 = .ok (.bipush 11, 2) := by decide +kernel
theorem dX8_isRolling_16 : decode cX8_isRolling 16 = .ok (.iaload, 1) := by decide +kernel
theorem dX8_isRolling_17 : decode cX8_isRolling 17 = .ok (.ifCond .ne 7, 3) := by decide +kernel
theorem dX8_isRolling_20 : decode cX8_isRolling 20 = .ok (.iconst 1, 1) := by decide +kernel
theorem dX8_isRolling_21 : decode cX8_isRolling 21 = .ok (.goto 4, 3) := by decide +kernel
theorem dX8_isRolling_24 : decode cX8_isRolling 24 = .ok (.iconst 0, 1) := by decide +kernel
theorem dX8_isRolling_25 : decode cX8_isRolling 25 = .ok (.ireturn, 1) := by decide +kernel
theorem dX8_canSet_0 : decode cX8_canSet 0 = .ok (.iload_n 0, 1) := by decide +kernel
theorem dX8_canSet_1 : decode cX8_canSet 1 = .ok (.lookupswitch 44 #[(0, 27), (3, 36)], 27) := by decide +kernel
theorem dX8_canSet_28 : decode cX8_canSet 28 = .ok (.iload_n 1, 1) := by decide +kernel
theorem dX8_canSet_29 : decode cX8_canSet 29 = .ok (.bipush 10, 2) := by decide +kernel
theorem dX8_canSet_31 : decode cX8_canSet 31 = .ok (.bipush 99, 2) := by decide +kernel
theorem dX8_canSet_33 : decode cX8_canSet 33 = .ok (.invokestatic 26, 3) := by decide +kernel
theorem dX8_canSet_36 : decode cX8_canSet 36 = .ok (.ireturn, 1) := by decide +kernel
theorem dX8_canSet_37 : decode cX8_canSet 37 = .ok (.iload_n 1, 1) := by decide +kernel
theorem dX8_canSet_38 : decode cX8_canSet 38 = .ok (.iconst 1, 1) := by decide +kernel
theorem dX8_canSet_39 : decode cX8_canSet 39 = .ok (.bipush 30, 2) := by decide +kernel
theorem dX8_canSet_41 : decode cX8_canSet 41 = .ok (.invokestatic 26, 3) := by decide +kernel
theorem dX8_canSet_44 : decode cX8_canSet 44 = .ok (.ireturn, 1) := by decide +kernel
theorem dX8_canSet_45 : decode cX8_canSet 45 = .ok (.iload_n 0, 1) := by decide +kernel
theorem dX8_canSet_46 : decode cX8_canSet 46 = .ok (.iconst 1, 1) := by decide +kernel
theorem dX8_canSet_47 : decode cX8_canSet 47 = .ok (.if_icmp .eq 8, 3) := by decide +kernel
theorem dX8_canSet_50 : decode cX8_canSet 50 = .ok (.iload_n 0, 1) := by decide +kernel
theorem dX8_canSet_51 : decode cX8_canSet 51 = .ok (.iconst 2, 1) := by decide +kernel
theorem dX8_canSet_52 : decode cX8_canSet 52 = .ok (.if_icmp .ne 17, 3) := by decide +kernel
theorem dX8_canSet_55 : decode cX8_canSet 55 = .ok (.iload_n 1, 1) := by decide +kernel
theorem dX8_canSet_56 : decode cX8_canSet 56 = .ok (.iconst 0, 1) := by decide +kernel
theorem dX8_canSet_57 : decode cX8_canSet 57 = .ok (.bipush 20, 2) := by decide +kernel
theorem dX8_canSet_59 : decode cX8_canSet 59 = .ok (.invokestatic 26, 3) := by decide +kernel
theorem dX8_canSet_62 : decode cX8_canSet 62 = .ok (.ifCond .eq 7, 3) := by decide +kernel
theorem dX8_canSet_65 : decode cX8_canSet 65 = .ok (.iconst 1, 1) := by decide +kernel
theorem dX8_canSet_66 : decode cX8_canSet 66 = .ok (.goto 4, 3) := by decide +kernel
theorem dX8_canSet_69 : decode cX8_canSet 69 = .ok (.iconst 0, 1) := by decide +kernel
theorem dX8_canSet_70 : decode cX8_canSet 70 = .ok (.ireturn, 1) := by decide +kernel
theorem dX8_set_0 : decode cX8_set 0 = .ok (.iload_n 1, 1) := by decide +kernel
theorem dX8_set_1 : decode cX8_set 1 = .ok (.iload_n 2, 1) := by decide +kernel
theorem dX8_set_2 : decode cX8_set 2 = .ok (.invokestatic 65, 3) := by decide +kernel
theorem dX8_set_5 : decode cX8_set 5 = .ok (.ifCond .ne 6, 3) := by decide +kernel
theorem dX8_set_8 : decode cX8_set 8 = .ok (.bipush (-2), 2) := by decide +kernel
theorem dX8_set_10 : decode cX8_set 10 = .ok (.ireturn, 1) := by decide +kernel
theorem dX8_set_11 : decode cX8_set 11 = .ok (.aload_n 0, 1) := by decide +kernel
theorem dX8_set_12 : decode cX8_set 12 = .ok (.invokevirtual 69, 3) := by decide +kernel
theorem dX8_set_15 : decode cX8_set 15 = .ok (.aload_n 0, 1) := by decide +kernel
theorem dX8_set_16 : decode cX8_set 16 = .ok (.getfield 7, 3) := by decide +kernel
theorem dX8_set_19 : decode cX8_set 19 = .ok (.iload_n 1, 1) := by decide +kernel
theorem dX8_set_20 : decode cX8_set 20 = .ok (.iaload, 1) := by decide +kernel
theorem dX8_set_21 : decode cX8_set 21 = .ok (.istore_n 3, 1) := by decide +kernel
theorem dX8_set_22 : decode cX8_set 22 = .ok (.aload_n 0, 1) := by decide +kernel
theorem dX8_set_23 : decode cX8_set 23 = .ok (.getfield 7, 3) := by decide +kernel
theorem dX8_set_26 : decode cX8_set 26 = .ok (.iload_n 1, 1) := by decide +kernel
theorem dX8_set_27 : decode cX8_set 27 = .ok (.iload_n 2, 1) := by decide +kernel
theorem dX8_set_28 : decode cX8_set 28 = .ok (.iastore, 1) := by decide +kernel
theorem dX8_set_29 : decode cX8_set 29 = .ok (.iload_n 3, 1) := by decide +kernel
theorem dX8_set_30 : decode cX8_set 30 = .ok (.ireturn, 1) := by decide +kernel
theorem dX8_whyNotPart_0 : decode cX8_whyNotPart 0 = .ok (.iload_n 1, 1) := by decide +kernel
theorem dX8_whyNotPart_1 : decode cX8_whyNotPart 1 = .ok (.iconst 0, 1) := by decide +kernel
theorem dX8_whyNotPart_2 : decode cX8_whyNotPart 2 = .ok (.aload_n 0, 1) := by decide +kernel
theorem dX8_whyNotPart_3 : decode cX8_whyNotPart 3 = .ok (.getfield 7, 3) := by decide +kernel
theorem dX8_whyNotPart_6 : decode cX8_whyNotPart 6 = .ok (.iconst 4, 1) := by decide +kernel
theorem dX8_whyNotPart_7 : decode cX8_whyNotPart 7 = .ok (.iaload, 1) := by decide +kernel
theorem dX8_whyNotPart_8 : decode cX8_whyNotPart 8 = .ok (.invokestatic 26, 3) := by decide +kernel
theorem dX8_whyNotPart_11 : decode cX8_whyNotPart 11 = .ok (.ifCond .ne 5, 3) := by decide +kernel
theorem dX8_whyNotPart_14 : decode cX8_whyNotPart 14 = .ok (.iconst (-1), 1) := by decide +kernel
theorem dX8_whyNotPart_15 : decode cX8_whyNotPart 15 = .ok (.ireturn, 1) := by decide +kernel
theorem dX8_whyNotPart_16 : decode cX8_whyNotPart 16 = .ok (.iload_n 2, 1) := by decide +kernel
theorem dX8_whyNotPart_17 : decode cX8_whyNotPart 17 = .ok (.iconst 0, 1) := by decide +kernel
theorem dX8_whyNotPart_18 : decode cX8_whyNotPart 18 = .ok (.iconst 2, 1) := by decide +kernel
theorem dX8_whyNotPart_19 : decode cX8_whyNotPart 19 = .ok (.invokestatic 26, 3) := by decide +kernel
theorem dX8_whyNotPart_22 : decode cX8_whyNotPart 22 = .ok (.ifCond .eq 27, 3) := by decide +kernel
theorem dX8_whyNotPart_25 : decode cX8_whyNotPart 25 = .ok (.iload_n 3, 1) := by decide +kernel
theorem dX8_whyNotPart_26 : decode cX8_whyNotPart 26 = .ok (.iconst 1, 1) := by decide +kernel
theorem dX8_whyNotPart_27 : decode cX8_whyNotPart 27 = .ok (.iload_n 2, 1) := by decide +kernel
theorem dX8_whyNotPart_28 : decode cX8_whyNotPart 28 = .ok (.iconst 2, 1) := by decide +kernel
theorem dX8_whyNotPart_29 : decode cX8_whyNotPart 29 = .ok (.if_icmp .ne 8, 3) := by decide +kernel
theorem dX8_whyNotPart_32 : decode cX8_whyNotPart 32 = .ok (.bipush 99, 2) := by decide +kernel
theorem dX8_whyNotPart_34 : decode cX8_whyNotPart 34 = .ok (.goto 5, 3) := by decide +kernel
theorem dX8_whyNotPart_37 : decode cX8_whyNotPart 37 = .ok (.bipush 9, 2) := by decide +kernel
theorem dX8_whyNotPart_39 : decode cX8_whyNotPart 39 = .ok (.invokestatic 26, 3) := by decide +kernel
theorem dX8_whyNotPart_42 : decode cX8_whyNotPart 42 = .ok (.ifCond .eq 7, 3) := by decide +kernel
theorem dX8_whyNotPart_45 : decode cX8_whyNotPart 45 = .ok (.iconst 1, 1) := by decide +kernel
theorem dX8_whyNotPart_46 : decode cX8_whyNotPart 46 = .ok (.goto 4, 3) := by decide +kernel
theorem dX8_whyNotPart_49 : decode cX8_whyNotPart 49 = .ok (.iconst 0, 1) := by decide +kernel
theorem dX8_whyNotPart_50 : decode cX8_whyNotPart 50 = .ok (.istore 4, 2) := by decide +kernel
theorem dX8_whyNotPart_52 : decode cX8_whyNotPart 52 = .ok (.iload 4, 2) := by decide +kernel
theorem dX8_whyNotPart_54 : decode cX8_whyNotPart 54 = .ok (.ifCond .ne 8, 3) := by decide +kernel
theorem dX8_whyNotPart_57 : decode cX8_whyNotPart 57 = .ok (.bipush (-2), 2) := by decide +kernel
theorem dX8_whyNotPart_59 : decode cX8_whyNotPart 59 = .ok (.goto 20, 3) := by decide +kernel
theorem dX8_whyNotPart_62 : decode cX8_whyNotPart 62 = .ok (.aload_n 0, 1) := by decide +kernel
theorem dX8_whyNotPart_63 : decode cX8_whyNotPart 63 = .ok (.getfield 7, 3) := by decide +kernel
theorem dX8_whyNotPart_66 : decode cX8_whyNotPart 66 = .ok (.iconst 4, 1) := by decide +kernel
theorem dX8_whyNotPart_67 : decode cX8_whyNotPart 67 = .ok (.iaload, 1) := by decide +kernel
theorem dX8_whyNotPart_68 : decode cX8_whyNotPart 68 = .ok (.bipush 20, 2) := by decide +kernel
theorem dX8_whyNotPart_70 : decode cX8_whyNotPart 70 = .ok (.if_icmp .ne 8, 3) := by decide +kernel
theorem dX8_whyNotPart_73 : decode cX8_whyNotPart 73 = .ok (.bipush (-4), 2) := by decide +kernel
theorem dX8_whyNotPart_75 : decode cX8_whyNotPart 75 = .ok (.goto 4, 3) := by decide +kernel
theorem dX8_whyNotPart_78 : decode cX8_whyNotPart 78 = .ok (.iconst 0, 1) := by decide +kernel
theorem dX8_whyNotPart_79 : decode cX8_whyNotPart 79 = .ok (.ireturn, 1) := by decide +kernel
theorem dX8_comes_0 : decode cX8_comes 0 = .ok (.iconst 0, 1) := by decide +kernel
theorem dX8_comes_1 : decode cX8_comes 1 = .ok (.aload_n 0, 1) := by decide +kernel
theorem dX8_comes_2 : decode cX8_comes 2 = .ok (.getfield 7, 3) := by decide +kernel
theorem dX8_comes_5 : decode cX8_comes 5 = .ok (.iconst 4, 1) := by decide +kernel
theorem dX8_comes_6 : decode cX8_comes 6 = .ok (.iaload, 1) := by decide +kernel
theorem dX8_comes_7 : decode cX8_comes 7 = .ok (.invokestatic 42, 3) := by decide +kernel
theorem dX8_comes_10 : decode cX8_comes 10 = .ok (.iconst 1, 1) := by decide +kernel
theorem dX8_comes_11 : decode cX8_comes 11 = .ok (.isub, 1) := by decide +kernel
theorem dX8_comes_12 : decode cX8_comes 12 = .ok (.istore 4, 2) := by decide +kernel
theorem dX8_comes_14 : decode cX8_comes 14 = .ok (.iload 4, 2) := by decide +kernel
theorem dX8_comes_16 : decode cX8_comes 16 = .ok (.iconst 0, 1) := by decide +kernel
theorem dX8_comes_17 : decode cX8_comes 17 = .ok (.iload_n 1, 1) := by decide +kernel
theorem dX8_comes_18 : decode cX8_comes 18 = .ok (.invokestatic 42, 3) := by decide +kernel
theorem dX8_comes_21 : decode cX8_comes 21 = .ok (.if_icmp .lt 25, 3) := by decide +kernel
theorem dX8_comes_24 : decode cX8_comes 24 = .ok (.aload_n 0, 1) := by decide +kernel
theorem dX8_comes_25 : decode cX8_comes 25 = .ok (.getfield 7, 3) := by decide +kernel
theorem dX8_comes_28 : decode cX8_comes 28 = .ok (.iload 4, 2) := by decide +kernel
theorem dX8_comes_30 : decode cX8_comes 30 = .ok (.iconst 5, 1) := by decide +kernel
theorem dX8_comes_31 : decode cX8_comes 31 = .ok (.iadd, 1) := by decide +kernel
theorem dX8_comes_32 : decode cX8_comes 32 = .ok (.aload_n 0, 1) := by decide +kernel
theorem dX8_comes_33 : decode cX8_comes 33 = .ok (.getfield 7, 3) := by decide +kernel
theorem dX8_comes_36 : decode cX8_comes 36 = .ok (.iload 4, 2) := by decide +kernel
theorem dX8_comes_38 : decode cX8_comes 38 = .ok (.iaload, 1) := by decide +kernel
theorem dX8_comes_39 : decode cX8_comes 39 = .ok (.iastore, 1) := by decide +kernel
theorem dX8_comes_40 : decode cX8_comes 40 = .ok (.iinc 4 (-1), 3) := by decide +kernel
theorem dX8_comes_43 : decode cX8_comes 43 = .ok (.goto (-29), 3) := by decide +kernel
theorem dX8_comes_46 : decode cX8_comes 46 = .ok (.aload_n 0, 1) := by decide +kernel
theorem dX8_comes_47 : decode cX8_comes 47 = .ok (.getfield 7, 3) := by decide +kernel
theorem dX8_comes_50 : decode cX8_comes 50 = .ok (.iconst 0, 1) := by decide +kernel
theorem dX8_comes_51 : decode cX8_comes 51 = .ok (.iload_n 1, 1) := by decide +kernel
theorem dX8_comes_52 : decode cX8_comes 52 = .ok (.invokestatic 42, 3) := by decide +kernel
theorem dX8_comes_55 : decode cX8_comes 55 = .ok (.iload_n 2, 1) := by decide +kernel
theorem dX8_comes_56 : decode cX8_comes 56 = .ok (.iastore, 1) := by decide +kernel
theorem dX8_comes_57 : decode cX8_comes 57 = .ok (.aload_n 0, 1) := by decide +kernel
theorem dX8_comes_58 : decode cX8_comes 58 = .ok (.getfield 7, 3) := by decide +kernel
theorem dX8_comes_61 : decode cX8_comes 61 = .ok (.iconst 0, 1) := by decide +kernel
theorem dX8_comes_62 : decode cX8_comes 62 = .ok (.iload_n 1, 1) := by decide +kernel
theorem dX8_comes_63 : decode cX8_comes 63 = .ok (.invokestatic 42, 3) := by decide +kernel
theorem dX8_comes_66 : decode cX8_comes 66 = .ok (.iconst 1, 1) := by decide +kernel
theorem dX8_comes_67 : decode cX8_comes 67 = .ok (.iadd, 1) := by decide +kernel
theorem dX8_comes_68 : decode cX8_comes 68 = .ok (.iload_n 3, 1) := by decide +kernel
theorem dX8_comes_69 : decode cX8_comes 69 = .ok (.iastore, 1) := by decide +kernel
theorem dX8_comes_70 : decode cX8_comes 70 = .ok (.iconst 2, 1) := by decide +kernel
theorem dX8_comes_71 : decode cX8_comes 71 = .ok (.istore 4, 2) := by decide +kernel
theorem dX8_comes_73 : decode cX8_comes 73 = .ok (.iload 4, 2) := by decide +kernel
theorem dX8_comes_75 : decode cX8_comes 75 = .ok (.iconst 5, 1) := by decide +kernel
theorem dX8_comes_76 : decode cX8_comes 76 = .ok (.if_icmp .ge 23, 3) := by decide +kernel
theorem dX8_comes_79 : decode cX8_comes 79 = .ok (.aload_n 0, 1) := by decide +kernel
theorem dX8_comes_80 : decode cX8_comes 80 = .ok (.getfield 7, 3) := by decide +kernel
theorem dX8_comes_83 : decode cX8_comes 83 = .ok (.iconst 0, 1) := by decide +kernel
theorem dX8_comes_84 : decode cX8_comes 84 = .ok (.iload_n 1, 1) := by decide +kernel
theorem dX8_comes_85 : decode cX8_comes 85 = .ok (.invokestatic 42, 3) := by decide +kernel
theorem dX8_comes_88 : decode cX8_comes 88 = .ok (.iload 4, 2) := by decide +kernel
theorem dX8_comes_90 : decode cX8_comes 90 = .ok (.iadd, 1) := by decide +kernel
theorem dX8_comes_91 : decode cX8_comes 91 = .ok (.iconst 0, 1) := by decide +kernel
theorem dX8_comes_92 : decode cX8_comes 92 = .ok (.iastore, 1) := by decide +kernel
theorem dX8_comes_93 : decode cX8_comes 93 = .ok (.iinc 4 1, 3) := by decide +kernel
theorem dX8_comes_96 : decode cX8_comes 96 = .ok (.goto (-23), 3) := by decide +kernel
theorem dX8_comes_99 : decode cX8_comes 99 = .ok (.aload_n 0, 1) := by decide +kernel
theorem dX8_comes_100 : decode cX8_comes 100 = .ok (.getfield 7, 3) := by decide +kernel
theorem dX8_comes_103 : decode cX8_comes 103 = .ok (.iconst 4, 1) := by decide +kernel
theorem dX8_comes_104 : decode cX8_comes 104 = .ok (.dup2, 1) := by decide +kernel
theorem dX8_comes_105 : decode cX8_comes 105 = .ok (.iaload, 1) := by decide +kernel
theorem dX8_comes_106 : decode cX8_comes 106 = .ok (.iconst 1, 1) := by decide +kernel
theorem dX8_comes_107 : decode cX8_comes 107 = .ok (.iadd, 1) := by decide +kernel
theorem dX8_comes_108 : decode cX8_comes 108 = .ok (.iastore, 1) := by decide +kernel
theorem dX8_comes_109 : decode cX8_comes 109 = .ok (.aload_n 0, 1) := by decide +kernel
theorem dX8_comes_110 : decode cX8_comes 110 = .ok (.getfield 7, 3) := by decide +kernel
theorem dX8_comes_113 : decode cX8_comes 113 = .ok (.iconst 5, 1) := by decide +kernel
theorem dX8_comes_114 : decode cX8_comes 114 = .ok (.iconst 0, 1) := by decide +kernel
theorem dX8_comes_115 : decode cX8_comes 115 = .ok (.iastore, 1) := by decide +kernel
theorem dX8_comes_116 : decode cX8_comes 116 = .ok (.aload_n 0, 1) := by decide +kernel
theorem dX8_comes_117 : decode cX8_comes 117 = .ok (.getfield 7, 3) := by decide +kernel
theorem dX8_comes_120 : decode cX8_comes 120 = .ok (.iconst 4, 1) := by decide +kernel
theorem dX8_comes_121 : decode cX8_comes 121 = .ok (.iaload, 1) := by decide +kernel
theorem dX8_comes_122 : decode cX8_comes 122 = .ok (.ireturn, 1) := by decide +kernel
