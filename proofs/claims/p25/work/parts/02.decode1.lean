/-! decode rows -/
theorem dX0_init_0 : decode cX0_init 0 = .ok (.aload_n 0, 1) := by decide +kernel
theorem dX0_init_1 : decode cX0_init 1 = .ok (.invokespecial 1, 3) := by decide +kernel
theorem dX0_init_4 : decode cX0_init 4 = .ok (.aload_n 0, 1) := by decide +kernel
theorem dX0_init_5 : decode cX0_init 5 = .ok (.bipush 6, 2) := by decide +kernel
theorem dX0_init_7 : decode cX0_init 7 = .ok (.anewarray 9, 3) := by decide +kernel
theorem dX0_init_10 : decode cX0_init 10 = .ok (.putfield 11, 3) := by decide +kernel
theorem dX0_init_13 : decode cX0_init 13 = .ok (.iconst 0, 1) := by decide +kernel
theorem dX0_init_14 : decode cX0_init 14 = .ok (.istore_n 1, 1) := by decide +kernel
theorem dX0_init_15 : decode cX0_init 15 = .ok (.iload_n 1, 1) := by decide +kernel
theorem dX0_init_16 : decode cX0_init 16 = .ok (.bipush 6, 2) := by decide +kernel
theorem dX0_init_18 : decode cX0_init 18 = .ok (.if_icmp .ge 22, 3) := by decide +kernel
theorem dX0_init_21 : decode cX0_init 21 = .ok (.aload_n 0, 1) := by decide +kernel
theorem dX0_init_22 : decode cX0_init 22 = .ok (.getfield 11, 3) := by decide +kernel
theorem dX0_init_25 : decode cX0_init 25 = .ok (.iload_n 1, 1) := by decide +kernel
theorem dX0_init_26 : decode cX0_init 26 = .ok (.new 9, 3) := by decide +kernel
theorem dX0_init_29 : decode cX0_init 29 = .ok (.dup, 1) := by decide +kernel
theorem dX0_init_30 : decode cX0_init 30 = .ok (.invokespecial 15, 3) := by decide +kernel
theorem dX0_init_33 : decode cX0_init 33 = .ok (.aastore, 1) := by decide +kernel
theorem dX0_init_34 : decode cX0_init 34 = .ok (.iinc 1 1, 3) := by decide +kernel
theorem dX0_init_37 : decode cX0_init 37 = .ok (.goto (-22), 3) := by decide +kernel
theorem dX0_init_40 : decode cX0_init 40 = .ok (.aload_n 0, 1) := by decide +kernel
theorem dX0_init_41 : decode cX0_init 41 = .ok (.iconst 0, 1) := by decide +kernel
theorem dX0_init_42 : decode cX0_init 42 = .ok (.putfield 16, 3) := by decide +kernel
theorem dX0_init_45 : decode cX0_init 45 = .ok (.aload_n 0, 1) := by decide +kernel
theorem dX0_init_46 : decode cX0_init 46 = .ok (.iconst 0, 1) := by decide +kernel
theorem dX0_init_47 : decode cX0_init 47 = .ok (.putfield 20, 3) := by decide +kernel
theorem dX0_init_50 : decode cX0_init 50 = .ok (.return_, 1) := by decide +kernel
theorem dX0_record_0 : decode cX0_record 0 = .ok (.aload_n 0, 1) := by decide +kernel
theorem dX0_record_1 : decode cX0_record 1 = .ok (.getfield 16, 3) := by decide +kernel
theorem dX0_record_4 : decode cX0_record 4 = .ok (.invokestatic 23, 3) := by decide +kernel
theorem dX0_record_7 : decode cX0_record 7 = .ok (.ifCond .ne 4, 3) := by decide +kernel
theorem dX0_record_10 : decode cX0_record 10 = .ok (.return_, 1) := by decide +kernel
theorem dX0_record_11 : decode cX0_record 11 = .ok (.aload_n 0, 1) := by decide +kernel
theorem dX0_record_12 : decode cX0_record 12 = .ok (.getfield 11, 3) := by decide +kernel
theorem dX0_record_15 : decode cX0_record 15 = .ok (.aload_n 0, 1) := by decide +kernel
theorem dX0_record_16 : decode cX0_record 16 = .ok (.getfield 16, 3) := by decide +kernel
theorem dX0_record_19 : decode cX0_record 19 = .ok (.aaload, 1) := by decide +kernel
theorem dX0_record_20 : decode cX0_record 20 = .ok (.aload_n 1, 1) := by decide +kernel
theorem dX0_record_21 : decode cX0_record 21 = .ok (.invokevirtual 27, 3) := by decide +kernel
theorem dX0_record_24 : decode cX0_record 24 = .ok (.aload_n 0, 1) := by decide +kernel
theorem dX0_record_25 : decode cX0_record 25 = .ok (.aload_n 0, 1) := by decide +kernel
theorem dX0_record_26 : decode cX0_record 26 = .ok (.getfield 16, 3) := by decide +kernel
theorem dX0_record_29 : decode cX0_record 29 = .ok (.iconst 1, 1) := by decide +kernel
theorem dX0_record_30 : decode cX0_record 30 = .ok (.iadd, 1) := by decide +kernel
theorem dX0_record_31 : decode cX0_record 31 = .ok (.bipush 6, 2) := by decide +kernel
theorem dX0_record_33 : decode cX0_record 33 = .ok (.irem, 1) := by decide +kernel
theorem dX0_record_34 : decode cX0_record 34 = .ok (.putfield 16, 3) := by decide +kernel
theorem dX0_record_37 : decode cX0_record 37 = .ok (.aload_n 0, 1) := by decide +kernel
theorem dX0_record_38 : decode cX0_record 38 = .ok (.bipush 6, 2) := by decide +kernel
theorem dX0_record_40 : decode cX0_record 40 = .ok (.aload_n 0, 1) := by decide +kernel
theorem dX0_record_41 : decode cX0_record 41 = .ok (.getfield 20, 3) := by decide +kernel
theorem dX0_record_44 : decode cX0_record 44 = .ok (.iconst 1, 1) := by decide +kernel
theorem dX0_record_45 : decode cX0_record 45 = .ok (.iadd, 1) := by decide +kernel
theorem dX0_record_46 : decode cX0_record 46 = .ok (.invokestatic 31, 3) := by decide +kernel
theorem dX0_record_49 : decode cX0_record 49 = .ok (.putfield 20, 3) := by decide +kernel
theorem dX0_record_52 : decode cX0_record 52 = .ok (.return_, 1) := by decide +kernel
theorem dX0_stepBack_0 : decode cX0_stepBack 0 = .ok (.aload_n 0, 1) := by decide +kernel
theorem dX0_stepBack_1 : decode cX0_stepBack 1 = .ok (.getfield 16, 3) := by decide +kernel
theorem dX0_stepBack_4 : decode cX0_stepBack 4 = .ok (.bipush 6, 2) := by decide +kernel
theorem dX0_stepBack_6 : decode cX0_stepBack 6 = .ok (.iadd, 1) := by decide +kernel
theorem dX0_stepBack_7 : decode cX0_stepBack 7 = .ok (.iconst 1, 1) := by decide +kernel
theorem dX0_stepBack_8 : decode cX0_stepBack 8 = .ok (.isub, 1) := by decide +kernel
theorem dX0_stepBack_9 : decode cX0_stepBack 9 = .ok (.bipush 6, 2) := by decide +kernel
theorem dX0_stepBack_11 : decode cX0_stepBack 11 = .ok (.irem, 1) := by decide +kernel
theorem dX0_stepBack_12 : decode cX0_stepBack 12 = .ok (.istore_n 2, 1) := by decide +kernel
theorem dX0_stepBack_13 : decode cX0_stepBack 13 = .ok (.aload_n 0, 1) := by decide +kernel
theorem dX0_stepBack_14 : decode cX0_stepBack 14 = .ok (.getfield 20, 3) := by decide +kernel
theorem dX0_stepBack_17 : decode cX0_stepBack 17 = .ok (.ifCond .le 35, 3) := by decide +kernel
theorem dX0_stepBack_20 : decode cX0_stepBack 20 = .ok (.iload_n 2, 1) := by decide +kernel
theorem dX0_stepBack_21 : decode cX0_stepBack 21 = .ok (.invokestatic 23, 3) := by decide +kernel
theorem dX0_stepBack_24 : decode cX0_stepBack 24 = .ok (.ifCond .eq 28, 3) := by decide +kernel
theorem dX0_stepBack_27 : decode cX0_stepBack 27 = .ok (.aload_n 1, 1) := by decide +kernel
theorem dX0_stepBack_28 : decode cX0_stepBack 28 = .ok (.aload_n 0, 1) := by decide +kernel
theorem dX0_stepBack_29 : decode cX0_stepBack 29 = .ok (.getfield 11, 3) := by decide +kernel
theorem dX0_stepBack_32 : decode cX0_stepBack 32 = .ok (.iload_n 2, 1) := by decide +kernel
theorem dX0_stepBack_33 : decode cX0_stepBack 33 = .ok (.aaload, 1) := by decide +kernel
theorem dX0_stepBack_34 : decode cX0_stepBack 34 = .ok (.invokevirtual 27, 3) := by decide +kernel
theorem dX0_stepBack_37 : decode cX0_stepBack 37 = .ok (.aload_n 0, 1) := by decide +kernel
theorem dX0_stepBack_38 : decode cX0_stepBack 38 = .ok (.iload_n 2, 1) := by decide +kernel
theorem dX0_stepBack_39 : decode cX0_stepBack 39 = .ok (.putfield 16, 3) := by decide +kernel
theorem dX0_stepBack_42 : decode cX0_stepBack 42 = .ok (.aload_n 0, 1) := by decide +kernel
theorem dX0_stepBack_43 : decode cX0_stepBack 43 = .ok (.dup, 1) := by decide +kernel
theorem dX0_stepBack_44 : decode cX0_stepBack 44 = .ok (.getfield 20, 3) := by decide +kernel
theorem dX0_stepBack_47 : decode cX0_stepBack 47 = .ok (.iconst 1, 1) := by decide +kernel
theorem dX0_stepBack_48 : decode cX0_stepBack 48 = .ok (.isub, 1) := by decide +kernel
theorem dX0_stepBack_49 : decode cX0_stepBack 49 = .ok (.putfield 20, 3) := by decide +kernel
theorem dX0_stepBack_52 : decode cX0_stepBack 52 = .ok (.aload_n 0, 1) := by decide +kernel
theorem dX0_stepBack_53 : decode cX0_stepBack 53 = .ok (.getfield 20, 3) := by decide +kernel
theorem dX0_stepBack_56 : decode cX0_stepBack 56 = .ok (.ireturn, 1) := by decide +kernel
theorem dX0_has_0 : decode cX0_has 0 = .ok (.iload_n 0, 1) := by decide +kernel
theorem dX0_has_1 : decode cX0_has 1 = .ok (.ifCond .lt 13, 3) := by decide +kernel
theorem dX0_has_4 : decode cX0_has 4 = .ok (.iload_n 0, 1) := by decide +kernel
theorem dX0_has_5 : decode cX0_has 5 = .ok (.bipush 6, 2) := by decide +kernel
theorem dX0_has_7 : decode cX0_has 7 = .ok (.if_icmp .ge 7, 3) := by decide +kernel
theorem dX0_has_10 : decode cX0_has 10 = .ok (.iconst 1, 1) := by decide +kernel
theorem dX0_has_11 : decode cX0_has 11 = .ok (.goto 4, 3) := by decide +kernel
theorem dX0_has_14 : decode cX0_has 14 = .ok (.iconst 0, 1) := by decide +kernel
theorem dX0_has_15 : decode cX0_has 15 = .ok (.ireturn, 1) := by decide +kernel
theorem dX1_init_0 : decode cX1_init 0 = .ok (.aload_n 0, 1) := by decide +kernel
theorem dX1_init_1 : decode cX1_init 1 = .ok (.invokespecial 3, 3) := by decide +kernel
theorem dX1_init_4 : decode cX1_init 4 = .ok (.aload_n 0, 1) := by decide +kernel
theorem dX1_init_5 : decode cX1_init 5 = .ok (.iconst 0, 1) := by decide +kernel
theorem dX1_init_6 : decode cX1_init 6 = .ok (.putfield 9, 3) := by decide +kernel
theorem dX1_init_9 : decode cX1_init 9 = .ok (.return_, 1) := by decide +kernel
theorem dX1_copyFrom_0 : decode cX1_copyFrom 0 = .ok (.aload_n 0, 1) := by decide +kernel
theorem dX1_copyFrom_1 : decode cX1_copyFrom 1 = .ok (.aload_n 1, 1) := by decide +kernel
theorem dX1_copyFrom_2 : decode cX1_copyFrom 2 = .ok (.getfield 9, 3) := by decide +kernel
theorem dX1_copyFrom_5 : decode cX1_copyFrom 5 = .ok (.putfield 9, 3) := by decide +kernel
theorem dX1_copyFrom_8 : decode cX1_copyFrom 8 = .ok (.aload_n 0, 1) := by decide +kernel
theorem dX1_copyFrom_9 : decode cX1_copyFrom 9 = .ok (.aload_n 1, 1) := by decide +kernel
theorem dX1_copyFrom_10 : decode cX1_copyFrom 10 = .ok (.getfield 15, 3) := by decide +kernel
theorem dX1_copyFrom_13 : decode cX1_copyFrom 13 = .ok (.putfield 15, 3) := by decide +kernel
theorem dX1_copyFrom_16 : decode cX1_copyFrom 16 = .ok (.aload_n 0, 1) := by decide +kernel
theorem dX1_copyFrom_17 : decode cX1_copyFrom 17 = .ok (.aload_n 1, 1) := by decide +kernel
theorem dX1_copyFrom_18 : decode cX1_copyFrom 18 = .ok (.getfield 19, 3) := by decide +kernel
theorem dX1_copyFrom_21 : decode cX1_copyFrom 21 = .ok (.putfield 19, 3) := by decide +kernel
theorem dX1_copyFrom_24 : decode cX1_copyFrom 24 = .ok (.aload_n 0, 1) := by decide +kernel
theorem dX1_copyFrom_25 : decode cX1_copyFrom 25 = .ok (.aload_n 1, 1) := by decide +kernel
theorem dX1_copyFrom_26 : decode cX1_copyFrom 26 = .ok (.getfield 22, 3) := by decide +kernel
theorem dX1_copyFrom_29 : decode cX1_copyFrom 29 = .ok (.putfield 22, 3) := by decide +kernel
theorem dX1_copyFrom_32 : decode cX1_copyFrom 32 = .ok (.aload_n 0, 1) := by decide +kernel
theorem dX1_copyFrom_33 : decode cX1_copyFrom 33 = .ok (.aload_n 1, 1) := by decide +kernel
theorem dX1_copyFrom_34 : decode cX1_copyFrom 34 = .ok (.getfield 25, 3) := by decide +kernel
theorem dX1_copyFrom_37 : decode cX1_copyFrom 37 = .ok (.putfield 25, 3) := by decide +kernel
theorem dX1_copyFrom_40 : decode cX1_copyFrom 40 = .ok (.aload_n 0, 1) := by decide +kernel
theorem dX1_copyFrom_41 : decode cX1_copyFrom 41 = .ok (.aload_n 1, 1) := by decide +kernel
theorem dX1_copyFrom_42 : decode cX1_copyFrom 42 = .ok (.getfield 28, 3) := by decide +kernel
theorem dX1_copyFrom_45 : decode cX1_copyFrom 45 = .ok (.putfield 28, 3) := by decide +kernel
theorem dX1_copyFrom_48 : decode cX1_copyFrom 48 = .ok (.aload_n 0, 1) := by decide +kernel
theorem dX1_copyFrom_49 : decode cX1_copyFrom 49 = .ok (.aload_n 1, 1) := by decide +kernel
theorem dX1_copyFrom_50 : decode cX1_copyFrom 50 = .ok (.getfield 31, 3) := by decide +kernel
theorem dX1_copyFrom_53 : decode cX1_copyFrom 53 = .ok (.putfield 31, 3) := by decide +kernel
theorem dX1_copyFrom_56 : decode cX1_copyFrom 56 = .ok (.aload_n 0, 1) := by decide +kernel
theorem dX1_copyFrom_57 : decode cX1_copyFrom 57 = .ok (.aload_n 1, 1) := by decide +kernel
theorem dX1_copyFrom_58 : decode cX1_copyFrom 58 = .ok (.getfield 34, 3) := by decide +kernel
theorem dX1_copyFrom_61 : decode cX1_copyFrom 61 = .ok (.putfield 34, 3) := by decide +kernel
theorem dX1_copyFrom_64 : decode cX1_copyFrom 64 = .ok (.aload_n 0, 1) := by decide +kernel
theorem dX1_copyFrom_65 : decode cX1_copyFrom 65 = .ok (.aload_n 1, 1) := by decide +kernel
theorem dX1_copyFrom_66 : decode cX1_copyFrom 66 = .ok (.getfield 37, 3) := by decide +kernel
theorem dX1_copyFrom_69 : decode cX1_copyFrom 69 = .ok (.putfield 37, 3) := by decide +kernel
theorem dX1_copyFrom_72 : decode cX1_copyFrom 72 = .ok (.aload_n 0, 1) := by decide +kernel
theorem dX1_copyFrom_73 : decode cX1_copyFrom 73 = .ok (.aload_n 1, 1) := by decide +kernel
theorem dX1_copyFrom_74 : decode cX1_copyFrom 74 = .ok (.getfield 40, 3) := by decide +kernel
theorem dX1_copyFrom_77 : decode cX1_copyFrom 77 = .ok (.putfield 40, 3) := by decide +kernel
theorem dX1_copyFrom_80 : decode cX1_copyFrom 80 = .ok (.return_, 1) := by decide +kernel
theorem dX1_allows_0 : decode cX1_allows 0 = .ok (.iload_n 0, 1) := by decide +kernel
theorem dX1_allows_1 : decode cX1_allows 1 = .ok (.iconst 1, 1) := by decide +kernel
theorem dX1_allows_2 : decode cX1_allows 2 = .ok (.if_icmp .lt 13, 3) := by decide +kernel
theorem dX1_allows_5 : decode cX1_allows 5 = .ok (.iload_n 0, 1) := by decide +kernel
theorem dX1_allows_6 : decode cX1_allows 6 = .ok (.bipush 60, 2) := by decide +kernel
theorem dX1_allows_8 : decode cX1_allows 8 = .ok (.if_icmp .gt 7, 3) := by decide +kernel
theorem dX1_allows_11 : decode cX1_allows 11 = .ok (.iconst 1, 1) := by decide +kernel
theorem dX1_allows_12 : decode cX1_allows 12 = .ok (.goto 4, 3) := by decide +kernel
theorem dX1_allows_15 : decode cX1_allows 15 = .ok (.iconst 0, 1) := by decide +kernel
theorem dX1_allows_16 : decode cX1_allows 16 = .ok (.ireturn, 1) := by decide +kernel
theorem dX1_begin_0 : decode cX1_begin 0 = .ok (.aload_n 0, 1) := by decide +kernel
theorem dX1_begin_1 : decode cX1_begin 1 = .ok (.iconst 1, 1) := by decide +kernel
theorem dX1_begin_2 : decode cX1_begin 2 = .ok (.putfield 9, 3) := by decide +kernel
theorem dX1_begin_5 : decode cX1_begin 5 = .ok (.aload_n 0, 1) := by decide +kernel
theorem dX1_begin_6 : decode cX1_begin 6 = .ok (.iload_n 1, 1) := by decide +kernel
theorem dX1_begin_7 : decode cX1_begin 7 = .ok (.putfield 15, 3) := by decide +kernel
theorem dX1_begin_10 : decode cX1_begin 10 = .ok (.aload_n 0, 1) := by decide +kernel
theorem dX1_begin_11 : decode cX1_begin 11 = .ok (.bipush 10, 2) := by decide +kernel
theorem dX1_begin_13 : decode cX1_begin 13 = .ok (.putfield 19, 3) := by decide +kernel
theorem dX1_begin_16 : decode cX1_begin 16 = .ok (.aload_n 0, 1) := by decide +kernel
theorem dX1_begin_17 : decode cX1_begin 17 = .ok (.iconst 0, 1) := by decide +kernel
theorem dX1_begin_18 : decode cX1_begin 18 = .ok (.putfield 22, 3) := by decide +kernel
theorem dX1_begin_21 : decode cX1_begin 21 = .ok (.aload_n 0, 1) := by decide +kernel
theorem dX1_begin_22 : decode cX1_begin 22 = .ok (.iconst 0, 1) := by decide +kernel
theorem dX1_begin_23 : decode cX1_begin 23 = .ok (.putfield 25, 3) := by decide +kernel
theorem dX1_begin_26 : decode cX1_begin 26 = .ok (.aload_n 0, 1) := by decide +kernel
theorem dX1_begin_27 : decode cX1_begin 27 = .ok (.iconst 0, 1) := by decide +kernel
theorem dX1_begin_28 : decode cX1_begin 28 = .ok (.putfield 28, 3) := by decide +kernel
theorem dX1_begin_31 : decode cX1_begin 31 = .ok (.aload_n 0, 1) := by decide +kernel
theorem dX1_begin_32 : decode cX1_begin 32 = .ok (.iconst 0, 1) := by decide +kernel
theorem dX1_begin_33 : decode cX1_begin 33 = .ok (.putfield 31, 3) := by decide +kernel
theorem dX1_begin_36 : decode cX1_begin 36 = .ok (.aload_n 0, 1) := by decide +kernel
theorem dX1_begin_37 : decode cX1_begin 37 = .ok (.iconst 0, 1) := by decide +kernel
theorem dX1_begin_38 : decode cX1_begin 38 = .ok (.putfield 34, 3) := by decide +kernel
theorem dX1_begin_41 : decode cX1_begin 41 = .ok (.aload_n 0, 1) := by decide +kernel
theorem dX1_begin_42 : decode cX1_begin 42 = .ok (.iconst 0, 1) := by decide +kernel
theorem dX1_begin_43 : decode cX1_begin 43 = .ok (.putfield 37, 3) := by decide +kernel
theorem dX1_begin_46 : decode cX1_begin 46 = .ok (.aload_n 0, 1) := by decide +kernel
theorem dX1_begin_47 : decode cX1_begin 47 = .ok (.iconst 0, 1) := by decide +kernel
theorem dX1_begin_48 : decode cX1_begin 48 = .ok (.putfield 40, 3) := by decide +kernel
theorem dX1_begin_51 : decode cX1_begin 51 = .ok (.return_, 1) := by decide +kernel
theorem dX1_vanish_0 : decode cX1_vanish 0 = .ok (.aload_n 0, 1) := by decide +kernel
theorem dX1_vanish_1 : decode cX1_vanish 1 = .ok (.iconst 0, 1) := by decide +kernel
theorem dX1_vanish_2 : decode cX1_vanish 2 = .ok (.putfield 9, 3) := by decide +kernel
theorem dX1_vanish_5 : decode cX1_vanish 5 = .ok (.return_, 1) := by decide +kernel
theorem dX1_rolls_0 : decode cX1_rolls 0 = .ok (.aload_n 0, 1) := by decide +kernel
theorem dX1_rolls_1 : decode cX1_rolls 1 = .ok (.getfield 9, 3) := by decide +kernel
theorem dX1_rolls_4 : decode cX1_rolls 4 = .ok (.ifCond .eq 14, 3) := by decide +kernel
theorem dX1_rolls_7 : decode cX1_rolls 7 = .ok (.aload_n 0, 1) := by decide +kernel
theorem dX1_rolls_8 : decode cX1_rolls 8 = .ok (.getfield 31, 3) := by decide +kernel
theorem dX1_rolls_11 : decode cX1_rolls 11 = .ok (.ifCond .ne 7, 3) := by decide +kernel
theorem dX1_rolls_14 : decode cX1_rolls 14 = .ok (.iconst 1, 1) := by decide +kernel
theorem dX1_rolls_15 : decode cX1_rolls 15 = .ok (.goto 4, 3) := by decide +kernel
theorem dX1_rolls_18 : decode cX1_rolls 18 = .ok (.iconst 0, 1) := by decide +kernel
theorem dX1_rolls_19 : decode cX1_rolls 19 = .ok (.ireturn, 1) := by decide +kernel
theorem dX1_takeTap_0 : decode cX1_takeTap 0 = .ok (.aload_n 0, 1) := by decide +kernel
theorem dX1_takeTap_1 : decode cX1_takeTap 1 = .ok (.dup, 1) := by decide +kernel
theorem dX1_takeTap_2 : decode cX1_takeTap 2 = .ok (.getfield 22, 3) := by decide +kernel
theorem dX1_takeTap_5 : decode cX1_takeTap 5 = .ok (.iload_n 1, 1) := by decide +kernel
theorem dX1_takeTap_6 : decode cX1_takeTap 6 = .ok (.ifCond .ne 7, 3) := by decide +kernel
theorem dX1_takeTap_9 : decode cX1_takeTap 9 = .ok (.iload_n 2, 1) := by decide +kernel
theorem dX1_takeTap_10 : decode cX1_takeTap 10 = .ok (.goto 5, 3) := by decide +kernel
theorem dX1_takeTap_13 : decode cX1_takeTap 13 = .ok (.iload_n 2, 1) := by decide +kernel
theorem dX1_takeTap_14 : decode cX1_takeTap 14 = .ok (.ineg, 1) := by decide +kernel
theorem dX1_takeTap_15 : decode cX1_takeTap 15 = .ok (.iadd, 1) := by decide +kernel
theorem dX1_takeTap_16 : decode cX1_takeTap 16 = .ok (.putfield 22, 3) := by decide +kernel
theorem dX1_takeTap_19 : decode cX1_takeTap 19 = .ok (.aload_n 0, 1) := by decide +kernel
theorem dX1_takeTap_20 : decode cX1_takeTap 20 = .ok (.iconst 2, 1) := by decide +kernel
theorem dX1_takeTap_21 : decode cX1_takeTap 21 = .ok (.invokevirtual 43, 3) := by decide +kernel
theorem dX1_takeTap_24 : decode cX1_takeTap 24 = .ok (.aload_n 0, 1) := by decide +kernel
theorem dX1_takeTap_25 : decode cX1_takeTap 25 = .ok (.dup, 1) := by decide +kernel
theorem dX1_takeTap_26 : decode cX1_takeTap 26 = .ok (.getfield 34, 3) := by decide +kernel
theorem dX1_takeTap_29 : decode cX1_takeTap 29 = .ok (.iconst 1, 1) := by decide +kernel
theorem dX1_takeTap_30 : decode cX1_takeTap 30 = .ok (.iadd, 1) := by decide +kernel
theorem dX1_takeTap_31 : decode cX1_takeTap 31 = .ok (.putfield 34, 3) := by decide +kernel
theorem dX1_takeTap_34 : decode cX1_takeTap 34 = .ok (.return_, 1) := by decide +kernel
theorem dX1_takePush_0 : decode cX1_takePush 0 = .ok (.aload_n 0, 1) := by decide +kernel
theorem dX1_takePush_1 : decode cX1_takePush 1 = .ok (.iconst 5, 1) := by decide +kernel
theorem dX1_takePush_2 : decode cX1_takePush 2 = .ok (.invokevirtual 47, 3) := by decide +kernel
theorem dX1_takePush_5 : decode cX1_takePush 5 = .ok (.aload_n 0, 1) := by decide +kernel
theorem dX1_takePush_6 : decode cX1_takePush 6 = .ok (.dup, 1) := by decide +kernel
theorem dX1_takePush_7 : decode cX1_takePush 7 = .ok (.getfield 37, 3) := by decide +kernel
theorem dX1_takePush_10 : decode cX1_takePush 10 = .ok (.iconst 1, 1) := by decide +kernel
theorem dX1_takePush_11 : decode cX1_takePush 11 = .ok (.iadd, 1) := by decide +kernel
theorem dX1_takePush_12 : decode cX1_takePush 12 = .ok (.putfield 37, 3) := by decide +kernel
theorem dX1_takePush_15 : decode cX1_takePush 15 = .ok (.return_, 1) := by decide +kernel
theorem dX1_rollOver_0 : decode cX1_rollOver 0 = .ok (.iconst 0, 1) := by decide +kernel
theorem dX1_rollOver_1 : decode cX1_rollOver 1 = .ok (.istore 4, 2) := by decide +kernel
theorem dX1_rollOver_3 : decode cX1_rollOver 3 = .ok (.iload 4, 2) := by decide +kernel
theorem dX1_rollOver_5 : decode cX1_rollOver 5 = .ok (.iload_n 1, 1) := by decide +kernel
theorem dX1_rollOver_6 : decode cX1_rollOver 6 = .ok (.if_icmp .ge 68, 3) := by decide +kernel
theorem dX1_rollOver_9 : decode cX1_rollOver 9 = .ok (.aload_n 0, 1) := by decide +kernel
theorem dX1_rollOver_10 : decode cX1_rollOver 10 = .ok (.invokevirtual 50, 3) := by decide +kernel
theorem dX1_rollOver_13 : decode cX1_rollOver 13 = .ok (.ifCond .eq 61, 3) := by decide +kernel
theorem dX1_rollOver_16 : decode cX1_rollOver 16 = .ok (.aload_n 2, 1) := by decide +kernel
theorem dX1_rollOver_17 : decode cX1_rollOver 17 = .ok (.aload_n 0, 1) := by decide +kernel
theorem dX1_rollOver_18 : decode cX1_rollOver 18 = .ok (.getfield 28, 3) := by decide +kernel
theorem dX1_rollOver_21 : decode cX1_rollOver 21 = .ok (.invokevirtual 54, 3) := by decide +kernel
theorem dX1_rollOver_24 : decode cX1_rollOver 24 = .ok (.ifCond .eq 39, 3) := by decide +kernel
theorem dX1_rollOver_27 : decode cX1_rollOver 27 = .ok (.aload_n 0, 1) := by decide +kernel
theorem dX1_rollOver_28 : decode cX1_rollOver 28 = .ok (.aload_n 2, 1) := by decide +kernel
theorem dX1_rollOver_29 : decode cX1_rollOver 29 = .ok (.aload_n 0, 1) := by decide +kernel
theorem dX1_rollOver_30 : decode cX1_rollOver 30 = .ok (.getfield 28, 3) := by decide +kernel
theorem dX1_rollOver_33 : decode cX1_rollOver 33 = .ok (.iconst 0, 1) := by decide +kernel
theorem dX1_rollOver_34 : decode cX1_rollOver 34 = .ok (.invokevirtual 60, 3) := by decide +kernel
theorem dX1_rollOver_37 : decode cX1_rollOver 37 = .ok (.aload_n 2, 1) := by decide +kernel
theorem dX1_rollOver_38 : decode cX1_rollOver 38 = .ok (.aload_n 0, 1) := by decide +kernel
theorem dX1_rollOver_39 : decode cX1_rollOver 39 = .ok (.getfield 28, 3) := by decide +kernel
theorem dX1_rollOver_42 : decode cX1_rollOver 42 = .ok (.iconst 1, 1) := by decide +kernel
theorem dX1_rollOver_43 : decode cX1_rollOver 43 = .ok (.invokevirtual 60, 3) := by decide +kernel
theorem dX1_rollOver_46 : decode cX1_rollOver 46 = .ok (.aload_n 3, 1) := by decide +kernel
theorem dX1_rollOver_47 : decode cX1_rollOver 47 = .ok (.invokevirtual 64, 3) := by decide +kernel
theorem dX1_rollOver_50 : decode cX1_rollOver 50 = .ok (.aload_n 0, 1) := by decide +kernel
theorem dX1_rollOver_51 : decode cX1_rollOver 51 = .ok (.aload_n 2, 1) := by decide +kernel
theorem dX1_rollOver_52 : decode cX1_rollOver 52 = .ok (.aload_n 3, 1) := by decide +kernel
theorem dX1_rollOver_53 : decode cX1_rollOver 53 = .ok (.iconst 0, 1) := by decide +kernel
theorem dX1_rollOver_54 : decode cX1_rollOver 54 = .ok (.invokevirtual 68, 3) := by decide +kernel
theorem dX1_rollOver_57 : decode cX1_rollOver 57 = .ok (.invokevirtual 74, 3) := by decide +kernel
theorem dX1_rollOver_60 : decode cX1_rollOver 60 = .ok (.goto 8, 3) := by decide +kernel
theorem dX1_rollOver_63 : decode cX1_rollOver 63 = .ok (.aload_n 0, 1) := by decide +kernel
theorem dX1_rollOver_64 : decode cX1_rollOver 64 = .ok (.iconst 4, 1) := by decide +kernel
theorem dX1_rollOver_65 : decode cX1_rollOver 65 = .ok (.putfield 31, 3) := by decide +kernel
theorem dX1_rollOver_68 : decode cX1_rollOver 68 = .ok (.iinc 4 1, 3) := by decide +kernel
theorem dX1_rollOver_71 : decode cX1_rollOver 71 = .ok (.goto (-68), 3) := by decide +kernel
theorem dX1_rollOver_74 : decode cX1_rollOver 74 = .ok (.return_, 1) := by decide +kernel
theorem dX1_meet_0 : decode cX1_meet 0 = .ok (.iload_n 1, 1) := by decide +kernel
theorem dX1_meet_1 : decode cX1_meet 1 = .ok (.lookupswitch 69 #[(0, 27), (1, 40)], 27) := by decide +kernel
theorem dX1_meet_28 : decode cX1_meet 28 = .ok (.aload_n 0, 1) := by decide +kernel
theorem dX1_meet_29 : decode cX1_meet 29 = .ok (.iload_n 2, 1) := by decide +kernel
theorem dX1_meet_30 : decode cX1_meet 30 = .ok (.aload_n 3, 1) := by decide +kernel
theorem dX1_meet_31 : decode cX1_meet 31 = .ok (.iconst 1, 1) := by decide +kernel
theorem dX1_meet_32 : decode cX1_meet 32 = .ok (.invokevirtual 68, 3) := by decide +kernel
theorem dX1_meet_35 : decode cX1_meet 35 = .ok (.invokevirtual 78, 3) := by decide +kernel
theorem dX1_meet_38 : decode cX1_meet 38 = .ok (.goto 56, 3) := by decide +kernel
theorem dX1_meet_41 : decode cX1_meet 41 = .ok (.aload_n 0, 1) := by decide +kernel
theorem dX1_meet_42 : decode cX1_meet 42 = .ok (.iload_n 2, 1) := by decide +kernel
theorem dX1_meet_43 : decode cX1_meet 43 = .ok (.aload_n 3, 1) := by decide +kernel
theorem dX1_meet_44 : decode cX1_meet 44 = .ok (.iconst 2, 1) := by decide +kernel
theorem dX1_meet_45 : decode cX1_meet 45 = .ok (.invokevirtual 68, 3) := by decide +kernel
theorem dX1_meet_48 : decode cX1_meet 48 = .ok (.invokevirtual 82, 3) := by decide +kernel
theorem dX1_meet_51 : decode cX1_meet 51 = .ok (.aload_n 0, 1) := by decide +kernel
theorem dX1_meet_52 : decode cX1_meet 52 = .ok (.aload_n 0, 1) := by decide +kernel
theorem dX1_meet_53 : decode cX1_meet 53 = .ok (.getfield 19, 3) := by decide +kernel
theorem dX1_meet_56 : decode cX1_meet 56 = .ok (.ifCond .ne 7, 3) := by decide +kernel
theorem dX1_meet_59 : decode cX1_meet 59 = .ok (.iconst 3, 1) := by decide +kernel
theorem dX1_meet_60 : decode cX1_meet 60 = .ok (.goto 4, 3) := by decide +kernel
theorem dX1_meet_63 : decode cX1_meet 63 = .ok (.iconst 0, 1) := by decide +kernel
theorem dX1_meet_64 : decode cX1_meet 64 = .ok (.putfield 31, 3) := by decide +kernel
theorem dX1_meet_67 : decode cX1_meet 67 = .ok (.goto 27, 3) := by decide +kernel
theorem dX1_meet_70 : decode cX1_meet 70 = .ok (.aload_n 0, 1) := by decide +kernel
theorem dX1_meet_71 : decode cX1_meet 71 = .ok (.aload_n 0, 1) := by decide +kernel
theorem dX1_meet_72 : decode cX1_meet 72 = .ok (.getfield 15, 3) := by decide +kernel
theorem dX1_meet_75 : decode cX1_meet 75 = .ok (.aload_n 0, 1) := by decide +kernel
theorem dX1_meet_76 : decode cX1_meet 76 = .ok (.getfield 25, 3) := by decide +kernel
theorem dX1_meet_79 : decode cX1_meet 79 = .ok (.iconst 4, 1) := by decide +kernel
theorem dX1_meet_80 : decode cX1_meet 80 = .ok (.idiv, 1) := by decide +kernel
theorem dX1_meet_81 : decode cX1_meet 81 = .ok (.iadd, 1) := by decide +kernel
theorem dX1_meet_82 : decode cX1_meet 82 = .ok (.iload_n 2, 1) := by decide +kernel
theorem dX1_meet_83 : decode cX1_meet 83 = .ok (.if_icmp .gt 7, 3) := by decide +kernel
theorem dX1_meet_86 : decode cX1_meet 86 = .ok (.iconst 0, 1) := by decide +kernel
theorem dX1_meet_87 : decode cX1_meet 87 = .ok (.goto 4, 3) := by decide +kernel
theorem dX1_meet_90 : decode cX1_meet 90 = .ok (.iconst 2, 1) := by decide +kernel
theorem dX1_meet_91 : decode cX1_meet 91 = .ok (.putfield 31, 3) := by decide +kernel
theorem dX1_meet_94 : decode cX1_meet 94 = .ok (.return_, 1) := by decide +kernel
theorem dX1_goBehind_0 : decode cX1_goBehind 0 = .ok (.aload_n 0, 1) := by decide +kernel
theorem dX1_goBehind_1 : decode cX1_goBehind 1 = .ok (.getfield 31, 3) := by decide +kernel
theorem dX1_goBehind_4 : decode cX1_goBehind 4 = .ok (.ifCond .eq 4, 3) := by decide +kernel
theorem dX1_goBehind_7 : decode cX1_goBehind 7 = .ok (.return_, 1) := by decide +kernel
theorem dX1_goBehind_8 : decode cX1_goBehind 8 = .ok (.aload_n 0, 1) := by decide +kernel
theorem dX1_goBehind_9 : decode cX1_goBehind 9 = .ok (.getfield 22, 3) := by decide +kernel
theorem dX1_goBehind_12 : decode cX1_goBehind 12 = .ok (.invokestatic 85, 3) := by decide +kernel
theorem dX1_goBehind_15 : decode cX1_goBehind 15 = .ok (.istore_n 3, 1) := by decide +kernel
theorem dX1_goBehind_16 : decode cX1_goBehind 16 = .ok (.aload_n 0, 1) := by decide +kernel
theorem dX1_goBehind_17 : decode cX1_goBehind 17 = .ok (.aload_n 0, 1) := by decide +kernel
theorem dX1_goBehind_18 : decode cX1_goBehind 18 = .ok (.getfield 40, 3) := by decide +kernel
theorem dX1_goBehind_21 : decode cX1_goBehind 21 = .ok (.iload_n 3, 1) := by decide +kernel
theorem dX1_goBehind_22 : decode cX1_goBehind 22 = .ok (.invokestatic 90, 3) := by decide +kernel
theorem dX1_goBehind_25 : decode cX1_goBehind 25 = .ok (.putfield 40, 3) := by decide +kernel
theorem dX1_goBehind_28 : decode cX1_goBehind 28 = .ok (.iload_n 3, 1) := by decide +kernel
theorem dX1_goBehind_29 : decode cX1_goBehind 29 = .ok (.iload_n 2, 1) := by decide +kernel
theorem dX1_goBehind_30 : decode cX1_goBehind 30 = .ok (.if_icmp .lt 9, 3) := by decide +kernel
theorem dX1_goBehind_33 : decode cX1_goBehind 33 = .ok (.aload_n 0, 1) := by decide +kernel
theorem dX1_goBehind_34 : decode cX1_goBehind 34 = .ok (.iconst 1, 1) := by decide +kernel
theorem dX1_goBehind_35 : decode cX1_goBehind 35 = .ok (.putfield 31, 3) := by decide +kernel
theorem dX1_goBehind_38 : decode cX1_goBehind 38 = .ok (.return_, 1) := by decide +kernel
theorem dX1_goBehind_39 : decode cX1_goBehind 39 = .ok (.aload_n 0, 1) := by decide +kernel
theorem dX1_goBehind_40 : decode cX1_goBehind 40 = .ok (.dup, 1) := by decide +kernel
theorem dX1_goBehind_41 : decode cX1_goBehind 41 = .ok (.getfield 28, 3) := by decide +kernel
theorem dX1_goBehind_44 : decode cX1_goBehind 44 = .ok (.iconst 1, 1) := by decide +kernel
theorem dX1_goBehind_45 : decode cX1_goBehind 45 = .ok (.iadd, 1) := by decide +kernel
theorem dX1_goBehind_46 : decode cX1_goBehind 46 = .ok (.putfield 28, 3) := by decide +kernel
theorem dX1_goBehind_49 : decode cX1_goBehind 49 = .ok (.aload_n 1, 1) := by decide +kernel
theorem dX1_goBehind_50 : decode cX1_goBehind 50 = .ok (.aload_n 0, 1) := by decide +kernel
theorem dX1_goBehind_51 : decode cX1_goBehind 51 = .ok (.getfield 28, 3) := by decide +kernel
theorem dX1_goBehind_54 : decode cX1_goBehind 54 = .ok (.invokevirtual 54, 3) := by decide +kernel
theorem dX1_goBehind_57 : decode cX1_goBehind 57 = .ok (.ifCond .ne 8, 3) := by decide +kernel
theorem dX1_goBehind_60 : decode cX1_goBehind 60 = .ok (.aload_n 0, 1) := by decide +kernel
theorem dX1_goBehind_61 : decode cX1_goBehind 61 = .ok (.iconst 4, 1) := by decide +kernel
theorem dX1_goBehind_62 : decode cX1_goBehind 62 = .ok (.putfield 31, 3) := by decide +kernel
theorem dX1_goBehind_65 : decode cX1_goBehind 65 = .ok (.return_, 1) := by decide +kernel
theorem dX1_dropBy_0 : decode cX1_dropBy 0 = .ok (.aload_n 0, 1) := by decide +kernel
theorem dX1_dropBy_1 : decode cX1_dropBy 1 = .ok (.iload_n 1, 1) := by decide +kernel
theorem dX1_dropBy_2 : decode cX1_dropBy 2 = .ok (.iconst 4, 1) := by decide +kernel
theorem dX1_dropBy_3 : decode cX1_dropBy 3 = .ok (.imul, 1) := by decide +kernel
theorem dX1_dropBy_4 : decode cX1_dropBy 4 = .ok (.invokevirtual 47, 3) := by decide +kernel
theorem dX1_dropBy_7 : decode cX1_dropBy 7 = .ok (.aload_n 0, 1) := by decide +kernel
theorem dX1_dropBy_8 : decode cX1_dropBy 8 = .ok (.iload_n 2, 1) := by decide +kernel
theorem dX1_dropBy_9 : decode cX1_dropBy 9 = .ok (.iload_n 1, 1) := by decide +kernel
theorem dX1_dropBy_10 : decode cX1_dropBy 10 = .ok (.imul, 1) := by decide +kernel
theorem dX1_dropBy_11 : decode cX1_dropBy 11 = .ok (.invokevirtual 43, 3) := by decide +kernel
theorem dX1_dropBy_14 : decode cX1_dropBy 14 = .ok (.aload_n 0, 1) := by decide +kernel
theorem dX1_dropBy_15 : decode cX1_dropBy 15 = .ok (.dup, 1) := by decide +kernel
theorem dX1_dropBy_16 : decode cX1_dropBy 16 = .ok (.getfield 22, 3) := by decide +kernel
theorem dX1_dropBy_19 : decode cX1_dropBy 19 = .ok (.aload_n 0, 1) := by decide +kernel
theorem dX1_dropBy_20 : decode cX1_dropBy 20 = .ok (.getfield 28, 3) := by decide +kernel
theorem dX1_dropBy_23 : decode cX1_dropBy 23 = .ok (.iconst 2, 1) := by decide +kernel
theorem dX1_dropBy_24 : decode cX1_dropBy 24 = .ok (.irem, 1) := by decide +kernel
theorem dX1_dropBy_25 : decode cX1_dropBy 25 = .ok (.ifCond .ne 12, 3) := by decide +kernel
theorem dX1_dropBy_28 : decode cX1_dropBy 28 = .ok (.aload_n 0, 1) := by decide +kernel
theorem dX1_dropBy_29 : decode cX1_dropBy 29 = .ok (.getfield 25, 3) := by decide +kernel
theorem dX1_dropBy_32 : decode cX1_dropBy 32 = .ok (.iconst 4, 1) := by decide +kernel
theorem dX1_dropBy_33 : decode cX1_dropBy 33 = .ok (.idiv, 1) := by decide +kernel
theorem dX1_dropBy_34 : decode cX1_dropBy 34 = .ok (.goto 10, 3) := by decide +kernel
theorem dX1_dropBy_37 : decode cX1_dropBy 37 = .ok (.aload_n 0, 1) := by decide +kernel
theorem dX1_dropBy_38 : decode cX1_dropBy 38 = .ok (.getfield 25, 3) := by decide +kernel
theorem dX1_dropBy_41 : decode cX1_dropBy 41 = .ok (.iconst 4, 1) := by decide +kernel
theorem dX1_dropBy_42 : decode cX1_dropBy 42 = .ok (.idiv, 1) := by decide +kernel
theorem dX1_dropBy_43 : decode cX1_dropBy 43 = .ok (.ineg, 1) := by decide +kernel
theorem dX1_dropBy_44 : decode cX1_dropBy 44 = .ok (.iadd, 1) := by decide +kernel
theorem dX1_dropBy_45 : decode cX1_dropBy 45 = .ok (.putfield 22, 3) := by decide +kernel
theorem dX1_dropBy_48 : decode cX1_dropBy 48 = .ok (.return_, 1) := by decide +kernel
theorem dX1_rollAlong_0 : decode cX1_rollAlong 0 = .ok (.iconst 0, 1) := by decide +kernel
theorem dX1_rollAlong_1 : decode cX1_rollAlong 1 = .ok (.istore_n 3, 1) := by decide +kernel
theorem dX1_rollAlong_2 : decode cX1_rollAlong 2 = .ok (.iload_n 3, 1) := by decide +kernel
theorem dX1_rollAlong_3 : decode cX1_rollAlong 3 = .ok (.iload_n 1, 1) := by decide +kernel
theorem dX1_rollAlong_4 : decode cX1_rollAlong 4 = .ok (.if_icmp .ge 49, 3) := by decide +kernel
theorem dX1_rollAlong_7 : decode cX1_rollAlong 7 = .ok (.aload_n 0, 1) := by decide +kernel
theorem dX1_rollAlong_8 : decode cX1_rollAlong 8 = .ok (.iconst 0, 1) := by decide +kernel
theorem dX1_rollAlong_9 : decode cX1_rollAlong 9 = .ok (.aload_n 0, 1) := by decide +kernel
theorem dX1_rollAlong_10 : decode cX1_rollAlong 10 = .ok (.getfield 19, 3) := by decide +kernel
theorem dX1_rollAlong_13 : decode cX1_rollAlong 13 = .ok (.iload_n 2, 1) := by decide +kernel
theorem dX1_rollAlong_14 : decode cX1_rollAlong 14 = .ok (.isub, 1) := by decide +kernel
theorem dX1_rollAlong_15 : decode cX1_rollAlong 15 = .ok (.invokestatic 90, 3) := by decide +kernel
theorem dX1_rollAlong_18 : decode cX1_rollAlong 18 = .ok (.putfield 19, 3) := by decide +kernel
theorem dX1_rollAlong_21 : decode cX1_rollAlong 21 = .ok (.aload_n 0, 1) := by decide +kernel
theorem dX1_rollAlong_22 : decode cX1_rollAlong 22 = .ok (.dup, 1) := by decide +kernel
theorem dX1_rollAlong_23 : decode cX1_rollAlong 23 = .ok (.getfield 25, 3) := by decide +kernel
theorem dX1_rollAlong_26 : decode cX1_rollAlong 26 = .ok (.aload_n 0, 1) := by decide +kernel
theorem dX1_rollAlong_27 : decode cX1_rollAlong 27 = .ok (.getfield 25, 3) := by decide +kernel
theorem dX1_rollAlong_30 : decode cX1_rollAlong 30 = .ok (.iconst 4, 1) := by decide +kernel
theorem dX1_rollAlong_31 : decode cX1_rollAlong 31 = .ok (.idiv, 1) := by decide +kernel
theorem dX1_rollAlong_32 : decode cX1_rollAlong 32 = .ok (.isub, 1) := by decide +kernel
theorem dX1_rollAlong_33 : decode cX1_rollAlong 33 = .ok (.putfield 25, 3) := by decide +kernel
theorem dX1_rollAlong_36 : decode cX1_rollAlong 36 = .ok (.aload_n 0, 1) := by decide +kernel
theorem dX1_rollAlong_37 : decode cX1_rollAlong 37 = .ok (.aload_n 0, 1) := by decide +kernel
theorem dX1_rollAlong_38 : decode cX1_rollAlong 38 = .ok (.getfield 19, 3) := by decide +kernel
theorem dX1_rollAlong_41 : decode cX1_rollAlong 41 = .ok (.bipush 20, 2) := by decide +kernel
theorem dX1_rollAlong_43 : decode cX1_rollAlong 43 = .ok (.idiv, 1) := by decide +kernel
theorem dX1_rollAlong_44 : decode cX1_rollAlong 44 = .ok (.invokevirtual 93, 3) := by decide +kernel
theorem dX1_rollAlong_47 : decode cX1_rollAlong 47 = .ok (.iinc 3 1, 3) := by decide +kernel
theorem dX1_rollAlong_50 : decode cX1_rollAlong 50 = .ok (.goto (-48), 3) := by decide +kernel
theorem dX1_rollAlong_53 : decode cX1_rollAlong 53 = .ok (.return_, 1) := by decide +kernel
theorem dX1_rightItselfBy_0 : decode cX1_rightItselfBy 0 = .ok (.aload_n 0, 1) := by decide +kernel
theorem dX1_rightItselfBy_1 : decode cX1_rightItselfBy 1 = .ok (.getfield 22, 3) := by decide +kernel
theorem dX1_rightItselfBy_4 : decode cX1_rightItselfBy 4 = .ok (.ifCond .le 20, 3) := by decide +kernel
theorem dX1_rightItselfBy_7 : decode cX1_rightItselfBy 7 = .ok (.aload_n 0, 1) := by decide +kernel
theorem dX1_rightItselfBy_8 : decode cX1_rightItselfBy 8 = .ok (.iconst 0, 1) := by decide +kernel
theorem dX1_rightItselfBy_9 : decode cX1_rightItselfBy 9 = .ok (.aload_n 0, 1) := by decide +kernel
theorem dX1_rightItselfBy_10 : decode cX1_rightItselfBy 10 = .ok (.getfield 22, 3) := by decide +kernel
theorem dX1_rightItselfBy_13 : decode cX1_rightItselfBy 13 = .ok (.iload_n 1, 1) := by decide +kernel
theorem dX1_rightItselfBy_14 : decode cX1_rightItselfBy 14 = .ok (.isub, 1) := by decide +kernel
theorem dX1_rightItselfBy_15 : decode cX1_rightItselfBy 15 = .ok (.invokestatic 90, 3) := by decide +kernel
theorem dX1_rightItselfBy_18 : decode cX1_rightItselfBy 18 = .ok (.putfield 22, 3) := by decide +kernel
theorem dX1_rightItselfBy_21 : decode cX1_rightItselfBy 21 = .ok (.goto 17, 3) := by decide +kernel
theorem dX1_rightItselfBy_24 : decode cX1_rightItselfBy 24 = .ok (.aload_n 0, 1) := by decide +kernel
theorem dX1_rightItselfBy_25 : decode cX1_rightItselfBy 25 = .ok (.iconst 0, 1) := by decide +kernel
theorem dX1_rightItselfBy_26 : decode cX1_rightItselfBy 26 = .ok (.aload_n 0, 1) := by decide +kernel
theorem dX1_rightItselfBy_27 : decode cX1_rightItselfBy 27 = .ok (.getfield 22, 3) := by decide +kernel
theorem dX1_rightItselfBy_30 : decode cX1_rightItselfBy 30 = .ok (.iload_n 1, 1) := by decide +kernel
theorem dX1_rightItselfBy_31 : decode cX1_rightItselfBy 31 = .ok (.iadd, 1) := by decide +kernel
theorem dX1_rightItselfBy_32 : decode cX1_rightItselfBy 32 = .ok (.invokestatic 96, 3) := by decide +kernel
theorem dX1_rightItselfBy_35 : decode cX1_rightItselfBy 35 = .ok (.putfield 22, 3) := by decide +kernel
theorem dX1_rightItselfBy_38 : decode cX1_rightItselfBy 38 = .ok (.return_, 1) := by decide +kernel
theorem dX1_speedUpBy_0 : decode cX1_speedUpBy 0 = .ok (.aload_n 0, 1) := by decide +kernel
theorem dX1_speedUpBy_1 : decode cX1_speedUpBy 1 = .ok (.bipush 99, 2) := by decide +kernel
theorem dX1_speedUpBy_3 : decode cX1_speedUpBy 3 = .ok (.aload_n 0, 1) := by decide +kernel
theorem dX1_speedUpBy_4 : decode cX1_speedUpBy 4 = .ok (.getfield 19, 3) := by decide +kernel
theorem dX1_speedUpBy_7 : decode cX1_speedUpBy 7 = .ok (.iload_n 1, 1) := by decide +kernel
theorem dX1_speedUpBy_8 : decode cX1_speedUpBy 8 = .ok (.iadd, 1) := by decide +kernel
theorem dX1_speedUpBy_9 : decode cX1_speedUpBy 9 = .ok (.invokestatic 96, 3) := by decide +kernel
theorem dX1_speedUpBy_12 : decode cX1_speedUpBy 12 = .ok (.putfield 19, 3) := by decide +kernel
theorem dX1_speedUpBy_15 : decode cX1_speedUpBy 15 = .ok (.return_, 1) := by decide +kernel
theorem dX1_shakeBy_0 : decode cX1_shakeBy 0 = .ok (.aload_n 0, 1) := by decide +kernel
theorem dX1_shakeBy_1 : decode cX1_shakeBy 1 = .ok (.bipush 99, 2) := by decide +kernel
theorem dX1_shakeBy_3 : decode cX1_shakeBy 3 = .ok (.aload_n 0, 1) := by decide +kernel
theorem dX1_shakeBy_4 : decode cX1_shakeBy 4 = .ok (.getfield 25, 3) := by decide +kernel
theorem dX1_shakeBy_7 : decode cX1_shakeBy 7 = .ok (.iload_n 1, 1) := by decide +kernel
theorem dX1_shakeBy_8 : decode cX1_shakeBy 8 = .ok (.iadd, 1) := by decide +kernel
theorem dX1_shakeBy_9 : decode cX1_shakeBy 9 = .ok (.invokestatic 96, 3) := by decide +kernel
theorem dX1_shakeBy_12 : decode cX1_shakeBy 12 = .ok (.putfield 25, 3) := by decide +kernel
theorem dX1_shakeBy_15 : decode cX1_shakeBy 15 = .ok (.return_, 1) := by decide +kernel
theorem dX2_init_0 : decode cX2_init 0 = .ok (.aload_n 0, 1) := by decide +kernel
theorem dX2_init_1 : decode cX2_init 1 = .ok (.invokespecial 3, 3) := by decide +kernel
theorem dX2_init_4 : decode cX2_init 4 = .ok (.aload_n 0, 1) := by decide +kernel
theorem dX2_init_5 : decode cX2_init 5 = .ok (.bipush 80, 2) := by decide +kernel
theorem dX2_init_7 : decode cX2_init 7 = .ok (.newarray .int, 2) := by decide +kernel
theorem dX2_init_9 : decode cX2_init 9 = .ok (.putfield 11, 3) := by decide +kernel
theorem dX2_init_12 : decode cX2_init 12 = .ok (.aload_n 0, 1) := by decide +kernel
theorem dX2_init_13 : decode cX2_init 13 = .ok (.iconst 0, 1) := by decide +kernel
theorem dX2_init_14 : decode cX2_init 14 = .ok (.putfield 15, 3) := by decide +kernel
theorem dX2_init_17 : decode cX2_init 17 = .ok (.aload_n 0, 1) := by decide +kernel
theorem dX2_init_18 : decode cX2_init 18 = .ok (.iconst 0, 1) := by decide +kernel
theorem dX2_init_19 : decode cX2_init 19 = .ok (.putfield 19, 3) := by decide +kernel
theorem dX2_init_22 : decode cX2_init 22 = .ok (.return_, 1) := by decide +kernel
theorem dX3_init_0 : decode cX3_init 0 = .ok (.aload_n 0, 1) := by decide +kernel
theorem dX3_init_1 : decode cX3_init 1 = .ok (.invokespecial 1, 3) := by decide +kernel
theorem dX3_init_4 : decode cX3_init 4 = .ok (.aload_n 0, 1) := by decide +kernel
theorem dX3_init_5 : decode cX3_init 5 = .ok (.iconst 4, 1) := by decide +kernel
theorem dX3_init_6 : decode cX3_init 6 = .ok (.bipush 10, 2) := by decide +kernel
theorem dX3_init_8 : decode cX3_init 8 = .ok (.multianewarray 9 2, 4) := by decide +kernel
theorem dX3_init_12 : decode cX3_init 12 = .ok (.putfield 11, 3) := by decide +kernel
theorem dX3_init_15 : decode cX3_init 15 = .ok (.aload_n 0, 1) := by decide +kernel
theorem dX3_init_16 : decode cX3_init 16 = .ok (.iconst 0, 1) := by decide +kernel
theorem dX3_init_17 : decode cX3_init 17 = .ok (.putfield 14, 3) := by decide +kernel
theorem dX3_init_20 : decode cX3_init 20 = .ok (.return_, 1) := by decide +kernel
theorem dX3_copyFrom_0 : decode cX3_copyFrom 0 = .ok (.iconst 0, 1) := by decide +kernel
theorem dX3_copyFrom_1 : decode cX3_copyFrom 1 = .ok (.istore_n 2, 1) := by decide +kernel
theorem dX3_copyFrom_2 : decode cX3_copyFrom 2 = .ok (.iload_n 2, 1) := by decide +kernel
theorem dX3_copyFrom_3 : decode cX3_copyFrom 3 = .ok (.iconst 4, 1) := by decide +kernel
theorem dX3_copyFrom_4 : decode cX3_copyFrom 4 = .ok (.if_icmp .ge 28, 3) := by decide +kernel
theorem dX3_copyFrom_7 : decode cX3_copyFrom 7 = .ok (.aload_n 1, 1) := by decide +kernel
theorem dX3_copyFrom_8 : decode cX3_copyFrom 8 = .ok (.getfield 11, 3) := by decide +kernel
theorem dX3_copyFrom_11 : decode cX3_copyFrom 11 = .ok (.iload_n 2, 1) := by decide +kernel
theorem dX3_copyFrom_12 : decode cX3_copyFrom 12 = .ok (.aaload, 1) := by decide +kernel
theorem dX3_copyFrom_13 : decode cX3_copyFrom 13 = .ok (.iconst 0, 1) := by decide +kernel
theorem dX3_copyFrom_14 : decode cX3_copyFrom 14 = .ok (.aload_n 0, 1) := by decide +kernel
theorem dX3_copyFrom_15 : decode cX3_copyFrom 15 = .ok (.getfield 11, 3) := by decide +kernel
theorem dX3_copyFrom_18 : decode cX3_copyFrom 18 = .ok (.iload_n 2, 1) := by decide +kernel
theorem dX3_copyFrom_19 : decode cX3_copyFrom 19 = .ok (.aaload, 1) := by decide +kernel
theorem dX3_copyFrom_20 : decode cX3_copyFrom 20 = .ok (.iconst 0, 1) := by decide +kernel
theorem dX3_copyFrom_21 : decode cX3_copyFrom 21 = .ok (.bipush 10, 2) := by decide +kernel
theorem dX3_copyFrom_23 : decode cX3_copyFrom 23 = .ok (.invokestatic 18, 3) := by decide +kernel
theorem dX3_copyFrom_26 : decode cX3_copyFrom 26 = .ok (.iinc 2 1, 3) := by decide +kernel
theorem dX3_copyFrom_29 : decode cX3_copyFrom 29 = .ok (.goto (-27), 3) := by decide +kernel
theorem dX3_copyFrom_32 : decode cX3_copyFrom 32 = .ok (.aload_n 0, 1) := by decide +kernel
theorem dX3_copyFrom_33 : decode cX3_copyFrom 33 = .ok (.aload_n 1, 1) := by decide +kernel
theorem dX3_copyFrom_34 : decode cX3_copyFrom 34 = .ok (.getfield 14, 3) := by decide +kernel
theorem dX3_copyFrom_37 : decode cX3_copyFrom 37 = .ok (.putfield 14, 3) := by decide +kernel
theorem dX3_copyFrom_40 : decode cX3_copyFrom 40 = .ok (.return_, 1) := by decide +kernel
theorem dX3_has_0 : decode cX3_has 0 = .ok (.iload_n 1, 1) := by decide +kernel
theorem dX3_has_1 : decode cX3_has 1 = .ok (.ifCond .lt 21, 3) := by decide +kernel
theorem dX3_has_4 : decode cX3_has 4 = .ok (.iload_n 1, 1) := by decide +kernel
theorem dX3_has_5 : decode cX3_has 5 = .ok (.aload_n 0, 1) := by decide +kernel
theorem dX3_has_6 : decode cX3_has 6 = .ok (.getfield 14, 3) := by decide +kernel
theorem dX3_has_9 : decode cX3_has 9 = .ok (.if_icmp .ge 13, 3) := by decide +kernel
theorem dX3_has_12 : decode cX3_has 12 = .ok (.iload_n 1, 1) := by decide +kernel
theorem dX3_has_13 : decode cX3_has 13 = .ok (.bipush 10, 2) := by decide +kernel
theorem dX3_has_15 : decode cX3_has 15 = .ok (.if_icmp .ge 7, 3) := by decide +kernel
theorem dX3_has_18 : decode cX3_has 18 = .ok (.iconst 1, 1) := by decide +kernel
theorem dX3_has_19 : decode cX3_has 19 = .ok (.goto 4, 3) := by decide +kernel
theorem dX3_has_22 : decode cX3_has 22 = .ok (.iconst 0, 1) := by decide +kernel
theorem dX3_has_23 : decode cX3_has 23 = .ok (.ireturn, 1) := by decide +kernel
theorem dX3_entry_0 : decode cX3_entry 0 = .ok (.aload_n 0, 1) := by decide +kernel
theorem dX3_entry_1 : decode cX3_entry 1 = .ok (.iload_n 1, 1) := by decide +kernel
theorem dX3_entry_2 : decode cX3_entry 2 = .ok (.invokevirtual 24, 3) := by decide +kernel
theorem dX3_entry_5 : decode cX3_entry 5 = .ok (.ifCond .eq 12, 3) := by decide +kernel
theorem dX3_entry_8 : decode cX3_entry 8 = .ok (.iload_n 2, 1) := by decide +kernel
theorem dX3_entry_9 : decode cX3_entry 9 = .ok (.ifCond .lt 8, 3) := by decide +kernel
theorem dX3_entry_12 : decode cX3_entry 12 = .ok (.iload_n 2, 1) := by decide +kernel
theorem dX3_entry_13 : decode cX3_entry 13 = .ok (.iconst 4, 1) := by decide +kernel
theorem dX3_entry_14 : decode cX3_entry 14 = .ok (.if_icmp .lt 5, 3) := by decide +kernel
theorem dX3_entry_17 : decode cX3_entry 17 = .ok (.iconst 0, 1) := by decide +kernel
theorem dX3_entry_18 : decode cX3_entry 18 = .ok (.ireturn, 1) := by decide +kernel
theorem dX3_entry_19 : decode cX3_entry 19 = .ok (.aload_n 0, 1) := by decide +kernel
theorem dX3_entry_20 : decode cX3_entry 20 = .ok (.getfield 11, 3) := by decide +kernel
theorem dX3_entry_23 : decode cX3_entry 23 = .ok (.iload_n 2, 1) := by decide +kernel
theorem dX3_entry_24 : decode cX3_entry 24 = .ok (.aaload, 1) := by decide +kernel
theorem dX3_entry_25 : decode cX3_entry 25 = .ok (.iload_n 1, 1) := by decide +kernel
theorem dX3_entry_26 : decode cX3_entry 26 = .ok (.iaload, 1) := by decide +kernel
theorem dX3_entry_27 : decode cX3_entry 27 = .ok (.ireturn, 1) := by decide +kernel
theorem dX3_add_0 : decode cX3_add 0 = .ok (.iconst 0, 1) := by decide +kernel
theorem dX3_add_1 : decode cX3_add 1 = .ok (.istore_n 2, 1) := by decide +kernel
theorem dX3_add_2 : decode cX3_add 2 = .ok (.iload_n 2, 1) := by decide +kernel
theorem dX3_add_3 : decode cX3_add 3 = .ok (.iconst 4, 1) := by decide +kernel
theorem dX3_add_4 : decode cX3_add 4 = .ok (.if_icmp .ge 28, 3) := by decide +kernel
theorem dX3_add_7 : decode cX3_add 7 = .ok (.aload_n 0, 1) := by decide +kernel
theorem dX3_add_8 : decode cX3_add 8 = .ok (.getfield 11, 3) := by decide +kernel
theorem dX3_add_11 : decode cX3_add 11 = .ok (.iload_n 2, 1) := by decide +kernel
theorem dX3_add_12 : decode cX3_add 12 = .ok (.aaload, 1) := by decide +kernel
theorem dX3_add_13 : decode cX3_add 13 = .ok (.iconst 0, 1) := by decide +kernel
theorem dX3_add_14 : decode cX3_add 14 = .ok (.aload_n 0, 1) := by decide +kernel
theorem dX3_add_15 : decode cX3_add 15 = .ok (.getfield 11, 3) := by decide +kernel
theorem dX3_add_18 : decode cX3_add 18 = .ok (.iload_n 2, 1) := by decide +kernel
theorem dX3_add_19 : decode cX3_add 19 = .ok (.aaload, 1) := by decide +kernel
theorem dX3_add_20 : decode cX3_add 20 = .ok (.iconst 1, 1) := by decide +kernel
theorem dX3_add_21 : decode cX3_add 21 = .ok (.bipush 9, 2) := by decide +kernel
theorem dX3_add_23 : decode cX3_add 23 = .ok (.invokestatic 18, 3) := by decide +kernel
theorem dX3_add_26 : decode cX3_add 26 = .ok (.iinc 2 1, 3) := by decide +kernel
theorem dX3_add_29 : decode cX3_add 29 = .ok (.goto (-27), 3) := by decide +kernel
theorem dX3_add_32 : decode cX3_add 32 = .ok (.aload_n 0, 1) := by decide +kernel
theorem dX3_add_33 : decode cX3_add 33 = .ok (.getfield 11, 3) := by decide +kernel
theorem dX3_add_36 : decode cX3_add 36 = .ok (.iconst 0, 1) := by decide +kernel
theorem dX3_add_37 : decode cX3_add 37 = .ok (.aaload, 1) := by decide +kernel
theorem dX3_add_38 : decode cX3_add 38 = .ok (.iconst 0, 1) := by decide +kernel
theorem dX3_add_39 : decode cX3_add 39 = .ok (.aload_n 1, 1) := by decide +kernel
theorem dX3_add_40 : decode cX3_add 40 = .ok (.getfield 28, 3) := by decide +kernel
theorem dX3_add_43 : decode cX3_add 43 = .ok (.iastore, 1) := by decide +kernel
theorem dX3_add_44 : decode cX3_add 44 = .ok (.aload_n 0, 1) := by decide +kernel
theorem dX3_add_45 : decode cX3_add 45 = .ok (.getfield 11, 3) := by decide +kernel
theorem dX3_add_48 : decode cX3_add 48 = .ok (.iconst 1, 1) := by decide +kernel
theorem dX3_add_49 : decode cX3_add 49 = .ok (.aaload, 1) := by decide +kernel
theorem dX3_add_50 : decode cX3_add 50 = .ok (.iconst 0, 1) := by decide +kernel
theorem dX3_add_51 : decode cX3_add 51 = .ok (.aload_n 1, 1) := by decide +kernel
theorem dX3_add_52 : decode cX3_add 52 = .ok (.getfield 33, 3) := by decide +kernel
theorem dX3_add_55 : decode cX3_add 55 = .ok (.iastore, 1) := by decide +kernel
theorem dX3_add_56 : decode cX3_add 56 = .ok (.aload_n 0, 1) := by decide +kernel
theorem dX3_add_57 : decode cX3_add 57 = .ok (.getfield 11, 3) := by decide +kernel
theorem dX3_add_60 : decode cX3_add 60 = .ok (.iconst 2, 1) := by decide +kernel
theorem dX3_add_61 : decode cX3_add 61 = .ok (.aaload, 1) := by decide +kernel
theorem dX3_add_62 : decode cX3_add 62 = .ok (.iconst 0, 1) := by decide +kernel
theorem dX3_add_63 : decode cX3_add 63 = .ok (.aload_n 1, 1) := by decide +kernel
theorem dX3_add_64 : decode cX3_add 64 = .ok (.getfield 36, 3) := by decide +kernel
theorem dX3_add_67 : decode cX3_add 67 = .ok (.iastore, 1) := by decide +kernel
theorem dX3_add_68 : decode cX3_add 68 = .ok (.aload_n 0, 1) := by decide +kernel
theorem dX3_add_69 : decode cX3_add 69 = .ok (.getfield 11, 3) := by decide +kernel
theorem dX3_add_72 : decode cX3_add 72 = .ok (.iconst 3, 1) := by decide +kernel
theorem dX3_add_73 : decode cX3_add 73 = .ok (.aaload, 1) := by decide +kernel
theorem dX3_add_74 : decode cX3_add 74 = .ok (.iconst 0, 1) := by decide +kernel
theorem dX3_add_75 : decode cX3_add 75 = .ok (.aload_n 1, 1) := by decide +kernel
theorem dX3_add_76 : decode cX3_add 76 = .ok (.getfield 39, 3) := by decide +kernel
theorem dX3_add_79 : decode cX3_add 79 = .ok (.iastore, 1) := by decide +kernel
theorem dX3_add_80 : decode cX3_add 80 = .ok (.aload_n 0, 1) := by decide +kernel
theorem dX3_add_81 : decode cX3_add 81 = .ok (.bipush 10, 2) := by decide +kernel
theorem dX3_add_83 : decode cX3_add 83 = .ok (.aload_n 0, 1) := by decide +kernel
theorem dX3_add_84 : decode cX3_add 84 = .ok (.getfield 14, 3) := by decide +kernel
theorem dX3_add_87 : decode cX3_add 87 = .ok (.iconst 1, 1) := by decide +kernel
theorem dX3_add_88 : decode cX3_add 88 = .ok (.iadd, 1) := by decide +kernel
theorem dX3_add_89 : decode cX3_add 89 = .ok (.invokestatic 42, 3) := by decide +kernel
theorem dX3_add_92 : decode cX3_add 92 = .ok (.putfield 14, 3) := by decide +kernel
theorem dX3_add_95 : decode cX3_add 95 = .ok (.return_, 1) := by decide +kernel
theorem dX4_init_0 : decode cX4_init 0 = .ok (.aload_n 0, 1) := by decide +kernel
theorem dX4_init_1 : decode cX4_init 1 = .ok (.invokespecial 1, 3) := by decide +kernel
theorem dX4_init_4 : decode cX4_init 4 = .ok (.aload_n 0, 1) := by decide +kernel
theorem dX4_init_5 : decode cX4_init 5 = .ok (.getstatic 7, 3) := by decide +kernel
theorem dX4_init_8 : decode cX4_init 8 = .ok (.invokevirtual 13, 3) := by decide +kernel
theorem dX4_init_11 : decode cX4_init 11 = .ok (.checkcast 14, 3) := by decide +kernel
theorem dX4_init_14 : decode cX4_init 14 = .ok (.putfield 18, 3) := by decide +kernel
theorem dX4_init_17 : decode cX4_init 17 = .ok (.return_, 1) := by decide +kernel
theorem dX4_copyFrom_0 : decode cX4_copyFrom 0 = .ok (.aload_n 1, 1) := by decide +kernel
theorem dX4_copyFrom_1 : decode cX4_copyFrom 1 = .ok (.getfield 18, 3) := by decide +kernel
theorem dX4_copyFrom_4 : decode cX4_copyFrom 4 = .ok (.iconst 0, 1) := by decide +kernel
theorem dX4_copyFrom_5 : decode cX4_copyFrom 5 = .ok (.aload_n 0, 1) := by decide +kernel
theorem dX4_copyFrom_6 : decode cX4_copyFrom 6 = .ok (.getfield 18, 3) := by decide +kernel
theorem dX4_copyFrom_9 : decode cX4_copyFrom 9 = .ok (.iconst 0, 1) := by decide +kernel
theorem dX4_copyFrom_10 : decode cX4_copyFrom 10 = .ok (.iconst 4, 1) := by decide +kernel
theorem dX4_copyFrom_11 : decode cX4_copyFrom 11 = .ok (.invokestatic 21, 3) := by decide +kernel
theorem dX4_copyFrom_14 : decode cX4_copyFrom 14 = .ok (.return_, 1) := by decide +kernel
theorem dX4_allows_0 : decode cX4_allows 0 = .ok (.iload_n 1, 1) := by decide +kernel
theorem dX4_allows_1 : decode cX4_allows 1 = .ok (.ifCond .lt 30, 3) := by decide +kernel
theorem dX4_allows_4 : decode cX4_allows 4 = .ok (.iload_n 1, 1) := by decide +kernel
theorem dX4_allows_5 : decode cX4_allows 5 = .ok (.iconst 4, 1) := by decide +kernel
theorem dX4_allows_6 : decode cX4_allows 6 = .ok (.if_icmp .ge 25, 3) := by decide +kernel
theorem dX4_allows_9 : decode cX4_allows 9 = .ok (.iload_n 2, 1) := by decide +kernel
theorem dX4_allows_10 : decode cX4_allows 10 = .ok (.getstatic 27, 3) := by decide +kernel
theorem dX4_allows_13 : decode cX4_allows 13 = .ok (.iload_n 1, 1) := by decide +kernel
theorem dX4_allows_14 : decode cX4_allows 14 = .ok (.iaload, 1) := by decide +kernel
theorem dX4_allows_15 : decode cX4_allows 15 = .ok (.if_icmp .lt 16, 3) := by decide +kernel
theorem dX4_allows_18 : decode cX4_allows 18 = .ok (.iload_n 2, 1) := by decide +kernel
theorem dX4_allows_19 : decode cX4_allows 19 = .ok (.getstatic 30, 3) := by decide +kernel
theorem dX4_allows_22 : decode cX4_allows 22 = .ok (.iload_n 1, 1) := by decide +kernel
theorem dX4_allows_23 : decode cX4_allows 23 = .ok (.iaload, 1) := by decide +kernel
theorem dX4_allows_24 : decode cX4_allows 24 = .ok (.if_icmp .gt 7, 3) := by decide +kernel
theorem dX4_allows_27 : decode cX4_allows 27 = .ok (.iconst 1, 1) := by decide +kernel
theorem dX4_allows_28 : decode cX4_allows 28 = .ok (.goto 4, 3) := by decide +kernel
theorem dX4_allows_31 : decode cX4_allows 31 = .ok (.iconst 0, 1) := by decide +kernel
theorem dX4_allows_32 : decode cX4_allows 32 = .ok (.ireturn, 1) := by decide +kernel
theorem dX4_value_0 : decode cX4_value 0 = .ok (.iload_n 1, 1) := by decide +kernel
theorem dX4_value_1 : decode cX4_value 1 = .ok (.ifCond .lt 17, 3) := by decide +kernel
theorem dX4_value_4 : decode cX4_value 4 = .ok (.iload_n 1, 1) := by decide +kernel
theorem dX4_value_5 : decode cX4_value 5 = .ok (.iconst 4, 1) := by decide +kernel
theorem dX4_value_6 : decode cX4_value 6 = .ok (.if_icmp .ge 12, 3) := by decide +kernel
theorem dX4_value_9 : decode cX4_value 9 = .ok (.aload_n 0, 1) := by decide +kernel
theorem dX4_value_10 : decode cX4_value 10 = .ok (.getfield 18, 3) := by decide +kernel
theorem dX4_value_13 : decode cX4_value 13 = .ok (.iload_n 1, 1) := by decide +kernel
theorem dX4_value_14 : decode cX4_value 14 = .ok (.iaload, 1) := by decide +kernel
theorem dX4_value_15 : decode cX4_value 15 = .ok (.goto 4, 3) := by decide +kernel
theorem dX4_value_18 : decode cX4_value 18 = .ok (.iconst 0, 1) := by decide +kernel
theorem dX4_value_19 : decode cX4_value 19 = .ok (.ireturn, 1) := by decide +kernel
theorem dX4_change_0 : decode cX4_change 0 = .ok (.aload_n 0, 1) := by decide +kernel
theorem dX4_change_1 : decode cX4_change 1 = .ok (.iload_n 1, 1) := by decide +kernel
theorem dX4_change_2 : decode cX4_change 2 = .ok (.invokevirtual 33, 3) := by decide +kernel
theorem dX4_change_5 : decode cX4_change 5 = .ok (.istore_n 3, 1) := by decide +kernel
theorem dX4_change_6 : decode cX4_change 6 = .ok (.aload_n 0, 1) := by decide +kernel
theorem dX4_change_7 : decode cX4_change 7 = .ok (.iload_n 1, 1) := by decide +kernel
theorem dX4_change_8 : decode cX4_change 8 = .ok (.iload_n 2, 1) := by decide +kernel
theorem dX4_change_9 : decode cX4_change 9 = .ok (.invokevirtual 37, 3) := by decide +kernel
theorem dX4_change_12 : decode cX4_change 12 = .ok (.ifCond .eq 10, 3) := by decide +kernel
theorem dX4_change_15 : decode cX4_change 15 = .ok (.aload_n 0, 1) := by decide +kernel
theorem dX4_change_16 : decode cX4_change 16 = .ok (.getfield 18, 3) := by decide +kernel
theorem dX4_change_19 : decode cX4_change 19 = .ok (.iload_n 1, 1) := by decide +kernel
theorem dX4_change_20 : decode cX4_change 20 = .ok (.iload_n 2, 1) := by decide +kernel
theorem dX4_change_21 : decode cX4_change 21 = .ok (.iastore, 1) := by decide +kernel
theorem dX4_change_22 : decode cX4_change 22 = .ok (.iload_n 3, 1) := by decide +kernel
theorem dX4_change_23 : decode cX4_change 23 = .ok (.ireturn, 1) := by decide +kernel
theorem dX5_init_0 : decode cX5_init 0 = .ok (.aload_n 0, 1) := by decide +kernel
theorem dX5_init_1 : decode cX5_init 1 = .ok (.invokespecial 1, 3) := by decide +kernel
theorem dX5_init_4 : decode cX5_init 4 = .ok (.aload_n 0, 1) := by decide +kernel
theorem dX5_init_5 : decode cX5_init 5 = .ok (.iconst 5, 1) := by decide +kernel
theorem dX5_init_6 : decode cX5_init 6 = .ok (.bipush 20, 2) := by decide +kernel
theorem dX5_init_8 : decode cX5_init 8 = .ok (.multianewarray 9 2, 4) := by decide +kernel
theorem dX5_init_12 : decode cX5_init 12 = .ok (.putfield 11, 3) := by decide +kernel
theorem dX5_init_15 : decode cX5_init 15 = .ok (.aload_n 0, 1) := by decide +kernel
theorem dX5_init_16 : decode cX5_init 16 = .ok (.iconst 0, 1) := by decide +kernel
theorem dX5_init_17 : decode cX5_init 17 = .ok (.putfield 14, 3) := by decide +kernel
theorem dX5_init_20 : decode cX5_init 20 = .ok (.return_, 1) := by decide +kernel
theorem dX5_copyFrom_0 : decode cX5_copyFrom 0 = .ok (.iconst 0, 1) := by decide +kernel
theorem dX5_copyFrom_1 : decode cX5_copyFrom 1 = .ok (.istore_n 2, 1) := by decide +kernel
theorem dX5_copyFrom_2 : decode cX5_copyFrom 2 = .ok (.iload_n 2, 1) := by decide +kernel
theorem dX5_copyFrom_3 : decode cX5_copyFrom 3 = .ok (.iconst 5, 1) := by decide +kernel
theorem dX5_copyFrom_4 : decode cX5_copyFrom 4 = .ok (.if_icmp .ge 28, 3) := by decide +kernel
theorem dX5_copyFrom_7 : decode cX5_copyFrom 7 = .ok (.aload_n 1, 1) := by decide +kernel
theorem dX5_copyFrom_8 : decode cX5_copyFrom 8 = .ok (.getfield 11, 3) := by decide +kernel
theorem dX5_copyFrom_11 : decode cX5_copyFrom 11 = .ok (.iload_n 2, 1) := by decide +kernel
theorem dX5_copyFrom_12 : decode cX5_copyFrom 12 = .ok (.aaload, 1) := by decide +kernel
theorem dX5_copyFrom_13 : decode cX5_copyFrom 13 = .ok (.iconst 0, 1) := by decide +kernel
theorem dX5_copyFrom_14 : decode cX5_copyFrom 14 = .ok (.aload_n 0, 1) := by decide +kernel
theorem dX5_copyFrom_15 : decode cX5_copyFrom 15 = .ok (.getfield 11, 3) := by decide +kernel
theorem dX5_copyFrom_18 : decode cX5_copyFrom 18 = .ok (.iload_n 2, 1) := by decide +kernel
theorem dX5_copyFrom_19 : decode cX5_copyFrom 19 = .ok (.aaload, 1) := by decide +kernel
theorem dX5_copyFrom_20 : decode cX5_copyFrom 20 = .ok (.iconst 0, 1) := by decide +kernel
theorem dX5_copyFrom_21 : decode cX5_copyFrom 21 = .ok (.bipush 20, 2) := by decide +kernel
theorem dX5_copyFrom_23 : decode cX5_copyFrom 23 = .ok (.invokestatic 18, 3) := by decide +kernel
theorem dX5_copyFrom_26 : decode cX5_copyFrom 26 = .ok (.iinc 2 1, 3) := by decide +kernel
theorem dX5_copyFrom_29 : decode cX5_copyFrom 29 = .ok (.goto (-27), 3) := by decide +kernel
theorem dX5_copyFrom_32 : decode cX5_copyFrom 32 = .ok (.aload_n 0, 1) := by decide +kernel
theorem dX5_copyFrom_33 : decode cX5_copyFrom 33 = .ok (.aload_n 1, 1) := by decide +kernel
theorem dX5_copyFrom_34 : decode cX5_copyFrom 34 = .ok (.getfield 14, 3) := by decide +kernel
theorem dX5_copyFrom_37 : decode cX5_copyFrom 37 = .ok (.putfield 14, 3) := by decide +kernel
theorem dX5_copyFrom_40 : decode cX5_copyFrom 40 = .ok (.return_, 1) := by decide +kernel
theorem dX5_has_0 : decode cX5_has 0 = .ok (.iload_n 1, 1) := by decide +kernel
theorem dX5_has_1 : decode cX5_has 1 = .ok (.ifCond .lt 21, 3) := by decide +kernel
theorem dX5_has_4 : decode cX5_has 4 = .ok (.iload_n 1, 1) := by decide +kernel
theorem dX5_has_5 : decode cX5_has 5 = .ok (.aload_n 0, 1) := by decide +kernel
theorem dX5_has_6 : decode cX5_has 6 = .ok (.getfield 14, 3) := by decide +kernel
theorem dX5_has_9 : decode cX5_has 9 = .ok (.if_icmp .ge 13, 3) := by decide +kernel
theorem dX5_has_12 : decode cX5_has 12 = .ok (.iload_n 1, 1) := by decide +kernel
theorem dX5_has_13 : decode cX5_has 13 = .ok (.bipush 20, 2) := by decide +kernel
theorem dX5_has_15 : decode cX5_has 15 = .ok (.if_icmp .ge 7, 3) := by decide +kernel
theorem dX5_has_18 : decode cX5_has 18 = .ok (.iconst 1, 1) := by decide +kernel
theorem dX5_has_19 : decode cX5_has 19 = .ok (.goto 4, 3) := by decide +kernel
theorem dX5_has_22 : decode cX5_has 22 = .ok (.iconst 0, 1) := by decide +kernel
theorem dX5_has_23 : decode cX5_has 23 = .ok (.ireturn, 1) := by decide +kernel
theorem dX5_allows_0 : decode cX5_allows 0 = .ok (.iload_n 0, 1) := by decide +kernel
theorem dX5_allows_1 : decode cX5_allows 1 = .ok (.ifCond .lt 13, 3) := by decide +kernel
theorem dX5_allows_4 : decode cX5_allows 4 = .ok (.iload_n 0, 1) := by decide +kernel
theorem dX5_allows_5 : decode cX5_allows 5 = .ok (.iconst 2, 1) := by decide +kernel
theorem dX5_allows_6 : decode cX5_allows 6 = .ok (.if_icmp .gt 8, 3) := by decide +kernel
theorem dX5_allows_9 : decode cX5_allows 9 = .ok (.iload_n 1, 1) := by decide +kernel
theorem dX5_allows_10 : decode cX5_allows 10 = .ok (.iconst 1, 1) := by decide +kernel
theorem dX5_allows_11 : decode cX5_allows 11 = .ok (.if_icmp .ge 5, 3) := by decide +kernel
theorem dX5_allows_14 : decode cX5_allows 14 = .ok (.iconst 0, 1) := by decide +kernel
theorem dX5_allows_15 : decode cX5_allows 15 = .ok (.ireturn, 1) := by decide +kernel
theorem dX5_allows_16 : decode cX5_allows 16 = .ok (.iload_n 1, 1) := by decide +kernel
theorem dX5_allows_17 : decode cX5_allows 17 = .ok (.iload_n 0, 1) := by decide +kernel
theorem dX5_allows_18 : decode cX5_allows 18 = .ok (.iconst 2, 1) := by decide +kernel
theorem dX5_allows_19 : decode cX5_allows 19 = .ok (.if_icmp .ne 8, 3) := by decide +kernel
theorem dX5_allows_22 : decode cX5_allows 22 = .ok (.bipush 99, 2) := by decide +kernel
theorem dX5_allows_24 : decode cX5_allows 24 = .ok (.goto 5, 3) := by decide +kernel
theorem dX5_allows_27 : decode cX5_allows 27 = .ok (.bipush 9, 2) := by decide +kernel
theorem dX5_allows_29 : decode cX5_allows 29 = .ok (.if_icmp .gt 7, 3) := by decide +kernel
theorem dX5_allows_32 : decode cX5_allows 32 = .ok (.iconst 1, 1) := by decide +kernel
theorem dX5_allows_33 : decode cX5_allows 33 = .ok (.goto 4, 3) := by decide +kernel
theorem dX5_allows_36 : decode cX5_allows 36 = .ok (.iconst 0, 1) := by decide +kernel
theorem dX5_allows_37 : decode cX5_allows 37 = .ok (.ireturn, 1) := by decide +kernel
theorem dX5_entry_0 : decode cX5_entry 0 = .ok (.aload_n 0, 1) := by decide +kernel
theorem dX5_entry_1 : decode cX5_entry 1 = .ok (.iload_n 1, 1) := by decide +kernel
theorem dX5_entry_2 : decode cX5_entry 2 = .ok (.invokevirtual 24, 3) := by decide +kernel
theorem dX5_entry_5 : decode cX5_entry 5 = .ok (.ifCond .eq 12, 3) := by decide +kernel
theorem dX5_entry_8 : decode cX5_entry 8 = .ok (.iload_n 2, 1) := by decide +kernel
theorem dX5_entry_9 : decode cX5_entry 9 = .ok (.ifCond .lt 8, 3) := by decide +kernel
theorem dX5_entry_12 : decode cX5_entry 12 = .ok (.iload_n 2, 1) := by decide +kernel
theorem dX5_entry_13 : decode cX5_entry 13 = .ok (.iconst 5, 1) := by decide +kernel
theorem dX5_entry_14 : decode cX5_entry 14 = .ok (.if_icmp .lt 5, 3) := by decide +kernel
theorem dX5_entry_17 : decode cX5_entry 17 = .ok (.iconst 0, 1) := by decide +kernel
theorem dX5_entry_18 : decode cX5_entry 18 = .ok (.ireturn, 1) := by decide +kernel
theorem dX5_entry_19 : decode cX5_entry 19 = .ok (.aload_n 0, 1) := by decide +kernel
theorem dX5_entry_20 : decode cX5_entry 20 = .ok (.getfield 11, 3) := by decide +kernel
theorem dX5_entry_23 : decode cX5_entry 23 = .ok (.iload_n 2, 1) := by decide +kernel
theorem dX5_entry_24 : decode cX5_entry 24 = .ok (.aaload, 1) := by decide +kernel
theorem dX5_entry_25 : decode cX5_entry 25 = .ok (.iload_n 1, 1) := by decide +kernel
theorem dX5_entry_26 : decode cX5_entry 26 = .ok (.iaload, 1) := by decide +kernel
theorem dX5_entry_27 : decode cX5_entry 27 = .ok (.ireturn, 1) := by decide +kernel
theorem dX5_insert_0 : decode cX5_insert 0 = .ok (.iload_n 1, 1) := by decide +kernel
theorem dX5_insert_1 : decode cX5_insert 1 = .ok (.ifCond .lt 20, 3) := by decide +kernel
theorem dX5_insert_4 : decode cX5_insert 4 = .ok (.iload_n 1, 1) := by decide +kernel
theorem dX5_insert_5 : decode cX5_insert 5 = .ok (.aload_n 0, 1) := by decide +kernel
theorem dX5_insert_6 : decode cX5_insert 6 = .ok (.getfield 14, 3) := by decide +kernel
theorem dX5_insert_9 : decode cX5_insert 9 = .ok (.if_icmp .gt 12, 3) := by decide +kernel
theorem dX5_insert_12 : decode cX5_insert 12 = .ok (.aload_n 0, 1) := by decide +kernel
theorem dX5_insert_13 : decode cX5_insert 13 = .ok (.getfield 14, 3) := by decide +kernel
theorem dX5_insert_16 : decode cX5_insert 16 = .ok (.bipush 20, 2) := by decide +kernel
theorem dX5_insert_18 : decode cX5_insert 18 = .ok (.if_icmp .lt 4, 3) := by decide +kernel
theorem dX5_insert_21 : decode cX5_insert 21 = .ok (.return_, 1) := by decide +kernel
theorem dX5_insert_22 : decode cX5_insert 22 = .ok (.iconst 0, 1) := by decide +kernel
theorem dX5_insert_23 : decode cX5_insert 23 = .ok (.istore 4, 2) := by decide +kernel
theorem dX5_insert_25 : decode cX5_insert 25 = .ok (.iload 4, 2) := by decide +kernel
theorem dX5_insert_27 : decode cX5_insert 27 = .ok (.iconst 5, 1) := by decide +kernel
theorem dX5_insert_28 : decode cX5_insert 28 = .ok (.if_icmp .ge 46, 3) := by decide +kernel
theorem dX5_insert_31 : decode cX5_insert 31 = .ok (.aload_n 0, 1) := by decide +kernel
theorem dX5_insert_32 : decode cX5_insert 32 = .ok (.getfield 11, 3) := by decide +kernel
theorem dX5_insert_35 : decode cX5_insert 35 = .ok (.iload 4, 2) := by decide +kernel
theorem dX5_insert_37 : decode cX5_insert 37 = .ok (.aaload, 1) := by decide +kernel
theorem dX5_insert_38 : decode cX5_insert 38 = .ok (.iload_n 1, 1) := by decide +kernel
theorem dX5_insert_39 : decode cX5_insert 39 = .ok (.aload_n 0, 1) := by decide +kernel
theorem dX5_insert_40 : decode cX5_insert 40 = .ok (.getfield 11, 3) := by decide +kernel
theorem dX5_insert_43 : decode cX5_insert 43 = .ok (.iload 4, 2) := by decide +kernel
theorem dX5_insert_45 : decode cX5_insert 45 = .ok (.aaload, 1) := by decide +kernel
theorem dX5_insert_46 : decode cX5_insert 46 = .ok (.iload_n 1, 1) := by decide +kernel
theorem dX5_insert_47 : decode cX5_insert 47 = .ok (.iconst 1, 1) := by decide +kernel
theorem dX5_insert_48 : decode cX5_insert 48 = .ok (.iadd, 1) := by decide +kernel
theorem dX5_insert_49 : decode cX5_insert 49 = .ok (.aload_n 0, 1) := by decide +kernel
theorem dX5_insert_50 : decode cX5_insert 50 = .ok (.getfield 14, 3) := by decide +kernel
theorem dX5_insert_53 : decode cX5_insert 53 = .ok (.iload_n 1, 1) := by decide +kernel
theorem dX5_insert_54 : decode cX5_insert 54 = .ok (.isub, 1) := by decide +kernel
theorem dX5_insert_55 : decode cX5_insert 55 = .ok (.invokestatic 18, 3) := by decide +kernel
theorem dX5_insert_58 : decode cX5_insert 58 = .ok (.aload_n 0, 1) := by decide +kernel
theorem dX5_insert_59 : decode cX5_insert 59 = .ok (.getfield 11, 3) := by decide +kernel
theorem dX5_insert_62 : decode cX5_insert 62 = .ok (.iload 4, 2) := by decide +kernel
theorem dX5_insert_64 : decode cX5_insert 64 = .ok (.aaload, 1) := by decide +kernel
theorem dX5_insert_65 : decode cX5_insert 65 = .ok (.iload_n 1, 1) := by decide +kernel
theorem dX5_insert_66 : decode cX5_insert 66 = .ok (.iconst 0, 1) := by decide +kernel
theorem dX5_insert_67 : decode cX5_insert 67 = .ok (.iastore, 1) := by decide +kernel
theorem dX5_insert_68 : decode cX5_insert 68 = .ok (.iinc 4 1, 3) := by decide +kernel
theorem dX5_insert_71 : decode cX5_insert 71 = .ok (.goto (-46), 3) := by decide +kernel
theorem dX5_insert_74 : decode cX5_insert 74 = .ok (.aload_n 0, 1) := by decide +kernel
theorem dX5_insert_75 : decode cX5_insert 75 = .ok (.getfield 11, 3) := by decide +kernel
theorem dX5_insert_78 : decode cX5_insert 78 = .ok (.iconst 0, 1) := by decide +kernel
theorem dX5_insert_79 : decode cX5_insert 79 = .ok (.aaload, 1) := by decide +kernel
theorem dX5_insert_80 : decode cX5_insert 80 = .ok (.iload_n 1, 1) := by decide +kernel
theorem dX5_insert_81 : decode cX5_insert 81 = .ok (.iload_n 2, 1) := by decide +kernel
theorem dX5_insert_82 : decode cX5_insert 82 = .ok (.iastore, 1) := by decide +kernel
theorem dX5_insert_83 : decode cX5_insert 83 = .ok (.aload_n 0, 1) := by decide +kernel
theorem dX5_insert_84 : decode cX5_insert 84 = .ok (.getfield 11, 3) := by decide +kernel
theorem dX5_insert_87 : decode cX5_insert 87 = .ok (.iconst 1, 1) := by decide +kernel
theorem dX5_insert_88 : decode cX5_insert 88 = .ok (.aaload, 1) := by decide +kernel
theorem dX5_insert_89 : decode cX5_insert 89 = .ok (.iload_n 1, 1) := by decide +kernel
theorem dX5_insert_90 : decode cX5_insert 90 = .ok (.iload_n 3, 1) := by decide +kernel
theorem dX5_insert_91 : decode cX5_insert 91 = .ok (.iastore, 1) := by decide +kernel
theorem dX5_insert_92 : decode cX5_insert 92 = .ok (.aload_n 0, 1) := by decide +kernel
theorem dX5_insert_93 : decode cX5_insert 93 = .ok (.dup, 1) := by decide +kernel
theorem dX5_insert_94 : decode cX5_insert 94 = .ok (.getfield 14, 3) := by decide +kernel
theorem dX5_insert_97 : decode cX5_insert 97 = .ok (.iconst 1, 1) := by decide +kernel
theorem dX5_insert_98 : decode cX5_insert 98 = .ok (.iadd, 1) := by decide +kernel
theorem dX5_insert_99 : decode cX5_insert 99 = .ok (.putfield 14, 3) := by decide +kernel
theorem dX5_insert_102 : decode cX5_insert 102 = .ok (.return_, 1) := by decide +kernel
theorem dX5_remove_0 : decode cX5_remove 0 = .ok (.aload_n 0, 1) := by decide +kernel
theorem dX5_remove_1 : decode cX5_remove 1 = .ok (.iload_n 1, 1) := by decide +kernel
theorem dX5_remove_2 : decode cX5_remove 2 = .ok (.invokevirtual 24, 3) := by decide +kernel
theorem dX5_remove_5 : decode cX5_remove 5 = .ok (.ifCond .ne 4, 3) := by decide +kernel
theorem dX5_remove_8 : decode cX5_remove 8 = .ok (.return_, 1) := by decide +kernel
theorem dX5_remove_9 : decode cX5_remove 9 = .ok (.iconst 0, 1) := by decide +kernel
theorem dX5_remove_10 : decode cX5_remove 10 = .ok (.istore_n 2, 1) := by decide +kernel
theorem dX5_remove_11 : decode cX5_remove 11 = .ok (.iload_n 2, 1) := by decide +kernel
theorem dX5_remove_12 : decode cX5_remove 12 = .ok (.iconst 5, 1) := by decide +kernel
theorem dX5_remove_13 : decode cX5_remove 13 = .ok (.if_icmp .ge 36, 3) := by decide +kernel
theorem dX5_remove_16 : decode cX5_remove 16 = .ok (.aload_n 0, 1) := by decide +kernel
theorem dX5_remove_17 : decode cX5_remove 17 = .ok (.getfield 11, 3) := by decide +kernel
theorem dX5_remove_20 : decode cX5_remove 20 = .ok (.iload_n 2, 1) := by decide +kernel
theorem dX5_remove_21 : decode cX5_remove 21 = .ok (.aaload, 1) := by decide +kernel
theorem dX5_remove_22 : decode cX5_remove 22 = .ok (.iload_n 1, 1) := by decide +kernel
theorem dX5_remove_23 : decode cX5_remove 23 = .ok (.iconst 1, 1) := by decide +kernel
theorem dX5_remove_24 : decode cX5_remove 24 = .ok (.iadd, 1) := by decide +kernel
theorem dX5_remove_25 : decode cX5_remove 25 = .ok (.aload_n 0, 1) := by decide +kernel
theorem dX5_remove_26 : decode cX5_remove 26 = .ok (.getfield 11, 3) := by decide +kernel
theorem dX5_remove_29 : decode cX5_remove 29 = .ok (.iload_n 2, 1) := by decide +kernel
theorem dX5_remove_30 : decode cX5_remove 30 = .ok (.aaload, 1) := by decide +kernel
theorem dX5_remove_31 : decode cX5_remove 31 = .ok (.iload_n 1, 1) := by decide +kernel
theorem dX5_remove_32 : decode cX5_remove 32 = .ok (.aload_n 0, 1) := by decide +kernel
theorem dX5_remove_33 : decode cX5_remove 33 = .ok (.getfield 14, 3) := by decide +kernel
theorem dX5_remove_36 : decode cX5_remove 36 = .ok (.iload_n 1, 1) := by decide +kernel
theorem dX5_remove_37 : decode cX5_remove 37 = .ok (.isub, 1) := by decide +kernel
theorem dX5_remove_38 : decode cX5_remove 38 = .ok (.iconst 1, 1) := by decide +kernel
theorem dX5_remove_39 : decode cX5_remove 39 = .ok (.isub, 1) := by decide +kernel
theorem dX5_remove_40 : decode cX5_remove 40 = .ok (.invokestatic 18, 3) := by decide +kernel
theorem dX5_remove_43 : decode cX5_remove 43 = .ok (.iinc 2 1, 3) := by decide +kernel
theorem dX5_remove_46 : decode cX5_remove 46 = .ok (.goto (-35), 3) := by decide +kernel
theorem dX5_remove_49 : decode cX5_remove 49 = .ok (.aload_n 0, 1) := by decide +kernel
theorem dX5_remove_50 : decode cX5_remove 50 = .ok (.dup, 1) := by decide +kernel
theorem dX5_remove_51 : decode cX5_remove 51 = .ok (.getfield 14, 3) := by decide +kernel
theorem dX5_remove_54 : decode cX5_remove 54 = .ok (.iconst 1, 1) := by decide +kernel
theorem dX5_remove_55 : decode cX5_remove 55 = .ok (.isub, 1) := by decide +kernel
theorem dX5_remove_56 : decode cX5_remove 56 = .ok (.putfield 14, 3) := by decide +kernel
theorem dX5_remove_59 : decode cX5_remove 59 = .ok (.return_, 1) := by decide +kernel
theorem dX5_noteEnd_0 : decode cX5_noteEnd 0 = .ok (.aload_n 0, 1) := by decide +kernel
theorem dX5_noteEnd_1 : decode cX5_noteEnd 1 = .ok (.iload_n 1, 1) := by decide +kernel
theorem dX5_noteEnd_2 : decode cX5_noteEnd 2 = .ok (.invokevirtual 24, 3) := by decide +kernel
theorem dX5_noteEnd_5 : decode cX5_noteEnd 5 = .ok (.ifCond .eq 29, 3) := by decide +kernel
theorem dX5_noteEnd_8 : decode cX5_noteEnd 8 = .ok (.iload_n 2, 1) := by decide +kernel
theorem dX5_noteEnd_9 : decode cX5_noteEnd 9 = .ok (.iconst 1, 1) := by decide +kernel
theorem dX5_noteEnd_10 : decode cX5_noteEnd 10 = .ok (.if_icmp .lt 24, 3) := by decide +kernel
theorem dX5_noteEnd_13 : decode cX5_noteEnd 13 = .ok (.iload_n 2, 1) := by decide +kernel
theorem dX5_noteEnd_14 : decode cX5_noteEnd 14 = .ok (.iconst 3, 1) := by decide +kernel
theorem dX5_noteEnd_15 : decode cX5_noteEnd 15 = .ok (.if_icmp .gt 19, 3) := by decide +kernel
theorem dX5_noteEnd_18 : decode cX5_noteEnd 18 = .ok (.aload_n 0, 1) := by decide +kernel
theorem dX5_noteEnd_19 : decode cX5_noteEnd 19 = .ok (.getfield 11, 3) := by decide +kernel
theorem dX5_noteEnd_22 : decode cX5_noteEnd 22 = .ok (.iconst 2, 1) := by decide +kernel
theorem dX5_noteEnd_23 : decode cX5_noteEnd 23 = .ok (.iload_n 2, 1) := by decide +kernel
theorem dX5_noteEnd_24 : decode cX5_noteEnd 24 = .ok (.iadd, 1) := by decide +kernel
theorem dX5_noteEnd_25 : decode cX5_noteEnd 25 = .ok (.iconst 1, 1) := by decide +kernel
theorem dX5_noteEnd_26 : decode cX5_noteEnd 26 = .ok (.isub, 1) := by decide +kernel
theorem dX5_noteEnd_27 : decode cX5_noteEnd 27 = .ok (.aaload, 1) := by decide +kernel
theorem dX5_noteEnd_28 : decode cX5_noteEnd 28 = .ok (.iload_n 1, 1) := by decide +kernel
theorem dX5_noteEnd_29 : decode cX5_noteEnd 29 = .ok (.dup2, 1) := by decide +kernel
theorem dX5_noteEnd_30 : decode cX5_noteEnd 30 = .ok (.iaload, 1) := by decide +kernel
theorem dX5_noteEnd_31 : decode cX5_noteEnd 31 = .ok (.iconst 1, 1) := by decide +kernel
theorem dX5_noteEnd_32 : decode cX5_noteEnd 32 = .ok (.iadd, 1) := by decide +kernel
theorem dX5_noteEnd_33 : decode cX5_noteEnd 33 = .ok (.iastore, 1) := by decide +kernel
theorem dX5_noteEnd_34 : decode cX5_noteEnd 34 = .ok (.return_, 1) := by decide +kernel
theorem dX5_sumOf_0 : decode cX5_sumOf 0 = .ok (.iconst 0, 1) := by decide +kernel
theorem dX5_sumOf_1 : decode cX5_sumOf 1 = .ok (.istore_n 2, 1) := by decide +kernel
theorem dX5_sumOf_2 : decode cX5_sumOf 2 = .ok (.iconst 0, 1) := by decide +kernel
theorem dX5_sumOf_3 : decode cX5_sumOf 3 = .ok (.istore_n 3, 1) := by decide +kernel
theorem dX5_sumOf_4 : decode cX5_sumOf 4 = .ok (.iload_n 3, 1) := by decide +kernel
theorem dX5_sumOf_5 : decode cX5_sumOf 5 = .ok (.aload_n 0, 1) := by decide +kernel
theorem dX5_sumOf_6 : decode cX5_sumOf 6 = .ok (.getfield 14, 3) := by decide +kernel
theorem dX5_sumOf_9 : decode cX5_sumOf 9 = .ok (.if_icmp .ge 28, 3) := by decide +kernel
theorem dX5_sumOf_12 : decode cX5_sumOf 12 = .ok (.aload_n 0, 1) := by decide +kernel
theorem dX5_sumOf_13 : decode cX5_sumOf 13 = .ok (.iload_n 3, 1) := by decide +kernel
theorem dX5_sumOf_14 : decode cX5_sumOf 14 = .ok (.iconst 0, 1) := by decide +kernel
theorem dX5_sumOf_15 : decode cX5_sumOf 15 = .ok (.invokevirtual 30, 3) := by decide +kernel
theorem dX5_sumOf_18 : decode cX5_sumOf 18 = .ok (.iload_n 1, 1) := by decide +kernel
theorem dX5_sumOf_19 : decode cX5_sumOf 19 = .ok (.if_icmp .ne 12, 3) := by decide +kernel
theorem dX5_sumOf_22 : decode cX5_sumOf 22 = .ok (.iload_n 2, 1) := by decide +kernel
theorem dX5_sumOf_23 : decode cX5_sumOf 23 = .ok (.aload_n 0, 1) := by decide +kernel
theorem dX5_sumOf_24 : decode cX5_sumOf 24 = .ok (.iload_n 3, 1) := by decide +kernel
theorem dX5_sumOf_25 : decode cX5_sumOf 25 = .ok (.iconst 1, 1) := by decide +kernel
theorem dX5_sumOf_26 : decode cX5_sumOf 26 = .ok (.invokevirtual 30, 3) := by decide +kernel
theorem dX5_sumOf_29 : decode cX5_sumOf 29 = .ok (.iadd, 1) := by decide +kernel
theorem dX5_sumOf_30 : decode cX5_sumOf 30 = .ok (.istore_n 2, 1) := by decide +kernel
theorem dX5_sumOf_31 : decode cX5_sumOf 31 = .ok (.iinc 3 1, 3) := by decide +kernel
theorem dX5_sumOf_34 : decode cX5_sumOf 34 = .ok (.goto (-30), 3) := by decide +kernel
theorem dX5_sumOf_37 : decode cX5_sumOf 37 = .ok (.iload_n 2, 1) := by decide +kernel
theorem dX5_sumOf_38 : decode cX5_sumOf 38 = .ok (.ireturn, 1) := by decide +kernel
theorem dX5_narrowestGate_0 : decode cX5_narrowestGate 0 = .ok (.iconst 0, 1) := by decide +kernel
theorem dX5_narrowestGate_1 : decode cX5_narrowestGate 1 = .ok (.istore_n 1, 1) := by decide +kernel
theorem dX5_narrowestGate_2 : decode cX5_narrowestGate 2 = .ok (.iconst 0, 1) := by decide +kernel
theorem dX5_narrowestGate_3 : decode cX5_narrowestGate 3 = .ok (.istore_n 2, 1) := by decide +kernel
theorem dX5_narrowestGate_4 : decode cX5_narrowestGate 4 = .ok (.iload_n 2, 1) := by decide +kernel
theorem dX5_narrowestGate_5 : decode cX5_narrowestGate 5 = .ok (.aload_n 0, 1) := by decide +kernel
theorem dX5_narrowestGate_6 : decode cX5_narrowestGate 6 = .ok (.getfield 14, 3) := by decide +kernel
theorem dX5_narrowestGate_9 : decode cX5_narrowestGate 9 = .ok (.if_icmp .ge 37, 3) := by decide +kernel
theorem dX5_narrowestGate_12 : decode cX5_narrowestGate 12 = .ok (.aload_n 0, 1) := by decide +kernel
theorem dX5_narrowestGate_13 : decode cX5_narrowestGate 13 = .ok (.iload_n 2, 1) := by decide +kernel
theorem dX5_narrowestGate_14 : decode cX5_narrowestGate 14 = .ok (.iconst 1, 1) := by decide +kernel
theorem dX5_narrowestGate_15 : decode cX5_narrowestGate 15 = .ok (.invokevirtual 30, 3) := by decide +kernel
theorem dX5_narrowestGate_18 : decode cX5_narrowestGate 18 = .ok (.istore_n 3, 1) := by decide +kernel
theorem dX5_narrowestGate_19 : decode cX5_narrowestGate 19 = .ok (.aload_n 0, 1) := by decide +kernel
theorem dX5_narrowestGate_20 : decode cX5_narrowestGate 20 = .ok (.iload_n 2, 1) := by decide +kernel
theorem dX5_narrowestGate_21 : decode cX5_narrowestGate 21 = .ok (.iconst 0, 1) := by decide +kernel
theorem dX5_narrowestGate_22 : decode cX5_narrowestGate 22 = .ok (.invokevirtual 30, 3) := by decide +kernel
theorem dX5_narrowestGate_25 : decode cX5_narrowestGate 25 = .ok (.iconst 2, 1) := by decide +kernel
theorem dX5_narrowestGate_26 : decode cX5_narrowestGate 26 = .ok (.if_icmp .ne 14, 3) := by decide +kernel
theorem dX5_narrowestGate_29 : decode cX5_narrowestGate 29 = .ok (.iload_n 1, 1) := by decide +kernel
theorem dX5_narrowestGate_30 : decode cX5_narrowestGate 30 = .ok (.ifCond .eq 8, 3) := by decide +kernel
theorem dX5_narrowestGate_33 : decode cX5_narrowestGate 33 = .ok (.iload_n 3, 1) := by decide +kernel
theorem dX5_narrowestGate_34 : decode cX5_narrowestGate 34 = .ok (.iload_n 1, 1) := by decide +kernel
theorem dX5_narrowestGate_35 : decode cX5_narrowestGate 35 = .ok (.if_icmp .ge 5, 3) := by decide +kernel
theorem dX5_narrowestGate_38 : decode cX5_narrowestGate 38 = .ok (.iload_n 3, 1) := by decide +kernel
theorem dX5_narrowestGate_39 : decode cX5_narrowestGate 39 = .ok (.istore_n 1, 1) := by decide +kernel
theorem dX5_narrowestGate_40 : decode cX5_narrowestGate 40 = .ok (.iinc 2 1, 3) := by decide +kernel
theorem dX5_narrowestGate_43 : decode cX5_narrowestGate 43 = .ok (.goto (-39), 3) := by decide +kernel
theorem dX5_narrowestGate_46 : decode cX5_narrowestGate 46 = .ok (.iload_n 1, 1) := by decide +kernel
theorem dX5_narrowestGate_47 : decode cX5_narrowestGate 47 = .ok (.ireturn, 1) := by decide +kernel
theorem dX6_init_0 : decode cX6_init 0 = .ok (.aload_n 0, 1) := by decide +kernel
theorem dX6_init_1 : decode cX6_init 1 = .ok (.invokespecial 3, 3) := by decide +kernel
theorem dX6_init_4 : decode cX6_init 4 = .ok (.aload_n 0, 1) := by decide +kernel
theorem dX6_init_5 : decode cX6_init 5 = .ok (.new 9, 3) := by decide +kernel
theorem dX6_init_8 : decode cX6_init 8 = .ok (.dup, 1) := by decide +kernel
theorem dX6_init_9 : decode cX6_init 9 = .ok (.invokespecial 11, 3) := by decide +kernel
theorem dX6_init_12 : decode cX6_init 12 = .ok (.putfield 12, 3) := by decide +kernel
theorem dX6_init_15 : decode cX6_init 15 = .ok (.aload_n 0, 1) := by decide +kernel
theorem dX6_init_16 : decode cX6_init 16 = .ok (.new 18, 3) := by decide +kernel
theorem dX6_init_19 : decode cX6_init 19 = .ok (.dup, 1) := by decide +kernel
theorem dX6_init_20 : decode cX6_init 20 = .ok (.invokespecial 20, 3) := by decide +kernel
theorem dX6_init_23 : decode cX6_init 23 = .ok (.putfield 21, 3) := by decide +kernel
theorem dX6_init_26 : decode cX6_init 26 = .ok (.aload_n 0, 1) := by decide +kernel
theorem dX6_init_27 : decode cX6_init 27 = .ok (.new 25, 3) := by decide +kernel
theorem dX6_init_30 : decode cX6_init 30 = .ok (.dup, 1) := by decide +kernel
theorem dX6_init_31 : decode cX6_init 31 = .ok (.invokespecial 27, 3) := by decide +kernel
theorem dX6_init_34 : decode cX6_init 34 = .ok (.putfield 28, 3) := by decide +kernel
theorem dX6_init_37 : decode cX6_init 37 = .ok (.aload_n 0, 1) := by decide +kernel
theorem dX6_init_38 : decode cX6_init 38 = .ok (.new 32, 3) := by decide +kernel
theorem dX6_init_41 : decode cX6_init 41 = .ok (.dup, 1) := by decide +kernel
theorem dX6_init_42 : decode cX6_init 42 = .ok (.invokespecial 34, 3) := by decide +kernel
theorem dX6_init_45 : decode cX6_init 45 = .ok (.putfield 35, 3) := by decide +kernel
theorem dX6_init_48 : decode cX6_init 48 = .ok (.aload_n 0, 1) := by decide +kernel
theorem dX6_init_49 : decode cX6_init 49 = .ok (.iconst 5, 1) := by decide +kernel
theorem dX6_init_50 : decode cX6_init 50 = .ok (.newarray .int, 2) := by decide +kernel
theorem dX6_init_52 : decode cX6_init 52 = .ok (.putfield 39, 3) := by decide +kernel
theorem dX6_init_55 : decode cX6_init 55 = .ok (.aload_n 0, 1) := by decide +kernel
theorem dX6_init_56 : decode cX6_init 56 = .ok (.iconst 0, 1) := by decide +kernel
theorem dX6_init_57 : decode cX6_init 57 = .ok (.putfield 43, 3) := by decide +kernel
theorem dX6_init_60 : decode cX6_init 60 = .ok (.aload_n 0, 1) := by decide +kernel
theorem dX6_init_61 : decode cX6_init 61 = .ok (.iconst 0, 1) := by decide +kernel
theorem dX6_init_62 : decode cX6_init 62 = .ok (.putfield 47, 3) := by decide +kernel
theorem dX6_init_65 : decode cX6_init 65 = .ok (.return_, 1) := by decide +kernel
theorem dX6_copyFrom_0 : decode cX6_copyFrom 0 = .ok (.aload_n 0, 1) := by decide +kernel
theorem dX6_copyFrom_1 : decode cX6_copyFrom 1 = .ok (.getfield 12, 3) := by decide +kernel
theorem dX6_copyFrom_4 : decode cX6_copyFrom 4 = .ok (.aload_n 1, 1) := by decide +kernel
theorem dX6_copyFrom_5 : decode cX6_copyFrom 5 = .ok (.getfield 12, 3) := by decide +kernel
theorem dX6_copyFrom_8 : decode cX6_copyFrom 8 = .ok (.invokevirtual 50, 3) := by decide +kernel
theorem dX6_copyFrom_11 : decode cX6_copyFrom 11 = .ok (.aload_n 0, 1) := by decide +kernel
theorem dX6_copyFrom_12 : decode cX6_copyFrom 12 = .ok (.getfield 21, 3) := by decide +kernel
theorem dX6_copyFrom_15 : decode cX6_copyFrom 15 = .ok (.aload_n 1, 1) := by decide +kernel
theorem dX6_copyFrom_16 : decode cX6_copyFrom 16 = .ok (.getfield 21, 3) := by decide +kernel
theorem dX6_copyFrom_19 : decode cX6_copyFrom 19 = .ok (.invokevirtual 54, 3) := by decide +kernel
theorem dX6_copyFrom_22 : decode cX6_copyFrom 22 = .ok (.aload_n 0, 1) := by decide +kernel
theorem dX6_copyFrom_23 : decode cX6_copyFrom 23 = .ok (.getfield 28, 3) := by decide +kernel
theorem dX6_copyFrom_26 : decode cX6_copyFrom 26 = .ok (.aload_n 1, 1) := by decide +kernel
theorem dX6_copyFrom_27 : decode cX6_copyFrom 27 = .ok (.getfield 28, 3) := by decide +kernel
theorem dX6_copyFrom_30 : decode cX6_copyFrom 30 = .ok (.invokevirtual 57, 3) := by decide +kernel
theorem dX6_copyFrom_33 : decode cX6_copyFrom 33 = .ok (.aload_n 0, 1) := by decide +kernel
theorem dX6_copyFrom_34 : decode cX6_copyFrom 34 = .ok (.getfield 35, 3) := by decide +kernel
theorem dX6_copyFrom_37 : decode cX6_copyFrom 37 = .ok (.aload_n 1, 1) := by decide +kernel
theorem dX6_copyFrom_38 : decode cX6_copyFrom 38 = .ok (.getfield 35, 3) := by decide +kernel
theorem dX6_copyFrom_41 : decode cX6_copyFrom 41 = .ok (.invokevirtual 60, 3) := by decide +kernel
theorem dX6_copyFrom_44 : decode cX6_copyFrom 44 = .ok (.aload_n 1, 1) := by decide +kernel
theorem dX6_copyFrom_45 : decode cX6_copyFrom 45 = .ok (.getfield 39, 3) := by decide +kernel
theorem dX6_copyFrom_48 : decode cX6_copyFrom 48 = .ok (.iconst 0, 1) := by decide +kernel
theorem dX6_copyFrom_49 : decode cX6_copyFrom 49 = .ok (.aload_n 0, 1) := by decide +kernel
theorem dX6_copyFrom_50 : decode cX6_copyFrom 50 = .ok (.getfield 39, 3) := by decide +kernel
theorem dX6_copyFrom_53 : decode cX6_copyFrom 53 = .ok (.iconst 0, 1) := by decide +kernel
theorem dX6_copyFrom_54 : decode cX6_copyFrom 54 = .ok (.iconst 5, 1) := by decide +kernel
theorem dX6_copyFrom_55 : decode cX6_copyFrom 55 = .ok (.invokestatic 63, 3) := by decide +kernel
theorem dX6_copyFrom_58 : decode cX6_copyFrom 58 = .ok (.aload_n 0, 1) := by decide +kernel
theorem dX6_copyFrom_59 : decode cX6_copyFrom 59 = .ok (.aload_n 1, 1) := by decide +kernel
theorem dX6_copyFrom_60 : decode cX6_copyFrom 60 = .ok (.getfield 43, 3) := by decide +kernel
theorem dX6_copyFrom_63 : decode cX6_copyFrom 63 = .ok (.putfield 43, 3) := by decide +kernel
theorem dX6_copyFrom_66 : decode cX6_copyFrom 66 = .ok (.aload_n 0, 1) := by decide +kernel
theorem dX6_copyFrom_67 : decode cX6_copyFrom 67 = .ok (.aload_n 1, 1) := by decide +kernel
theorem dX6_copyFrom_68 : decode cX6_copyFrom 68 = .ok (.getfield 47, 3) := by decide +kernel
theorem dX6_copyFrom_71 : decode cX6_copyFrom 71 = .ok (.putfield 47, 3) := by decide +kernel
theorem dX6_copyFrom_74 : decode cX6_copyFrom 74 = .ok (.return_, 1) := by decide +kernel
theorem dX6_partError_0 : decode cX6_partError 0 = .ok (.iload_n 1, 1) := by decide +kernel
theorem dX6_partError_1 : decode cX6_partError 1 = .ok (.ifCond .lt 14, 3) := by decide +kernel
theorem dX6_partError_4 : decode cX6_partError 4 = .ok (.iload_n 1, 1) := by decide +kernel
theorem dX6_partError_5 : decode cX6_partError 5 = .ok (.aload_n 0, 1) := by decide +kernel
theorem dX6_partError_6 : decode cX6_partError 6 = .ok (.getfield 21, 3) := by decide +kernel
theorem dX6_partError_9 : decode cX6_partError 9 = .ok (.getfield 69, 3) := by decide +kernel
theorem dX6_partError_12 : decode cX6_partError 12 = .ok (.if_icmp .le 5, 3) := by decide +kernel
theorem dX6_partError_15 : decode cX6_partError 15 = .ok (.iconst (-1), 1) := by decide +kernel
theorem dX6_partError_16 : decode cX6_partError 16 = .ok (.ireturn, 1) := by decide +kernel
theorem dX6_partError_17 : decode cX6_partError 17 = .ok (.iload_n 2, 1) := by decide +kernel
theorem dX6_partError_18 : decode cX6_partError 18 = .ok (.iload_n 3, 1) := by decide +kernel
theorem dX6_partError_19 : decode cX6_partError 19 = .ok (.invokestatic 72, 3) := by decide +kernel
theorem dX6_partError_22 : decode cX6_partError 22 = .ok (.ifCond .ne 6, 3) := by decide +kernel
theorem dX6_partError_25 : decode cX6_partError 25 = .ok (.bipush (-2), 2) := by decide +kernel
theorem dX6_partError_27 : decode cX6_partError 27 = .ok (.ireturn, 1) := by decide +kernel
theorem dX6_partError_28 : decode cX6_partError 28 = .ok (.aload_n 0, 1) := by decide +kernel
theorem dX6_partError_29 : decode cX6_partError 29 = .ok (.getfield 21, 3) := by decide +kernel
theorem dX6_partError_32 : decode cX6_partError 32 = .ok (.getfield 69, 3) := by decide +kernel
theorem dX6_partError_35 : decode cX6_partError 35 = .ok (.bipush 20, 2) := by decide +kernel
theorem dX6_partError_37 : decode cX6_partError 37 = .ok (.if_icmp .lt 8, 3) := by decide +kernel
theorem dX6_partError_40 : decode cX6_partError 40 = .ok (.bipush (-4), 2) := by decide +kernel
theorem dX6_partError_42 : decode cX6_partError 42 = .ok (.goto 4, 3) := by decide +kernel
theorem dX6_partError_45 : decode cX6_partError 45 = .ok (.iconst 0, 1) := by decide +kernel
theorem dX6_partError_46 : decode cX6_partError 46 = .ok (.ireturn, 1) := by decide +kernel
theorem dX6_addPart_0 : decode cX6_addPart 0 = .ok (.aload_n 0, 1) := by decide +kernel
theorem dX6_addPart_1 : decode cX6_addPart 1 = .ok (.getfield 21, 3) := by decide +kernel
theorem dX6_addPart_4 : decode cX6_addPart 4 = .ok (.iload_n 1, 1) := by decide +kernel
theorem dX6_addPart_5 : decode cX6_addPart 5 = .ok (.iload_n 2, 1) := by decide +kernel
theorem dX6_addPart_6 : decode cX6_addPart 6 = .ok (.iload_n 3, 1) := by decide +kernel
theorem dX6_addPart_7 : decode cX6_addPart 7 = .ok (.invokevirtual 76, 3) := by decide +kernel
theorem dX6_addPart_10 : decode cX6_addPart 10 = .ok (.aload_n 0, 1) := by decide +kernel
theorem dX6_addPart_11 : decode cX6_addPart 11 = .ok (.getfield 28, 3) := by decide +kernel
theorem dX6_addPart_14 : decode cX6_addPart 14 = .ok (.invokevirtual 80, 3) := by decide +kernel
theorem dX6_addPart_17 : decode cX6_addPart 17 = .ok (.aload_n 0, 1) := by decide +kernel
theorem dX6_addPart_18 : decode cX6_addPart 18 = .ok (.getfield 21, 3) := by decide +kernel
theorem dX6_addPart_21 : decode cX6_addPart 21 = .ok (.getfield 69, 3) := by decide +kernel
theorem dX6_addPart_24 : decode cX6_addPart 24 = .ok (.ireturn, 1) := by decide +kernel
theorem dX6_removePart_0 : decode cX6_removePart 0 = .ok (.aload_n 0, 1) := by decide +kernel
theorem dX6_removePart_1 : decode cX6_removePart 1 = .ok (.getfield 21, 3) := by decide +kernel
theorem dX6_removePart_4 : decode cX6_removePart 4 = .ok (.iload_n 1, 1) := by decide +kernel
theorem dX6_removePart_5 : decode cX6_removePart 5 = .ok (.invokevirtual 83, 3) := by decide +kernel
theorem dX6_removePart_8 : decode cX6_removePart 8 = .ok (.aload_n 0, 1) := by decide +kernel
theorem dX6_removePart_9 : decode cX6_removePart 9 = .ok (.getfield 28, 3) := by decide +kernel
theorem dX6_removePart_12 : decode cX6_removePart 12 = .ok (.invokevirtual 80, 3) := by decide +kernel
theorem dX6_removePart_15 : decode cX6_removePart 15 = .ok (.aload_n 0, 1) := by decide +kernel
theorem dX6_removePart_16 : decode cX6_removePart 16 = .ok (.getfield 21, 3) := by decide +kernel
theorem dX6_removePart_19 : decode cX6_removePart 19 = .ok (.getfield 69, 3) := by decide +kernel
theorem dX6_removePart_22 : decode cX6_removePart 22 = .ok (.ireturn, 1) := by decide +kernel
theorem dX6_beginRun_0 : decode cX6_beginRun 0 = .ok (.aload_n 0, 1) := by decide +kernel
theorem dX6_beginRun_1 : decode cX6_beginRun 1 = .ok (.getfield 28, 3) := by decide +kernel
theorem dX6_beginRun_4 : decode cX6_beginRun 4 = .ok (.iload_n 1, 1) := by decide +kernel
theorem dX6_beginRun_5 : decode cX6_beginRun 5 = .ok (.invokevirtual 87, 3) := by decide +kernel
theorem dX6_beginRun_8 : decode cX6_beginRun 8 = .ok (.aload_n 0, 1) := by decide +kernel
theorem dX6_beginRun_9 : decode cX6_beginRun 9 = .ok (.dup, 1) := by decide +kernel
theorem dX6_beginRun_10 : decode cX6_beginRun 10 = .ok (.getfield 43, 3) := by decide +kernel
theorem dX6_beginRun_13 : decode cX6_beginRun 13 = .ok (.iconst 1, 1) := by decide +kernel
theorem dX6_beginRun_14 : decode cX6_beginRun 14 = .ok (.iadd, 1) := by decide +kernel
theorem dX6_beginRun_15 : decode cX6_beginRun 15 = .ok (.putfield 43, 3) := by decide +kernel
theorem dX6_beginRun_18 : decode cX6_beginRun 18 = .ok (.aload_n 0, 1) := by decide +kernel
theorem dX6_beginRun_19 : decode cX6_beginRun 19 = .ok (.getfield 43, 3) := by decide +kernel
theorem dX6_beginRun_22 : decode cX6_beginRun 22 = .ok (.ireturn, 1) := by decide +kernel
theorem dX6_rollError_0 : decode cX6_rollError 0 = .ok (.iload_n 1, 1) := by decide +kernel
theorem dX6_rollError_1 : decode cX6_rollError 1 = .ok (.iconst 1, 1) := by decide +kernel
theorem dX6_rollError_2 : decode cX6_rollError 2 = .ok (.if_icmp .lt 9, 3) := by decide +kernel
theorem dX6_rollError_5 : decode cX6_rollError 5 = .ok (.iload_n 1, 1) := by decide +kernel
theorem dX6_rollError_6 : decode cX6_rollError 6 = .ok (.bipush 20, 2) := by decide +kernel
theorem dX6_rollError_8 : decode cX6_rollError 8 = .ok (.if_icmp .le 6, 3) := by decide +kernel
theorem dX6_rollError_11 : decode cX6_rollError 11 = .ok (.bipush (-2), 2) := by decide +kernel
theorem dX6_rollError_13 : decode cX6_rollError 13 = .ok (.ireturn, 1) := by decide +kernel
theorem dX6_rollError_14 : decode cX6_rollError 14 = .ok (.aload_n 0, 1) := by decide +kernel
theorem dX6_rollError_15 : decode cX6_rollError 15 = .ok (.getfield 28, 3) := by decide +kernel
theorem dX6_rollError_18 : decode cX6_rollError 18 = .ok (.invokevirtual 90, 3) := by decide +kernel
theorem dX6_rollError_21 : decode cX6_rollError 21 = .ok (.ifCond .eq 7, 3) := by decide +kernel
theorem dX6_rollError_24 : decode cX6_rollError 24 = .ok (.iconst 0, 1) := by decide +kernel
theorem dX6_rollError_25 : decode cX6_rollError 25 = .ok (.goto 5, 3) := by decide +kernel
theorem dX6_rollError_28 : decode cX6_rollError 28 = .ok (.bipush (-5), 2) := by decide +kernel
theorem dX6_rollError_30 : decode cX6_rollError 30 = .ok (.ireturn, 1) := by decide +kernel
theorem dX6_rollOver_0 : decode cX6_rollOver 0 = .ok (.aload_n 0, 1) := by decide +kernel
theorem dX6_rollOver_1 : decode cX6_rollOver 1 = .ok (.getfield 28, 3) := by decide +kernel
theorem dX6_rollOver_4 : decode cX6_rollOver 4 = .ok (.iload_n 1, 1) := by decide +kernel
theorem dX6_rollOver_5 : decode cX6_rollOver 5 = .ok (.aload_n 0, 1) := by decide +kernel
theorem dX6_rollOver_6 : decode cX6_rollOver 6 = .ok (.getfield 21, 3) := by decide +kernel
theorem dX6_rollOver_9 : decode cX6_rollOver 9 = .ok (.aload_n 0, 1) := by decide +kernel
theorem dX6_rollOver_10 : decode cX6_rollOver 10 = .ok (.getfield 12, 3) := by decide +kernel
theorem dX6_rollOver_13 : decode cX6_rollOver 13 = .ok (.invokevirtual 94, 3) := by decide +kernel
theorem dX6_rollOver_16 : decode cX6_rollOver 16 = .ok (.aload_n 0, 1) := by decide +kernel
theorem dX6_rollOver_17 : decode cX6_rollOver 17 = .ok (.getfield 28, 3) := by decide +kernel
theorem dX6_rollOver_20 : decode cX6_rollOver 20 = .ok (.invokevirtual 90, 3) := by decide +kernel
theorem dX6_rollOver_23 : decode cX6_rollOver 23 = .ok (.ifCond .ne 7, 3) := by decide +kernel
theorem dX6_rollOver_26 : decode cX6_rollOver 26 = .ok (.aload_n 0, 1) := by decide +kernel
theorem dX6_rollOver_27 : decode cX6_rollOver 27 = .ok (.invokevirtual 98, 3) := by decide +kernel
theorem dX6_rollOver_30 : decode cX6_rollOver 30 = .ok (.aload_n 0, 1) := by decide +kernel
theorem dX6_rollOver_31 : decode cX6_rollOver 31 = .ok (.getfield 28, 3) := by decide +kernel
theorem dX6_rollOver_34 : decode cX6_rollOver 34 = .ok (.getfield 101, 3) := by decide +kernel
theorem dX6_rollOver_37 : decode cX6_rollOver 37 = .ok (.ireturn, 1) := by decide +kernel
theorem dX6_noteEnd_0 : decode cX6_noteEnd 0 = .ok (.aload_n 0, 1) := by decide +kernel
theorem dX6_noteEnd_1 : decode cX6_noteEnd 1 = .ok (.getfield 21, 3) := by decide +kernel
theorem dX6_noteEnd_4 : decode cX6_noteEnd 4 = .ok (.aload_n 0, 1) := by decide +kernel
theorem dX6_noteEnd_5 : decode cX6_noteEnd 5 = .ok (.getfield 28, 3) := by decide +kernel
theorem dX6_noteEnd_8 : decode cX6_noteEnd 8 = .ok (.getfield 104, 3) := by decide +kernel
theorem dX6_noteEnd_11 : decode cX6_noteEnd 11 = .ok (.aload_n 0, 1) := by decide +kernel
theorem dX6_noteEnd_12 : decode cX6_noteEnd 12 = .ok (.getfield 28, 3) := by decide +kernel
theorem dX6_noteEnd_15 : decode cX6_noteEnd 15 = .ok (.getfield 101, 3) := by decide +kernel
theorem dX6_noteEnd_18 : decode cX6_noteEnd 18 = .ok (.invokevirtual 107, 3) := by decide +kernel
theorem dX6_noteEnd_21 : decode cX6_noteEnd 21 = .ok (.aload_n 0, 1) := by decide +kernel
theorem dX6_noteEnd_22 : decode cX6_noteEnd 22 = .ok (.getfield 35, 3) := by decide +kernel
theorem dX6_noteEnd_25 : decode cX6_noteEnd 25 = .ok (.aload_n 0, 1) := by decide +kernel
theorem dX6_noteEnd_26 : decode cX6_noteEnd 26 = .ok (.getfield 28, 3) := by decide +kernel
theorem dX6_noteEnd_29 : decode cX6_noteEnd 29 = .ok (.invokevirtual 110, 3) := by decide +kernel
theorem dX6_noteEnd_32 : decode cX6_noteEnd 32 = .ok (.aload_n 0, 1) := by decide +kernel
theorem dX6_noteEnd_33 : decode cX6_noteEnd 33 = .ok (.getfield 28, 3) := by decide +kernel
theorem dX6_noteEnd_36 : decode cX6_noteEnd 36 = .ok (.getfield 101, 3) := by decide +kernel
theorem dX6_noteEnd_39 : decode cX6_noteEnd 39 = .ok (.iconst 1, 1) := by decide +kernel
theorem dX6_noteEnd_40 : decode cX6_noteEnd 40 = .ok (.if_icmp .lt 30, 3) := by decide +kernel
theorem dX6_noteEnd_43 : decode cX6_noteEnd 43 = .ok (.aload_n 0, 1) := by decide +kernel
theorem dX6_noteEnd_44 : decode cX6_noteEnd 44 = .ok (.getfield 28, 3) := by decide +kernel
theorem dX6_noteEnd_47 : decode cX6_noteEnd 47 = .ok (.getfield 101, 3) := by decide +kernel
theorem dX6_noteEnd_50 : decode cX6_noteEnd 50 = .ok (.iconst 4, 1) := by decide +kernel
theorem dX6_noteEnd_51 : decode cX6_noteEnd 51 = .ok (.if_icmp .gt 19, 3) := by decide +kernel
theorem dX6_noteEnd_54 : decode cX6_noteEnd 54 = .ok (.aload_n 0, 1) := by decide +kernel
theorem dX6_noteEnd_55 : decode cX6_noteEnd 55 = .ok (.getfield 39, 3) := by decide +kernel
theorem dX6_noteEnd_58 : decode cX6_noteEnd 58 = .ok (.aload_n 0, 1) := by decide +kernel
theorem dX6_noteEnd_59 : decode cX6_noteEnd 59 = .ok (.getfield 28, 3) := by decide +kernel
theorem dX6_noteEnd_62 : decode cX6_noteEnd 62 = .ok (.getfield 101, 3) := by decide +kernel
theorem dX6_noteEnd_65 : decode cX6_noteEnd 65 = .ok (.dup2, 1) := by decide +kernel
theorem dX6_noteEnd_66 : decode cX6_noteEnd 66 = .ok (.iaload, 1) := by decide +kernel
theorem dX6_noteEnd_67 : decode cX6_noteEnd 67 = .ok (.iconst 1, 1) := by decide +kernel
theorem dX6_noteEnd_68 : decode cX6_noteEnd 68 = .ok (.iadd, 1) := by decide +kernel
theorem dX6_noteEnd_69 : decode cX6_noteEnd 69 = .ok (.iastore, 1) := by decide +kernel
theorem dX6_noteEnd_70 : decode cX6_noteEnd 70 = .ok (.return_, 1) := by decide +kernel
theorem dX6_tapError_0 : decode cX6_tapError 0 = .ok (.iload_n 1, 1) := by decide +kernel
theorem dX6_tapError_1 : decode cX6_tapError 1 = .ok (.ifCond .eq 11, 3) := by decide +kernel
theorem dX6_tapError_4 : decode cX6_tapError 4 = .ok (.iload_n 1, 1) := by decide +kernel
theorem dX6_tapError_5 : decode cX6_tapError 5 = .ok (.iconst 1, 1) := by decide +kernel
theorem dX6_tapError_6 : decode cX6_tapError 6 = .ok (.if_icmp .eq 6, 3) := by decide +kernel
theorem dX6_tapError_9 : decode cX6_tapError 9 = .ok (.bipush (-2), 2) := by decide +kernel
theorem dX6_tapError_11 : decode cX6_tapError 11 = .ok (.ireturn, 1) := by decide +kernel
theorem dX6_tapError_12 : decode cX6_tapError 12 = .ok (.aload_n 0, 1) := by decide +kernel
theorem dX6_tapError_13 : decode cX6_tapError 13 = .ok (.getfield 28, 3) := by decide +kernel
theorem dX6_tapError_16 : decode cX6_tapError 16 = .ok (.invokevirtual 90, 3) := by decide +kernel
theorem dX6_tapError_19 : decode cX6_tapError 19 = .ok (.ifCond .eq 7, 3) := by decide +kernel
theorem dX6_tapError_22 : decode cX6_tapError 22 = .ok (.iconst 0, 1) := by decide +kernel
theorem dX6_tapError_23 : decode cX6_tapError 23 = .ok (.goto 5, 3) := by decide +kernel
theorem dX6_tapError_26 : decode cX6_tapError 26 = .ok (.bipush (-5), 2) := by decide +kernel
theorem dX6_tapError_28 : decode cX6_tapError 28 = .ok (.ireturn, 1) := by decide +kernel
theorem dX6_tapFrom_0 : decode cX6_tapFrom 0 = .ok (.aload_n 0, 1) := by decide +kernel
theorem dX6_tapFrom_1 : decode cX6_tapFrom 1 = .ok (.getfield 28, 3) := by decide +kernel
theorem dX6_tapFrom_4 : decode cX6_tapFrom 4 = .ok (.iload_n 1, 1) := by decide +kernel
theorem dX6_tapFrom_5 : decode cX6_tapFrom 5 = .ok (.aload_n 0, 1) := by decide +kernel
theorem dX6_tapFrom_6 : decode cX6_tapFrom 6 = .ok (.getfield 12, 3) := by decide +kernel
theorem dX6_tapFrom_9 : decode cX6_tapFrom 9 = .ok (.iconst 3, 1) := by decide +kernel
theorem dX6_tapFrom_10 : decode cX6_tapFrom 10 = .ok (.invokevirtual 113, 3) := by decide +kernel
theorem dX6_tapFrom_13 : decode cX6_tapFrom 13 = .ok (.invokevirtual 117, 3) := by decide +kernel
theorem dX6_tapFrom_16 : decode cX6_tapFrom 16 = .ok (.aload_n 0, 1) := by decide +kernel
theorem dX6_tapFrom_17 : decode cX6_tapFrom 17 = .ok (.dup, 1) := by decide +kernel
theorem dX6_tapFrom_18 : decode cX6_tapFrom 18 = .ok (.getfield 47, 3) := by decide +kernel
theorem dX6_tapFrom_21 : decode cX6_tapFrom 21 = .ok (.iconst 1, 1) := by decide +kernel
theorem dX6_tapFrom_22 : decode cX6_tapFrom 22 = .ok (.iadd, 1) := by decide +kernel
theorem dX6_tapFrom_23 : decode cX6_tapFrom 23 = .ok (.putfield 47, 3) := by decide +kernel
theorem dX6_tapFrom_26 : decode cX6_tapFrom 26 = .ok (.aload_n 0, 1) := by decide +kernel
theorem dX6_tapFrom_27 : decode cX6_tapFrom 27 = .ok (.getfield 28, 3) := by decide +kernel
theorem dX6_tapFrom_30 : decode cX6_tapFrom 30 = .ok (.getfield 120, 3) := by decide +kernel
theorem dX6_tapFrom_33 : decode cX6_tapFrom 33 = .ok (.sipush 500, 3) := by decide +kernel
theorem dX6_tapFrom_36 : decode cX6_tapFrom 36 = .ok (.iadd, 1) := by decide +kernel
theorem dX6_tapFrom_37 : decode cX6_tapFrom 37 = .ok (.ireturn, 1) := by decide +kernel
theorem dX6_pushError_0 : decode cX6_pushError 0 = .ok (.aload_n 0, 1) := by decide +kernel
theorem dX6_pushError_1 : decode cX6_pushError 1 = .ok (.getfield 28, 3) := by decide +kernel
theorem dX6_pushError_4 : decode cX6_pushError 4 = .ok (.invokevirtual 90, 3) := by decide +kernel
theorem dX6_pushError_7 : decode cX6_pushError 7 = .ok (.ifCond .eq 7, 3) := by decide +kernel
theorem dX6_pushError_10 : decode cX6_pushError 10 = .ok (.iconst 0, 1) := by decide +kernel
theorem dX6_pushError_11 : decode cX6_pushError 11 = .ok (.goto 5, 3) := by decide +kernel
theorem dX6_pushError_14 : decode cX6_pushError 14 = .ok (.bipush (-5), 2) := by decide +kernel
theorem dX6_pushError_16 : decode cX6_pushError 16 = .ok (.ireturn, 1) := by decide +kernel
theorem dX6_pushOn_0 : decode cX6_pushOn 0 = .ok (.aload_n 0, 1) := by decide +kernel
theorem dX6_pushOn_1 : decode cX6_pushOn 1 = .ok (.getfield 28, 3) := by decide +kernel
theorem dX6_pushOn_4 : decode cX6_pushOn 4 = .ok (.invokevirtual 123, 3) := by decide +kernel
theorem dX6_pushOn_7 : decode cX6_pushOn 7 = .ok (.aload_n 0, 1) := by decide +kernel
theorem dX6_pushOn_8 : decode cX6_pushOn 8 = .ok (.getfield 28, 3) := by decide +kernel
theorem dX6_pushOn_11 : decode cX6_pushOn 11 = .ok (.getfield 126, 3) := by decide +kernel
theorem dX6_pushOn_14 : decode cX6_pushOn 14 = .ok (.ireturn, 1) := by decide +kernel
theorem dX6_number_0 : decode cX6_number 0 = .ok (.iload_n 1, 1) := by decide +kernel
theorem dX6_number_1 : decode cX6_number 1 = .ok (.tableswitch 118 0 8 #[51, 59, 64, 71, 78, 85, 92, 100, 109], 51) := by decide +kernel
theorem dX6_number_52 : decode cX6_number 52 = .ok (.aload_n 0, 1) := by decide +kernel
theorem dX6_number_53 : decode cX6_number 53 = .ok (.getfield 21, 3) := by decide +kernel
theorem dX6_number_56 : decode cX6_number 56 = .ok (.getfield 69, 3) := by decide +kernel
theorem dX6_number_59 : decode cX6_number 59 = .ok (.ireturn, 1) := by decide +kernel
theorem dX6_number_60 : decode cX6_number 60 = .ok (.aload_n 0, 1) := by decide +kernel
theorem dX6_number_61 : decode cX6_number 61 = .ok (.getfield 43, 3) := by decide +kernel
theorem dX6_number_64 : decode cX6_number 64 = .ok (.ireturn, 1) := by decide +kernel
theorem dX6_number_65 : decode cX6_number 65 = .ok (.aload_n 0, 1) := by decide +kernel
theorem dX6_number_66 : decode cX6_number 66 = .ok (.getfield 39, 3) := by decide +kernel
theorem dX6_number_69 : decode cX6_number 69 = .ok (.iconst 1, 1) := by decide +kernel
theorem dX6_number_70 : decode cX6_number 70 = .ok (.iaload, 1) := by decide +kernel
theorem dX6_number_71 : decode cX6_number 71 = .ok (.ireturn, 1) := by decide +kernel
theorem dX6_number_72 : decode cX6_number 72 = .ok (.aload_n 0, 1) := by decide +kernel
theorem dX6_number_73 : decode cX6_number 73 = .ok (.getfield 39, 3) := by decide +kernel
theorem dX6_number_76 : decode cX6_number 76 = .ok (.iconst 2, 1) := by decide +kernel
theorem dX6_number_77 : decode cX6_number 77 = .ok (.iaload, 1) := by decide +kernel
theorem dX6_number_78 : decode cX6_number 78 = .ok (.ireturn, 1) := by decide +kernel
theorem dX6_number_79 : decode cX6_number 79 = .ok (.aload_n 0, 1) := by decide +kernel
theorem dX6_number_80 : decode cX6_number 80 = .ok (.getfield 39, 3) := by decide +kernel
theorem dX6_number_83 : decode cX6_number 83 = .ok (.iconst 3, 1) := by decide +kernel
theorem dX6_number_84 : decode cX6_number 84 = .ok (.iaload, 1) := by decide +kernel
theorem dX6_number_85 : decode cX6_number 85 = .ok (.ireturn, 1) := by decide +kernel
theorem dX6_number_86 : decode cX6_number 86 = .ok (.aload_n 0, 1) := by decide +kernel
theorem dX6_number_87 : decode cX6_number 87 = .ok (.getfield 39, 3) := by decide +kernel
theorem dX6_number_90 : decode cX6_number 90 = .ok (.iconst 4, 1) := by decide +kernel
theorem dX6_number_91 : decode cX6_number 91 = .ok (.iaload, 1) := by decide +kernel
theorem dX6_number_92 : decode cX6_number 92 = .ok (.ireturn, 1) := by decide +kernel
theorem dX6_number_93 : decode cX6_number 93 = .ok (.aload_n 0, 1) := by decide +kernel
theorem dX6_number_94 : decode cX6_number 94 = .ok (.getfield 21, 3) := by decide +kernel
theorem dX6_number_97 : decode cX6_number 97 = .ok (.invokevirtual 129, 3) := by decide +kernel
theorem dX6_number_100 : decode cX6_number 100 = .ok (.ireturn, 1) := by decide +kernel
theorem dX6_number_101 : decode cX6_number 101 = .ok (.aload_n 0, 1) := by decide +kernel
theorem dX6_number_102 : decode cX6_number 102 = .ok (.getfield 21, 3) := by decide +kernel
theorem dX6_number_105 : decode cX6_number 105 = .ok (.iconst 0, 1) := by decide +kernel
theorem dX6_number_106 : decode cX6_number 106 = .ok (.invokevirtual 133, 3) := by decide +kernel
theorem dX6_number_109 : decode cX6_number 109 = .ok (.ireturn, 1) := by decide +kernel
theorem dX6_number_110 : decode cX6_number 110 = .ok (.aload_n 0, 1) := by decide +kernel
theorem dX6_number_111 : decode cX6_number 111 = .ok (.getfield 21, 3) := by decide +kernel
theorem dX6_number_114 : decode cX6_number 114 = .ok (.iconst 1, 1) := by decide +kernel
theorem dX6_number_115 : decode cX6_number 115 = .ok (.invokevirtual 133, 3) := by decide +kernel
theorem dX6_number_118 : decode cX6_number 118 = .ok (.ireturn, 1) := by decide +kernel
theorem dX6_number_119 : decode cX6_number 119 = .ok (.aload_n 0, 1) := by decide +kernel
theorem dX6_number_120 : decode cX6_number 120 = .ok (.getfield 47, 3) := by decide +kernel
theorem dX6_number_123 : decode cX6_number 123 = .ok (.ireturn, 1) := by decide +kernel
theorem dX7_init_0 : decode cX7_init 0 = .ok (.aload_n 0, 1) := by decide +kernel
theorem dX7_init_1 : decode cX7_init 1 = .ok (.invokespecial 1, 3) := by decide +kernel
theorem dX7_init_4 : decode cX7_init 4 = .ok (.aload_n 0, 1) := by decide +kernel
theorem dX7_init_5 : decode cX7_init 5 = .ok (.new 7, 3) := by decide +kernel
theorem dX7_init_8 : decode cX7_init 8 = .ok (.dup, 1) := by decide +kernel
theorem dX7_init_9 : decode cX7_init 9 = .ok (.invokespecial 9, 3) := by decide +kernel
theorem dX7_init_12 : decode cX7_init 12 = .ok (.putfield 10, 3) := by decide +kernel
theorem dX7_init_15 : decode cX7_init 15 = .ok (.aload_n 0, 1) := by decide +kernel
theorem dX7_init_16 : decode cX7_init 16 = .ok (.new 16, 3) := by decide +kernel
theorem dX7_init_19 : decode cX7_init 19 = .ok (.dup, 1) := by decide +kernel
theorem dX7_init_20 : decode cX7_init 20 = .ok (.invokespecial 18, 3) := by decide +kernel
theorem dX7_init_23 : decode cX7_init 23 = .ok (.putfield 19, 3) := by decide +kernel
theorem dX7_init_26 : decode cX7_init 26 = .ok (.aload_n 0, 1) := by decide +kernel
theorem dX7_init_27 : decode cX7_init 27 = .ok (.iconst 2, 1) := by decide +kernel
theorem dX7_init_28 : decode cX7_init 28 = .ok (.anewarray 7, 3) := by decide +kernel
theorem dX7_init_31 : decode cX7_init 31 = .ok (.putfield 23, 3) := by decide +kernel
theorem dX7_init_34 : decode cX7_init 34 = .ok (.iconst 0, 1) := by decide +kernel
theorem dX7_init_35 : decode cX7_init 35 = .ok (.istore_n 1, 1) := by decide +kernel
theorem dX7_init_36 : decode cX7_init 36 = .ok (.iload_n 1, 1) := by decide +kernel
theorem dX7_init_37 : decode cX7_init 37 = .ok (.iconst 2, 1) := by decide +kernel
theorem dX7_init_38 : decode cX7_init 38 = .ok (.if_icmp .ge 22, 3) := by decide +kernel
theorem dX7_init_41 : decode cX7_init 41 = .ok (.aload_n 0, 1) := by decide +kernel
theorem dX7_init_42 : decode cX7_init 42 = .ok (.getfield 23, 3) := by decide +kernel
theorem dX7_init_45 : decode cX7_init 45 = .ok (.iload_n 1, 1) := by decide +kernel
theorem dX7_init_46 : decode cX7_init 46 = .ok (.new 7, 3) := by decide +kernel
theorem dX7_init_49 : decode cX7_init 49 = .ok (.dup, 1) := by decide +kernel
theorem dX7_init_50 : decode cX7_init 50 = .ok (.invokespecial 9, 3) := by decide +kernel
theorem dX7_init_53 : decode cX7_init 53 = .ok (.aastore, 1) := by decide +kernel
theorem dX7_init_54 : decode cX7_init 54 = .ok (.iinc 1 1, 3) := by decide +kernel
theorem dX7_init_57 : decode cX7_init 57 = .ok (.goto (-21), 3) := by decide +kernel
theorem dX7_init_60 : decode cX7_init 60 = .ok (.aload_n 0, 1) := by decide +kernel
theorem dX7_init_61 : decode cX7_init 61 = .ok (.iconst 2, 1) := by decide +kernel
theorem dX7_init_62 : decode cX7_init 62 = .ok (.newarray .boolean, 2) := by decide +kernel
theorem dX7_init_64 : decode cX7_init 64 = .ok (.putfield 27, 3) := by decide +kernel
theorem dX7_init_67 : decode cX7_init 67 = .ok (.aload_n 0, 1) := by decide +kernel
theorem dX7_init_68 : decode cX7_init 68 = .ok (.new 31, 3) := by decide +kernel
theorem dX7_init_71 : decode cX7_init 71 = .ok (.dup, 1) := by decide +kernel
theorem dX7_init_72 : decode cX7_init 72 = .ok (.invokespecial 33, 3) := by decide +kernel
theorem dX7_init_75 : decode cX7_init 75 = .ok (.putfield 34, 3) := by decide +kernel
theorem dX7_init_78 : decode cX7_init 78 = .ok (.aload_n 0, 1) := by decide +kernel
theorem dX7_init_79 : decode cX7_init 79 = .ok (.new 38, 3) := by decide +kernel
theorem dX7_init_82 : decode cX7_init 82 = .ok (.dup, 1) := by decide +kernel
theorem dX7_init_83 : decode cX7_init 83 = .ok (.invokespecial 40, 3) := by decide +kernel
theorem dX7_init_86 : decode cX7_init 86 = .ok (.putfield 41, 3) := by decide +kernel
theorem dX7_init_89 : decode cX7_init 89 = .ok (.return_, 1) := by decide +kernel
theorem dX7_set_0 : decode cX7_set 0 = .ok (.aload_n 0, 1) := by decide +kernel
theorem dX7_set_1 : decode cX7_set 1 = .ok (.getfield 10, 3) := by decide +kernel
theorem dX7_set_4 : decode cX7_set 4 = .ok (.getfield 45, 3) := by decide +kernel
theorem dX7_set_7 : decode cX7_set 7 = .ok (.iload_n 1, 1) := by decide +kernel
theorem dX7_set_8 : decode cX7_set 8 = .ok (.iload_n 2, 1) := by decide +kernel
theorem dX7_set_9 : decode cX7_set 9 = .ok (.invokevirtual 49, 3) := by decide +kernel
theorem dX7_set_12 : decode cX7_set 12 = .ok (.ifCond .ne 6, 3) := by decide +kernel
theorem dX7_set_15 : decode cX7_set 15 = .ok (.bipush (-2), 2) := by decide +kernel
theorem dX7_set_17 : decode cX7_set 17 = .ok (.ireturn, 1) := by decide +kernel
theorem dX7_set_18 : decode cX7_set 18 = .ok (.aload_n 0, 1) := by decide +kernel
theorem dX7_set_19 : decode cX7_set 19 = .ok (.getfield 19, 3) := by decide +kernel
theorem dX7_set_22 : decode cX7_set 22 = .ok (.aload_n 0, 1) := by decide +kernel
theorem dX7_set_23 : decode cX7_set 23 = .ok (.getfield 10, 3) := by decide +kernel
theorem dX7_set_26 : decode cX7_set 26 = .ok (.invokevirtual 55, 3) := by decide +kernel
theorem dX7_set_29 : decode cX7_set 29 = .ok (.aload_n 0, 1) := by decide +kernel
theorem dX7_set_30 : decode cX7_set 30 = .ok (.getfield 10, 3) := by decide +kernel
theorem dX7_set_33 : decode cX7_set 33 = .ok (.getfield 45, 3) := by decide +kernel
theorem dX7_set_36 : decode cX7_set 36 = .ok (.iload_n 1, 1) := by decide +kernel
theorem dX7_set_37 : decode cX7_set 37 = .ok (.iload_n 2, 1) := by decide +kernel
theorem dX7_set_38 : decode cX7_set 38 = .ok (.invokevirtual 59, 3) := by decide +kernel
theorem dX7_set_41 : decode cX7_set 41 = .ok (.ireturn, 1) := by decide +kernel
theorem dX7_part_0 : decode cX7_part 0 = .ok (.aload_n 0, 1) := by decide +kernel
theorem dX7_part_1 : decode cX7_part 1 = .ok (.getfield 10, 3) := by decide +kernel
theorem dX7_part_4 : decode cX7_part 4 = .ok (.iload_n 1, 1) := by decide +kernel
theorem dX7_part_5 : decode cX7_part 5 = .ok (.iload_n 2, 1) := by decide +kernel
theorem dX7_part_6 : decode cX7_part 6 = .ok (.iload_n 3, 1) := by decide +kernel
theorem dX7_part_7 : decode cX7_part 7 = .ok (.invokevirtual 63, 3) := by decide +kernel
theorem dX7_part_10 : decode cX7_part 10 = .ok (.istore 4, 2) := by decide +kernel
theorem dX7_part_12 : decode cX7_part 12 = .ok (.iload 4, 2) := by decide +kernel
theorem dX7_part_14 : decode cX7_part 14 = .ok (.ifCond .eq 6, 3) := by decide +kernel
theorem dX7_part_17 : decode cX7_part 17 = .ok (.iload 4, 2) := by decide +kernel
theorem dX7_part_19 : decode cX7_part 19 = .ok (.ireturn, 1) := by decide +kernel
theorem dX7_part_20 : decode cX7_part 20 = .ok (.aload_n 0, 1) := by decide +kernel
theorem dX7_part_21 : decode cX7_part 21 = .ok (.getfield 19, 3) := by decide +kernel
theorem dX7_part_24 : decode cX7_part 24 = .ok (.aload_n 0, 1) := by decide +kernel
theorem dX7_part_25 : decode cX7_part 25 = .ok (.getfield 10, 3) := by decide +kernel
theorem dX7_part_28 : decode cX7_part 28 = .ok (.invokevirtual 55, 3) := by decide +kernel
theorem dX7_part_31 : decode cX7_part 31 = .ok (.aload_n 0, 1) := by decide +kernel
theorem dX7_part_32 : decode cX7_part 32 = .ok (.getfield 10, 3) := by decide +kernel
theorem dX7_part_35 : decode cX7_part 35 = .ok (.iload_n 1, 1) := by decide +kernel
theorem dX7_part_36 : decode cX7_part 36 = .ok (.iload_n 2, 1) := by decide +kernel
theorem dX7_part_37 : decode cX7_part 37 = .ok (.iload_n 3, 1) := by decide +kernel
theorem dX7_part_38 : decode cX7_part 38 = .ok (.invokevirtual 67, 3) := by decide +kernel
theorem dX7_part_41 : decode cX7_part 41 = .ok (.ireturn, 1) := by decide +kernel
theorem dX7_takeAway_0 : decode cX7_takeAway 0 = .ok (.aload_n 0, 1) := by decide +kernel
theorem dX7_takeAway_1 : decode cX7_takeAway 1 = .ok (.getfield 10, 3) := by decide +kernel
theorem dX7_takeAway_4 : decode cX7_takeAway 4 = .ok (.getfield 70, 3) := by decide +kernel
theorem dX7_takeAway_7 : decode cX7_takeAway 7 = .ok (.iload_n 1, 1) := by decide +kernel
theorem dX7_takeAway_8 : decode cX7_takeAway 8 = .ok (.invokevirtual 74, 3) := by decide +kernel
theorem dX7_takeAway_11 : decode cX7_takeAway 11 = .ok (.ifCond .ne 5, 3) := by decide +kernel
theorem dX7_takeAway_14 : decode cX7_takeAway 14 = .ok (.iconst (-1), 1) := by decide +kernel
theorem dX7_takeAway_15 : decode cX7_takeAway 15 = .ok (.ireturn, 1) := by decide +kernel
theorem dX7_takeAway_16 : decode cX7_takeAway 16 = .ok (.aload_n 0, 1) := by decide +kernel
theorem dX7_takeAway_17 : decode cX7_takeAway 17 = .ok (.getfield 19, 3) := by decide +kernel
theorem dX7_takeAway_20 : decode cX7_takeAway 20 = .ok (.aload_n 0, 1) := by decide +kernel
theorem dX7_takeAway_21 : decode cX7_takeAway 21 = .ok (.getfield 10, 3) := by decide +kernel
theorem dX7_takeAway_24 : decode cX7_takeAway 24 = .ok (.invokevirtual 55, 3) := by decide +kernel
theorem dX7_takeAway_27 : decode cX7_takeAway 27 = .ok (.aload_n 0, 1) := by decide +kernel
theorem dX7_takeAway_28 : decode cX7_takeAway 28 = .ok (.getfield 10, 3) := by decide +kernel
theorem dX7_takeAway_31 : decode cX7_takeAway 31 = .ok (.iload_n 1, 1) := by decide +kernel
theorem dX7_takeAway_32 : decode cX7_takeAway 32 = .ok (.invokevirtual 80, 3) := by decide +kernel
theorem dX7_takeAway_35 : decode cX7_takeAway 35 = .ok (.ireturn, 1) := by decide +kernel
theorem dX7_hoop_0 : decode cX7_hoop 0 = .ok (.iload_n 1, 1) := by decide +kernel
theorem dX7_hoop_1 : decode cX7_hoop 1 = .ok (.invokestatic 84, 3) := by decide +kernel
theorem dX7_hoop_4 : decode cX7_hoop 4 = .ok (.ifCond .ne 6, 3) := by decide +kernel
theorem dX7_hoop_7 : decode cX7_hoop 7 = .ok (.bipush (-2), 2) := by decide +kernel
theorem dX7_hoop_9 : decode cX7_hoop 9 = .ok (.ireturn, 1) := by decide +kernel
theorem dX7_hoop_10 : decode cX7_hoop 10 = .ok (.aload_n 0, 1) := by decide +kernel
theorem dX7_hoop_11 : decode cX7_hoop 11 = .ok (.getfield 19, 3) := by decide +kernel
theorem dX7_hoop_14 : decode cX7_hoop 14 = .ok (.aload_n 0, 1) := by decide +kernel
theorem dX7_hoop_15 : decode cX7_hoop 15 = .ok (.getfield 10, 3) := by decide +kernel
theorem dX7_hoop_18 : decode cX7_hoop 18 = .ok (.invokevirtual 55, 3) := by decide +kernel
theorem dX7_hoop_21 : decode cX7_hoop 21 = .ok (.aload_n 0, 1) := by decide +kernel
theorem dX7_hoop_22 : decode cX7_hoop 22 = .ok (.getfield 10, 3) := by decide +kernel
theorem dX7_hoop_25 : decode cX7_hoop 25 = .ok (.iload_n 1, 1) := by decide +kernel
theorem dX7_hoop_26 : decode cX7_hoop 26 = .ok (.invokevirtual 86, 3) := by decide +kernel
theorem dX7_hoop_29 : decode cX7_hoop 29 = .ok (.ireturn, 1) := by decide +kernel
theorem dX7_roll_0 : decode cX7_roll 0 = .ok (.aload_n 0, 1) := by decide +kernel
theorem dX7_roll_1 : decode cX7_roll 1 = .ok (.getfield 10, 3) := by decide +kernel
theorem dX7_roll_4 : decode cX7_roll 4 = .ok (.iload_n 1, 1) := by decide +kernel
theorem dX7_roll_5 : decode cX7_roll 5 = .ok (.invokevirtual 89, 3) := by decide +kernel
theorem dX7_roll_8 : decode cX7_roll 8 = .ok (.istore_n 2, 1) := by decide +kernel
theorem dX7_roll_9 : decode cX7_roll 9 = .ok (.iload_n 2, 1) := by decide +kernel
theorem dX7_roll_10 : decode cX7_roll 10 = .ok (.ifCond .eq 5, 3) := by decide +kernel
theorem dX7_roll_13 : decode cX7_roll 13 = .ok (.iload_n 2, 1) := by decide +kernel
theorem dX7_roll_14 : decode cX7_roll 14 = .ok (.ireturn, 1) := by decide +kernel
theorem dX7_roll_15 : decode cX7_roll 15 = .ok (.aload_n 0, 1) := by decide +kernel
theorem dX7_roll_16 : decode cX7_roll 16 = .ok (.getfield 19, 3) := by decide +kernel
theorem dX7_roll_19 : decode cX7_roll 19 = .ok (.aload_n 0, 1) := by decide +kernel
theorem dX7_roll_20 : decode cX7_roll 20 = .ok (.getfield 10, 3) := by decide +kernel
theorem dX7_roll_23 : decode cX7_roll 23 = .ok (.invokevirtual 55, 3) := by decide +kernel
theorem dX7_roll_26 : decode cX7_roll 26 = .ok (.aload_n 0, 1) := by decide +kernel
theorem dX7_roll_27 : decode cX7_roll 27 = .ok (.getfield 10, 3) := by decide +kernel
theorem dX7_roll_30 : decode cX7_roll 30 = .ok (.iload_n 1, 1) := by decide +kernel
theorem dX7_roll_31 : decode cX7_roll 31 = .ok (.invokevirtual 92, 3) := by decide +kernel
theorem dX7_roll_34 : decode cX7_roll 34 = .ok (.ireturn, 1) := by decide +kernel
theorem dX7_tap_0 : decode cX7_tap 0 = .ok (.aload_n 0, 1) := by decide +kernel
theorem dX7_tap_1 : decode cX7_tap 1 = .ok (.getfield 10, 3) := by decide +kernel
theorem dX7_tap_4 : decode cX7_tap 4 = .ok (.iload_n 1, 1) := by decide +kernel
theorem dX7_tap_5 : decode cX7_tap 5 = .ok (.invokevirtual 95, 3) := by decide +kernel
theorem dX7_tap_8 : decode cX7_tap 8 = .ok (.istore_n 2, 1) := by decide +kernel
theorem dX7_tap_9 : decode cX7_tap 9 = .ok (.iload_n 2, 1) := by decide +kernel
theorem dX7_tap_10 : decode cX7_tap 10 = .ok (.ifCond .eq 5, 3) := by decide +kernel
theorem dX7_tap_13 : decode cX7_tap 13 = .ok (.iload_n 2, 1) := by decide +kernel
theorem dX7_tap_14 : decode cX7_tap 14 = .ok (.ireturn, 1) := by decide +kernel
theorem dX7_tap_15 : decode cX7_tap 15 = .ok (.aload_n 0, 1) := by decide +kernel
theorem dX7_tap_16 : decode cX7_tap 16 = .ok (.getfield 19, 3) := by decide +kernel
theorem dX7_tap_19 : decode cX7_tap 19 = .ok (.aload_n 0, 1) := by decide +kernel
theorem dX7_tap_20 : decode cX7_tap 20 = .ok (.getfield 10, 3) := by decide +kernel
theorem dX7_tap_23 : decode cX7_tap 23 = .ok (.invokevirtual 55, 3) := by decide +kernel
theorem dX7_tap_26 : decode cX7_tap 26 = .ok (.aload_n 0, 1) := by decide +kernel
theorem dX7_tap_27 : decode cX7_tap 27 = .ok (.getfield 10, 3) := by decide +kernel
theorem dX7_tap_30 : decode cX7_tap 30 = .ok (.iload_n 1, 1) := by decide +kernel
theorem dX7_tap_31 : decode cX7_tap 31 = .ok (.invokevirtual 98, 3) := by decide +kernel
theorem dX7_tap_34 : decode cX7_tap 34 = .ok (.ireturn, 1) := by decide +kernel
theorem dX7_push_0 : decode cX7_push 0 = .ok (.aload_n 0, 1) := by decide +kernel
theorem dX7_push_1 : decode cX7_push 1 = .ok (.getfield 10, 3) := by decide +kernel
theorem dX7_push_4 : decode cX7_push 4 = .ok (.invokevirtual 101, 3) := by decide +kernel
theorem dX7_push_7 : decode cX7_push 7 = .ok (.istore_n 1, 1) := by decide +kernel
theorem dX7_push_8 : decode cX7_push 8 = .ok (.iload_n 1, 1) := by decide +kernel
theorem dX7_push_9 : decode cX7_push 9 = .ok (.ifCond .eq 5, 3) := by decide +kernel
theorem dX7_push_12 : decode cX7_push 12 = .ok (.iload_n 1, 1) := by decide +kernel
theorem dX7_push_13 : decode cX7_push 13 = .ok (.ireturn, 1) := by decide +kernel
theorem dX7_push_14 : decode cX7_push 14 = .ok (.aload_n 0, 1) := by decide +kernel
theorem dX7_push_15 : decode cX7_push 15 = .ok (.getfield 19, 3) := by decide +kernel
theorem dX7_push_18 : decode cX7_push 18 = .ok (.aload_n 0, 1) := by decide +kernel
theorem dX7_push_19 : decode cX7_push 19 = .ok (.getfield 10, 3) := by decide +kernel
theorem dX7_push_22 : decode cX7_push 22 = .ok (.invokevirtual 55, 3) := by decide +kernel
theorem dX7_push_25 : decode cX7_push 25 = .ok (.aload_n 0, 1) := by decide +kernel
theorem dX7_push_26 : decode cX7_push 26 = .ok (.getfield 10, 3) := by decide +kernel
theorem dX7_push_29 : decode cX7_push 29 = .ok (.invokevirtual 105, 3) := by decide +kernel
theorem dX7_push_32 : decode cX7_push 32 = .ok (.ireturn, 1) := by decide +kernel
theorem dX7_of_0 : decode cX7_of 0 = .ok (.aload_n 0, 1) := by decide +kernel
theorem dX7_of_1 : decode cX7_of 1 = .ok (.getfield 10, 3) := by decide +kernel
theorem dX7_of_4 : decode cX7_of 4 = .ok (.getfield 70, 3) := by decide +kernel
theorem dX7_of_7 : decode cX7_of 7 = .ok (.iload_n 1, 1) := by decide +kernel
theorem dX7_of_8 : decode cX7_of 8 = .ok (.invokevirtual 74, 3) := by decide +kernel
theorem dX7_of_11 : decode cX7_of 11 = .ok (.ifCond .ne 5, 3) := by decide +kernel
theorem dX7_of_14 : decode cX7_of 14 = .ok (.iconst (-1), 1) := by decide +kernel
theorem dX7_of_15 : decode cX7_of 15 = .ok (.ireturn, 1) := by decide +kernel
theorem dX7_of_16 : decode cX7_of 16 = .ok (.iload_n 2, 1) := by decide +kernel
theorem dX7_of_17 : decode cX7_of 17 = .ok (.ifCond .lt 8, 3) := by decide +kernel
theorem dX7_of_20 : decode cX7_of 20 = .ok (.iload_n 2, 1) := by decide +kernel
theorem dX7_of_21 : decode cX7_of 21 = .ok (.iconst 5, 1) := by decide +kernel
theorem dX7_of_22 : decode cX7_of 22 = .ok (.if_icmp .lt 6, 3) := by decide +kernel
theorem dX7_of_25 : decode cX7_of 25 = .ok (.bipush (-2), 2) := by decide +kernel
theorem dX7_of_27 : decode cX7_of 27 = .ok (.ireturn, 1) := by decide +kernel
theorem dX7_of_28 : decode cX7_of 28 = .ok (.aload_n 0, 1) := by decide +kernel
theorem dX7_of_29 : decode cX7_of 29 = .ok (.getfield 10, 3) := by decide +kernel
theorem dX7_of_32 : decode cX7_of 32 = .ok (.getfield 70, 3) := by decide +kernel
theorem dX7_of_35 : decode cX7_of 35 = .ok (.iload_n 1, 1) := by decide +kernel
theorem dX7_of_36 : decode cX7_of 36 = .ok (.iload_n 2, 1) := by decide +kernel
theorem dX7_of_37 : decode cX7_of 37 = .ok (.invokevirtual 108, 3) := by decide +kernel
theorem dX7_of_40 : decode cX7_of 40 = .ok (.ireturn, 1) := by decide +kernel
theorem dX7_ofHoop_0 : decode cX7_ofHoop 0 = .ok (.iload_n 1, 1) := by decide +kernel
theorem dX7_ofHoop_1 : decode cX7_ofHoop 1 = .ok (.ifCond .lt 9, 3) := by decide +kernel
theorem dX7_ofHoop_4 : decode cX7_ofHoop 4 = .ok (.iload_n 1, 1) := by decide +kernel
theorem dX7_ofHoop_5 : decode cX7_ofHoop 5 = .ok (.bipush 7, 2) := by decide +kernel
theorem dX7_ofHoop_7 : decode cX7_ofHoop 7 = .ok (.if_icmp .le 6, 3) := by decide +kernel
theorem dX7_ofHoop_10 : decode cX7_ofHoop 10 = .ok (.bipush (-2), 2) := by decide +kernel
theorem dX7_ofHoop_12 : decode cX7_ofHoop 12 = .ok (.ireturn, 1) := by decide +kernel
theorem dX7_ofHoop_13 : decode cX7_ofHoop 13 = .ok (.aload_n 0, 1) := by decide +kernel
theorem dX7_ofHoop_14 : decode cX7_ofHoop 14 = .ok (.getfield 10, 3) := by decide +kernel
theorem dX7_ofHoop_17 : decode cX7_ofHoop 17 = .ok (.getfield 111, 3) := by decide +kernel
theorem dX7_ofHoop_20 : decode cX7_ofHoop 20 = .ok (.getfield 114, 3) := by decide +kernel
theorem dX7_ofHoop_23 : decode cX7_ofHoop 23 = .ok (.ifCond .ne 6, 3) := by decide +kernel
theorem dX7_ofHoop_26 : decode cX7_ofHoop 26 = .ok (.bipush (-6), 2) := by decide +kernel
theorem dX7_ofHoop_28 : decode cX7_ofHoop 28 = .ok (.ireturn, 1) := by decide +kernel
theorem dX7_ofHoop_29 : decode cX7_ofHoop 29 = .ok (.aload_n 0, 1) := by decide +kernel
theorem dX7_ofHoop_30 : decode cX7_ofHoop 30 = .ok (.getfield 10, 3) := by decide +kernel
theorem dX7_ofHoop_33 : decode cX7_ofHoop 33 = .ok (.getfield 111, 3) := by decide +kernel
theorem dX7_ofHoop_36 : decode cX7_ofHoop 36 = .ok (.iload_n 1, 1) := by decide +kernel
theorem dX7_ofHoop_37 : decode cX7_ofHoop 37 = .ok (.invokestatic 118, 3) := by decide +kernel
theorem dX7_ofHoop_40 : decode cX7_ofHoop 40 = .ok (.ireturn, 1) := by decide +kernel
theorem dX7_run_0 : decode cX7_run 0 = .ok (.aload_n 0, 1) := by decide +kernel
theorem dX7_run_1 : decode cX7_run 1 = .ok (.getfield 10, 3) := by decide +kernel
theorem dX7_run_4 : decode cX7_run 4 = .ok (.getfield 122, 3) := by decide +kernel
theorem dX7_run_7 : decode cX7_run 7 = .ok (.iload_n 1, 1) := by decide +kernel
theorem dX7_run_8 : decode cX7_run 8 = .ok (.invokevirtual 126, 3) := by decide +kernel
theorem dX7_run_11 : decode cX7_run 11 = .ok (.ifCond .ne 5, 3) := by decide +kernel
theorem dX7_run_14 : decode cX7_run 14 = .ok (.iconst (-1), 1) := by decide +kernel
theorem dX7_run_15 : decode cX7_run 15 = .ok (.ireturn, 1) := by decide +kernel
theorem dX7_run_16 : decode cX7_run 16 = .ok (.iload_n 2, 1) := by decide +kernel
theorem dX7_run_17 : decode cX7_run 17 = .ok (.ifCond .lt 8, 3) := by decide +kernel
theorem dX7_run_20 : decode cX7_run 20 = .ok (.iload_n 2, 1) := by decide +kernel
theorem dX7_run_21 : decode cX7_run 21 = .ok (.iconst 4, 1) := by decide +kernel
theorem dX7_run_22 : decode cX7_run 22 = .ok (.if_icmp .lt 6, 3) := by decide +kernel
theorem dX7_run_25 : decode cX7_run 25 = .ok (.bipush (-2), 2) := by decide +kernel
theorem dX7_run_27 : decode cX7_run 27 = .ok (.ireturn, 1) := by decide +kernel
theorem dX7_run_28 : decode cX7_run 28 = .ok (.aload_n 0, 1) := by decide +kernel
theorem dX7_run_29 : decode cX7_run 29 = .ok (.getfield 10, 3) := by decide +kernel
theorem dX7_run_32 : decode cX7_run 32 = .ok (.getfield 122, 3) := by decide +kernel
theorem dX7_run_35 : decode cX7_run 35 = .ok (.iload_n 1, 1) := by decide +kernel
theorem dX7_run_36 : decode cX7_run 36 = .ok (.iload_n 2, 1) := by decide +kernel
theorem dX7_run_37 : decode cX7_run 37 = .ok (.invokevirtual 129, 3) := by decide +kernel
theorem dX7_run_40 : decode cX7_run 40 = .ok (.ireturn, 1) := by decide +kernel
theorem dX7_count_0 : decode cX7_count 0 = .ok (.iload_n 1, 1) := by decide +kernel
theorem dX7_count_1 : decode cX7_count 1 = .ok (.ifCond .lt 9, 3) := by decide +kernel
theorem dX7_count_4 : decode cX7_count 4 = .ok (.iload_n 1, 1) := by decide +kernel
theorem dX7_count_5 : decode cX7_count 5 = .ok (.bipush 15, 2) := by decide +kernel
theorem dX7_count_7 : decode cX7_count 7 = .ok (.if_icmp .le 6, 3) := by decide +kernel
theorem dX7_count_10 : decode cX7_count 10 = .ok (.bipush (-2), 2) := by decide +kernel
theorem dX7_count_12 : decode cX7_count 12 = .ok (.ireturn, 1) := by decide +kernel
theorem dX7_count_13 : decode cX7_count 13 = .ok (.iload_n 1, 1) := by decide +kernel
theorem dX7_count_14 : decode cX7_count 14 = .ok (.bipush 14, 2) := by decide +kernel
theorem dX7_count_16 : decode cX7_count 16 = .ok (.if_icmp .ne 11, 3) := by decide +kernel
theorem dX7_count_19 : decode cX7_count 19 = .ok (.aload_n 0, 1) := by decide +kernel
theorem dX7_count_20 : decode cX7_count 20 = .ok (.getfield 34, 3) := by decide +kernel
theorem dX7_count_23 : decode cX7_count 23 = .ok (.getfield 130, 3) := by decide +kernel
theorem dX7_count_26 : decode cX7_count 26 = .ok (.ireturn, 1) := by decide +kernel
theorem dX7_count_27 : decode cX7_count 27 = .ok (.iload_n 1, 1) := by decide +kernel
theorem dX7_count_28 : decode cX7_count 28 = .ok (.bipush 15, 2) := by decide +kernel
theorem dX7_count_30 : decode cX7_count 30 = .ok (.if_icmp .ne 11, 3) := by decide +kernel
theorem dX7_count_33 : decode cX7_count 33 = .ok (.aload_n 0, 1) := by decide +kernel
theorem dX7_count_34 : decode cX7_count 34 = .ok (.getfield 19, 3) := by decide +kernel
theorem dX7_count_37 : decode cX7_count 37 = .ok (.getfield 134, 3) := by decide +kernel
theorem dX7_count_40 : decode cX7_count 40 = .ok (.ireturn, 1) := by decide +kernel
theorem dX7_count_41 : decode cX7_count 41 = .ok (.iload_n 1, 1) := by decide +kernel
theorem dX7_count_42 : decode cX7_count 42 = .ok (.bipush 10, 2) := by decide +kernel
theorem dX7_count_44 : decode cX7_count 44 = .ok (.if_icmp .lt 18, 3) := by decide +kernel
theorem dX7_count_47 : decode cX7_count 47 = .ok (.aload_n 0, 1) := by decide +kernel
theorem dX7_count_48 : decode cX7_count 48 = .ok (.getfield 10, 3) := by decide +kernel
theorem dX7_count_51 : decode cX7_count 51 = .ok (.getfield 45, 3) := by decide +kernel
theorem dX7_count_54 : decode cX7_count 54 = .ok (.iload_n 1, 1) := by decide +kernel
theorem dX7_count_55 : decode cX7_count 55 = .ok (.bipush 10, 2) := by decide +kernel
theorem dX7_count_57 : decode cX7_count 57 = .ok (.isub, 1) := by decide +kernel
theorem dX7_count_58 : decode cX7_count 58 = .ok (.invokevirtual 135, 3) := by decide +kernel
theorem dX7_count_61 : decode cX7_count 61 = .ok (.ireturn, 1) := by decide +kernel
theorem dX7_count_62 : decode cX7_count 62 = .ok (.aload_n 0, 1) := by decide +kernel
theorem dX7_count_63 : decode cX7_count 63 = .ok (.getfield 10, 3) := by decide +kernel
theorem dX7_count_66 : decode cX7_count 66 = .ok (.iload_n 1, 1) := by decide +kernel
theorem dX7_count_67 : decode cX7_count 67 = .ok (.invokevirtual 138, 3) := by decide +kernel
theorem dX7_count_70 : decode cX7_count 70 = .ok (.ireturn, 1) := by decide +kernel
theorem dX7_aboutHoop_0 : decode cX7_aboutHoop 0 = .ok (.iload_n 1, 1) := by decide +kernel
theorem dX7_aboutHoop_1 : decode cX7_aboutHoop 1 = .ok (.tableswitch 82 0 6 #[43, 48, 53, 62, 67, 72, 77], 43) := by decide +kernel
theorem dX7_aboutHoop_44 : decode cX7_aboutHoop 44 = .ok (.aload_n 0, 1) := by decide +kernel
theorem dX7_aboutHoop_45 : decode cX7_aboutHoop 45 = .ok (.getfield 141, 3) := by decide +kernel
theorem dX7_aboutHoop_48 : decode cX7_aboutHoop 48 = .ok (.ireturn, 1) := by decide +kernel
theorem dX7_aboutHoop_49 : decode cX7_aboutHoop 49 = .ok (.aload_n 0, 1) := by decide +kernel
theorem dX7_aboutHoop_50 : decode cX7_aboutHoop 50 = .ok (.getfield 144, 3) := by decide +kernel
theorem dX7_aboutHoop_53 : decode cX7_aboutHoop 53 = .ok (.ireturn, 1) := by decide +kernel
theorem dX7_aboutHoop_54 : decode cX7_aboutHoop 54 = .ok (.aload_n 0, 1) := by decide +kernel
theorem dX7_aboutHoop_55 : decode cX7_aboutHoop 55 = .ok (.getfield 147, 3) := by decide +kernel
theorem dX7_aboutHoop_58 : decode cX7_aboutHoop 58 = .ok (.sipush 500, 3) := by decide +kernel
theorem dX7_aboutHoop_61 : decode cX7_aboutHoop 61 = .ok (.iadd, 1) := by decide +kernel
theorem dX7_aboutHoop_62 : decode cX7_aboutHoop 62 = .ok (.ireturn, 1) := by decide +kernel
theorem dX7_aboutHoop_63 : decode cX7_aboutHoop 63 = .ok (.aload_n 0, 1) := by decide +kernel
theorem dX7_aboutHoop_64 : decode cX7_aboutHoop 64 = .ok (.getfield 150, 3) := by decide +kernel
theorem dX7_aboutHoop_67 : decode cX7_aboutHoop 67 = .ok (.ireturn, 1) := by decide +kernel
theorem dX7_aboutHoop_68 : decode cX7_aboutHoop 68 = .ok (.aload_n 0, 1) := by decide +kernel
theorem dX7_aboutHoop_69 : decode cX7_aboutHoop 69 = .ok (.getfield 153, 3) := by decide +kernel
theorem dX7_aboutHoop_72 : decode cX7_aboutHoop 72 = .ok (.ireturn, 1) := by decide +kernel
theorem dX7_aboutHoop_73 : decode cX7_aboutHoop 73 = .ok (.aload_n 0, 1) := by decide +kernel
theorem dX7_aboutHoop_74 : decode cX7_aboutHoop 74 = .ok (.getfield 156, 3) := by decide +kernel
theorem dX7_aboutHoop_77 : decode cX7_aboutHoop 77 = .ok (.ireturn, 1) := by decide +kernel
theorem dX7_aboutHoop_78 : decode cX7_aboutHoop 78 = .ok (.aload_n 0, 1) := by decide +kernel
theorem dX7_aboutHoop_79 : decode cX7_aboutHoop 79 = .ok (.getfield 159, 3) := by decide +kernel
theorem dX7_aboutHoop_82 : decode cX7_aboutHoop 82 = .ok (.ireturn, 1) := by decide +kernel
theorem dX7_aboutHoop_83 : decode cX7_aboutHoop 83 = .ok (.aload_n 0, 1) := by decide +kernel
theorem dX7_aboutHoop_84 : decode cX7_aboutHoop 84 = .ok (.getfield 162, 3) := by decide +kernel
theorem dX7_aboutHoop_87 : decode cX7_aboutHoop 87 = .ok (.ireturn, 1) := by decide +kernel
theorem dX7_ifRolled_0 : decode cX7_ifRolled 0 = .ok (.iload_n 1, 1) := by decide +kernel
theorem dX7_ifRolled_1 : decode cX7_ifRolled 1 = .ok (.ifCond .lt 8, 3) := by decide +kernel
theorem dX7_ifRolled_4 : decode cX7_ifRolled 4 = .ok (.iload_n 1, 1) := by decide +kernel
theorem dX7_ifRolled_5 : decode cX7_ifRolled 5 = .ok (.iconst 3, 1) := by decide +kernel
theorem dX7_ifRolled_6 : decode cX7_ifRolled 6 = .ok (.if_icmp .le 6, 3) := by decide +kernel
theorem dX7_ifRolled_9 : decode cX7_ifRolled 9 = .ok (.bipush (-2), 2) := by decide +kernel
theorem dX7_ifRolled_11 : decode cX7_ifRolled 11 = .ok (.ireturn, 1) := by decide +kernel
theorem dX7_ifRolled_12 : decode cX7_ifRolled 12 = .ok (.aload_n 0, 1) := by decide +kernel
theorem dX7_ifRolled_13 : decode cX7_ifRolled 13 = .ok (.getfield 10, 3) := by decide +kernel
theorem dX7_ifRolled_16 : decode cX7_ifRolled 16 = .ok (.getfield 111, 3) := by decide +kernel
theorem dX7_ifRolled_19 : decode cX7_ifRolled 19 = .ok (.invokevirtual 165, 3) := by decide +kernel
theorem dX7_ifRolled_22 : decode cX7_ifRolled 22 = .ok (.ifCond .ne 6, 3) := by decide +kernel
theorem dX7_ifRolled_25 : decode cX7_ifRolled 25 = .ok (.bipush (-5), 2) := by decide +kernel
theorem dX7_ifRolled_27 : decode cX7_ifRolled 27 = .ok (.ireturn, 1) := by decide +kernel
theorem dX7_ifRolled_28 : decode cX7_ifRolled 28 = .ok (.aload_n 0, 1) := by decide +kernel
theorem dX7_ifRolled_29 : decode cX7_ifRolled 29 = .ok (.getfield 41, 3) := by decide +kernel
theorem dX7_ifRolled_32 : decode cX7_ifRolled 32 = .ok (.aload_n 0, 1) := by decide +kernel
theorem dX7_ifRolled_33 : decode cX7_ifRolled 33 = .ok (.getfield 10, 3) := by decide +kernel
theorem dX7_ifRolled_36 : decode cX7_ifRolled 36 = .ok (.getfield 111, 3) := by decide +kernel
theorem dX7_ifRolled_39 : decode cX7_ifRolled 39 = .ok (.invokevirtual 169, 3) := by decide +kernel
theorem dX7_ifRolled_42 : decode cX7_ifRolled 42 = .ok (.aload_n 0, 1) := by decide +kernel
theorem dX7_ifRolled_43 : decode cX7_ifRolled 43 = .ok (.getfield 41, 3) := by decide +kernel
theorem dX7_ifRolled_46 : decode cX7_ifRolled 46 = .ok (.iconst 0, 1) := by decide +kernel
theorem dX7_ifRolled_47 : decode cX7_ifRolled 47 = .ok (.putfield 173, 3) := by decide +kernel
theorem dX7_ifRolled_50 : decode cX7_ifRolled 50 = .ok (.aload_n 0, 1) := by decide +kernel
theorem dX7_ifRolled_51 : decode cX7_ifRolled 51 = .ok (.getfield 41, 3) := by decide +kernel
theorem dX7_ifRolled_54 : decode cX7_ifRolled 54 = .ok (.bipush 20, 2) := by decide +kernel
theorem dX7_ifRolled_56 : decode cX7_ifRolled 56 = .ok (.aload_n 0, 1) := by decide +kernel
theorem dX7_ifRolled_57 : decode cX7_ifRolled 57 = .ok (.getfield 10, 3) := by decide +kernel
theorem dX7_ifRolled_60 : decode cX7_ifRolled 60 = .ok (.getfield 70, 3) := by decide +kernel
theorem dX7_ifRolled_63 : decode cX7_ifRolled 63 = .ok (.aload_n 0, 1) := by decide +kernel
theorem dX7_ifRolled_64 : decode cX7_ifRolled 64 = .ok (.getfield 10, 3) := by decide +kernel
theorem dX7_ifRolled_67 : decode cX7_ifRolled 67 = .ok (.getfield 45, 3) := by decide +kernel
theorem dX7_ifRolled_70 : decode cX7_ifRolled 70 = .ok (.invokevirtual 176, 3) := by decide +kernel
theorem dX7_ifRolled_73 : decode cX7_ifRolled 73 = .ok (.iload_n 1, 1) := by decide +kernel
theorem dX7_ifRolled_74 : decode cX7_ifRolled 74 = .ok (.tableswitch 50 0 2 #[26, 34, 42], 26) := by decide +kernel
theorem dX7_ifRolled_100 : decode cX7_ifRolled 100 = .ok (.aload_n 0, 1) := by decide +kernel
theorem dX7_ifRolled_101 : decode cX7_ifRolled 101 = .ok (.getfield 41, 3) := by decide +kernel
theorem dX7_ifRolled_104 : decode cX7_ifRolled 104 = .ok (.getfield 156, 3) := by decide +kernel
theorem dX7_ifRolled_107 : decode cX7_ifRolled 107 = .ok (.ireturn, 1) := by decide +kernel
theorem dX7_ifRolled_108 : decode cX7_ifRolled 108 = .ok (.aload_n 0, 1) := by decide +kernel
theorem dX7_ifRolled_109 : decode cX7_ifRolled 109 = .ok (.getfield 41, 3) := by decide +kernel
theorem dX7_ifRolled_112 : decode cX7_ifRolled 112 = .ok (.getfield 153, 3) := by decide +kernel
theorem dX7_ifRolled_115 : decode cX7_ifRolled 115 = .ok (.ireturn, 1) := by decide +kernel
theorem dX7_ifRolled_116 : decode cX7_ifRolled 116 = .ok (.aload_n 0, 1) := by decide +kernel
theorem dX7_ifRolled_117 : decode cX7_ifRolled 117 = .ok (.getfield 41, 3) := by decide +kernel
theorem dX7_ifRolled_120 : decode cX7_ifRolled 120 = .ok (.getfield 144, 3) := by decide +kernel
theorem dX7_ifRolled_123 : decode cX7_ifRolled 123 = .ok (.ireturn, 1) := by decide +kernel
theorem dX7_ifRolled_124 : decode cX7_ifRolled 124 = .ok (.aload_n 0, 1) := by decide +kernel
theorem dX7_ifRolled_125 : decode cX7_ifRolled 125 = .ok (.getfield 41, 3) := by decide +kernel
theorem dX7_ifRolled_128 : decode cX7_ifRolled 128 = .ok (.getfield 173, 3) := by decide +kernel
theorem dX7_ifRolled_131 : decode cX7_ifRolled 131 = .ok (.ireturn, 1) := by decide +kernel
theorem dX7_widest_0 : decode cX7_widest 0 = .ok (.bipush 60, 2) := by decide +kernel
theorem dX7_widest_2 : decode cX7_widest 2 = .ok (.istore_n 1, 1) := by decide +kernel
theorem dX7_widest_3 : decode cX7_widest 3 = .ok (.iload_n 1, 1) := by decide +kernel
theorem dX7_widest_4 : decode cX7_widest 4 = .ok (.iconst 1, 1) := by decide +kernel
theorem dX7_widest_5 : decode cX7_widest 5 = .ok (.if_icmp .lt 53, 3) := by decide +kernel
theorem dX7_widest_8 : decode cX7_widest 8 = .ok (.aload_n 0, 1) := by decide +kernel
theorem dX7_widest_9 : decode cX7_widest 9 = .ok (.getfield 41, 3) := by decide +kernel
theorem dX7_widest_12 : decode cX7_widest 12 = .ok (.iload_n 1, 1) := by decide +kernel
theorem dX7_widest_13 : decode cX7_widest 13 = .ok (.invokevirtual 179, 3) := by decide +kernel
theorem dX7_widest_16 : decode cX7_widest 16 = .ok (.aload_n 0, 1) := by decide +kernel
theorem dX7_widest_17 : decode cX7_widest 17 = .ok (.getfield 41, 3) := by decide +kernel
theorem dX7_widest_20 : decode cX7_widest 20 = .ok (.bipush 20, 2) := by decide +kernel
theorem dX7_widest_22 : decode cX7_widest 22 = .ok (.aload_n 0, 1) := by decide +kernel
theorem dX7_widest_23 : decode cX7_widest 23 = .ok (.getfield 10, 3) := by decide +kernel
theorem dX7_widest_26 : decode cX7_widest 26 = .ok (.getfield 70, 3) := by decide +kernel
theorem dX7_widest_29 : decode cX7_widest 29 = .ok (.aload_n 0, 1) := by decide +kernel
theorem dX7_widest_30 : decode cX7_widest 30 = .ok (.getfield 10, 3) := by decide +kernel
theorem dX7_widest_33 : decode cX7_widest 33 = .ok (.getfield 45, 3) := by decide +kernel
theorem dX7_widest_36 : decode cX7_widest 36 = .ok (.invokevirtual 176, 3) := by decide +kernel
theorem dX7_widest_39 : decode cX7_widest 39 = .ok (.aload_n 0, 1) := by decide +kernel
theorem dX7_widest_40 : decode cX7_widest 40 = .ok (.getfield 41, 3) := by decide +kernel
theorem dX7_widest_43 : decode cX7_widest 43 = .ok (.getfield 156, 3) := by decide +kernel
theorem dX7_widest_46 : decode cX7_widest 46 = .ok (.iconst 4, 1) := by decide +kernel
theorem dX7_widest_47 : decode cX7_widest 47 = .ok (.if_icmp .ne 5, 3) := by decide +kernel
theorem dX7_widest_50 : decode cX7_widest 50 = .ok (.iload_n 1, 1) := by decide +kernel
theorem dX7_widest_51 : decode cX7_widest 51 = .ok (.ireturn, 1) := by decide +kernel
theorem dX7_widest_52 : decode cX7_widest 52 = .ok (.iinc 1 (-1), 3) := by decide +kernel
theorem dX7_widest_55 : decode cX7_widest 55 = .ok (.goto (-52), 3) := by decide +kernel
