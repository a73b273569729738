/-! decode rows -/
theorem dX0_init_0 : decode cX0_init 0 = .ok (.aload_n 0, 1) := by decide +kernel
theorem dX0_init_1 : decode cX0_init 1 = .ok (.invokespecial 1, 3) := by decide +kernel
theorem dX0_init_4 : decode cX0_init 4 = .ok (.aload_n 0, 1) := by decide +kernel
theorem dX0_init_5 : decode cX0_init 5 = .ok (.bipush 6, 2) := by decide +kernel
theorem dX0_init_7 : decode cX0_init 7 = .ok (.anewarray 9, 3) := by decide +kernel
theorem dX0_init_10 : decode cX0_init 10 = .ok (.putfield 11, 3) := by decide +kernel
theorem dX0_init_13 : decode cX0_init 13 = .ok (.iconst 0, 1) := by decide +kernel
theorem dX0_init_14 : decode cX0_init 14 = .ok (.istore_n 1, 1) := by decide +kernel
theorem dX0_init_15 : decode cX0_init 15 = .ok (.iload_n 1, 1) := by decide +kernel
theorem dX0_init_16 : decode cX0_init 16 = .ok (.bipush 6, 2) := by decide +kernel
theorem dX0_init_18 : decode cX0_init 18 = .ok (.if_icmp .ge 22, 3) := by decide +kernel
theorem dX0_init_21 : decode cX0_init 21 = .ok (.aload_n 0, 1) := by decide +kernel
theorem dX0_init_22 : decode cX0_init 22 = .ok (.getfield 11, 3) := by decide +kernel
theorem dX0_init_25 : decode cX0_init 25 = .ok (.iload_n 1, 1) := by decide +kernel
theorem dX0_init_26 : decode cX0_init 26 = .ok (.new 9, 3) := by decide +kernel
theorem dX0_init_29 : decode cX0_init 29 = .ok (.dup, 1) := by decide +kernel
theorem dX0_init_30 : decode cX0_init 30 = .ok (.invokespecial 15, 3) := by decide +kernel
theorem dX0_init_33 : decode cX0_init 33 = .ok (.aastore, 1) := by decide +kernel
theorem dX0_init_34 : decode cX0_init 34 = .ok (.iinc 1 1, 3) := by decide +kernel
theorem dX0_init_37 : decode cX0_init 37 = .ok (.goto (-22), 3) := by decide +kernel
theorem dX0_init_40 : decode cX0_init 40 = .ok (.aload_n 0, 1) := by decide +kernel
theorem dX0_init_41 : decode cX0_init 41 = .ok (.iconst 0, 1) := by decide +kernel
theorem dX0_init_42 : decode cX0_init 42 = .ok (.putfield 16, 3) := by decide +kernel
theorem dX0_init_45 : decode cX0_init 45 = .ok (.aload_n 0, 1) := by decide +kernel
theorem dX0_init_46 : decode cX0_init 46 = .ok (.iconst 0, 1) := by decide +kernel
theorem dX0_init_47 : decode cX0_init 47 = .ok (.putfield 20, 3) := by decide +kernel
theorem dX0_init_50 : decode cX0_init 50 = .ok (.return_, 1) := by decide +kernel
theorem dX0_record_0 : decode cX0_record 0 = .ok (.aload_n 0, 1) := by decide +kernel
theorem dX0_record_1 : decode cX0_record 1 = .ok (.getfield 16, 3) := by decide +kernel
theorem dX0_record_4 : decode cX0_record 4 = .ok (.invokestatic 23, 3) := by decide +kernel
theorem dX0_record_7 : decode cX0_record 7 = .ok (.ifCond .ne 4, 3) := by decide +kernel
theorem dX0_record_10 : decode cX0_record 10 = .ok (.return_, 1) := by decide +kernel
theorem dX0_record_11 : decode cX0_record 11 = .ok (.aload_n 0, 1) := by decide +kernel
theorem dX0_record_12 : decode cX0_record 12 = .ok (.getfield 11, 3) := by decide +kernel
theorem dX0_record_15 : decode cX0_record 15 = .ok (.aload_n 0, 1) := by decide +kernel
theorem dX0_record_16 : decode cX0_record 16 = .ok (.getfield 16, 3) := by decide +kernel
theorem dX0_record_19 : decode cX0_record 19 = .ok (.aaload, 1) := by decide +kernel
theorem dX0_record_20 : decode cX0_record 20 = .ok (.aload_n 1, 1) := by decide +kernel
theorem dX0_record_21 : decode cX0_record 21 = .ok (.invokevirtual 27, 3) := by decide +kernel
theorem dX0_record_24 : decode cX0_record 24 = .ok (.aload_n 0, 1) := by decide +kernel
theorem dX0_record_25 : decode cX0_record 25 = .ok (.aload_n 0, 1) := by decide +kernel
theorem dX0_record_26 : decode cX0_record 26 = .ok (.getfield 16, 3) := by decide +kernel
theorem dX0_record_29 : decode cX0_record 29 = .ok (.iconst 1, 1) := by decide +kernel
theorem dX0_record_30 : decode cX0_record 30 = .ok (.iadd, 1) := by decide +kernel
theorem dX0_record_31 : decode cX0_record 31 = .ok (.bipush 6, 2) := by decide +kernel
theorem dX0_record_33 : decode cX0_record 33 = .ok (.irem, 1) := by decide +kernel
theorem dX0_record_34 : decode cX0_record 34 = .ok (.putfield 16, 3) := by decide +kernel
theorem dX0_record_37 : decode cX0_record 37 = .ok (.aload_n 0, 1) := by decide +kernel
theorem dX0_record_38 : decode cX0_record 38 = .ok (.bipush 6, 2) := by decide +kernel
theorem dX0_record_40 : decode cX0_record 40 = .ok (.aload_n 0, 1) := by decide +kernel
theorem dX0_record_41 : decode cX0_record 41 = .ok (.getfield 20, 3) := by decide +kernel
theorem dX0_record_44 : decode cX0_record 44 = .ok (.iconst 1, 1) := by decide +kernel
theorem dX0_record_45 : decode cX0_record 45 = .ok (.iadd, 1) := by decide +kernel
theorem dX0_record_46 : decode cX0_record 46 = .ok (.invokestatic 31, 3) := by decide +kernel
theorem dX0_record_49 : decode cX0_record 49 = .ok (.putfield 20, 3) := by decide +kernel
theorem dX0_record_52 : decode cX0_record 52 = .ok (.return_, 1) := by decide +kernel
theorem dX0_stepBack_0 : decode cX0_stepBack 0 = .ok (.aload_n 0, 1) := by decide +kernel
theorem dX0_stepBack_1 : decode cX0_stepBack 1 = .ok (.getfield 16, 3) := by decide +kernel
theorem dX0_stepBack_4 : decode cX0_stepBack 4 = .ok (.bipush 6, 2) := by decide +kernel
theorem dX0_stepBack_6 : decode cX0_stepBack 6 = .ok (.iadd, 1) := by decide +kernel
theorem dX0_stepBack_7 : decode cX0_stepBack 7 = .ok (.iconst 1, 1) := by decide +kernel
theorem dX0_stepBack_8 : decode cX0_stepBack 8 = .ok (.isub, 1) := by decide +kernel
theorem dX0_stepBack_9 : decode cX0_stepBack 9 = .ok (.bipush 6, 2) := by decide +kernel
theorem dX0_stepBack_11 : decode cX0_stepBack 11 = .ok (.irem, 1) := by decide +kernel
theorem dX0_stepBack_12 : decode cX0_stepBack 12 = .ok (.istore_n 2, 1) := by decide +kernel
theorem dX0_stepBack_13 : decode cX0_stepBack 13 = .ok (.aload_n 0, 1) := by decide +kernel
theorem dX0_stepBack_14 : decode cX0_stepBack 14 = .ok (.getfield 20, 3) := by decide +kernel
theorem dX0_stepBack_17 : decode cX0_stepBack 17 = .ok (.ifCond .le 35, 3) := by decide +kernel
theorem dX0_stepBack_20 : decode cX0_stepBack 20 = .ok (.iload_n 2, 1) := by decide +kernel
theorem dX0_stepBack_21 : decode cX0_stepBack 21 = .ok (.invokestatic 23, 3) := by decide +kernel
theorem dX0_stepBack_24 : decode cX0_stepBack 24 = .ok (.ifCond .eq 28, 3) := by decide +kernel
theorem dX0_stepBack_27 : decode cX0_stepBack 27 = .ok (.aload_n 1, 1) := by decide +kernel
theorem dX0_stepBack_28 : decode cX0_stepBack 28 = .ok (.aload_n 0, 1) := by decide +kernel
theorem dX0_stepBack_29 : decode cX0_stepBack 29 = .ok (.getfield 11, 3) := by decide +kernel
theorem dX0_stepBack_32 : decode cX0_stepBack 32 = .ok (.iload_n 2, 1) := by decide +kernel
theorem dX0_stepBack_33 : decode cX0_stepBack 33 = .ok (.aaload, 1) := by decide +kernel
theorem dX0_stepBack_34 : decode cX0_stepBack 34 = .ok (.invokevirtual 27, 3) := by decide +kernel
theorem dX0_stepBack_37 : decode cX0_stepBack 37 = .ok (.aload_n 0, 1) := by decide +kernel
theorem dX0_stepBack_38 : decode cX0_stepBack 38 = .ok (.iload_n 2, 1) := by decide +kernel
theorem dX0_stepBack_39 : decode cX0_stepBack 39 = .ok (.putfield 16, 3) := by decide +kernel
theorem dX0_stepBack_42 : decode cX0_stepBack 42 = .ok (.aload_n 0, 1) := by decide +kernel
theorem dX0_stepBack_43 : decode cX0_stepBack 43 = .ok (.dup, 1) := by decide +kernel
theorem dX0_stepBack_44 : decode cX0_stepBack 44 = .ok (.getfield 20, 3) := by decide +kernel
theorem dX0_stepBack_47 : decode cX0_stepBack 47 = .ok (.iconst 1, 1) := by decide +kernel
theorem dX0_stepBack_48 : decode cX0_stepBack 48 = .ok (.isub, 1) := by decide +kernel
theorem dX0_stepBack_49 : decode cX0_stepBack 49 = .ok (.putfield 20, 3) := by decide +kernel
theorem dX0_stepBack_52 : decode cX0_stepBack 52 = .ok (.aload_n 0, 1) := by decide +kernel
theorem dX0_stepBack_53 : decode cX0_stepBack 53 = .ok (.getfield 20, 3) := by decide +kernel
theorem dX0_stepBack_56 : decode cX0_stepBack 56 = .ok (.ireturn, 1) := by decide +kernel
theorem dX0_has_0 : decode cX0_has 0 = .ok (.iload_n 0, 1) := by decide +kernel
theorem dX0_has_1 : decode cX0_has 1 = .ok (.ifCond .lt 13, 3) := by decide +kernel
theorem dX0_has_4 : decode cX0_has 4 = .ok (.iload_n 0, 1) := by decide +kernel
theorem dX0_has_5 : decode cX0_has 5 = .ok (.bipush 6, 2) := by decide +kernel
theorem dX0_has_7 : decode cX0_has 7 = .ok (.if_icmp .ge 7, 3) := by decide +kernel
theorem dX0_has_10 : decode cX0_has 10 = .ok (.iconst 1, 1) := by decide +kernel
theorem dX0_has_11 : decode cX0_has 11 = .ok (.goto 4, 3) := by decide +kernel
theorem dX0_has_14 : decode cX0_has 14 = .ok (.iconst 0, 1) := by decide +kernel
theorem dX0_has_15 : decode cX0_has 15 = .ok (.ireturn, 1) := by decide +kernel
theorem dX1_init_0 : decode cX1_init 0 = .ok (.aload_n 0, 1) := by decide +kernel
theorem dX1_init_1 : decode cX1_init 1 = .ok (.invokespecial 3, 3) := by decide +kernel
theorem dX1_init_4 : decode cX1_init 4 = .ok (.aload_n 0, 1) := by decide +kernel
theorem dX1_init_5 : decode cX1_init 5 = .ok (.iconst 0, 1) := by decide +kernel
theorem dX1_init_6 : decode cX1_init 6 = .ok (.putfield 9, 3) := by decide +kernel
theorem dX1_init_9 : decode cX1_init 9 = .ok (.return_, 1) := by decide +kernel
theorem dX1_copyFrom_0 : decode cX1_copyFrom 0 = .ok (.aload_n 0, 1) := by decide +kernel
theorem dX1_copyFrom_1 : decode cX1_copyFrom 1 = .ok (.aload_n 1, 1) := by decide +kernel
theorem dX1_copyFrom_2 : decode cX1_copyFrom 2 = .ok (.getfield 9, 3) := by decide +kernel
theorem dX1_copyFrom_5 : decode cX1_copyFrom 5 = .ok (.putfield 9, 3) := by decide +kernel
theorem dX1_copyFrom_8 : decode cX1_copyFrom 8 = .ok (.aload_n 0, 1) := by decide +kernel
theorem dX1_copyFrom_9 : decode cX1_copyFrom 9 = .ok (.aload_n 1, 1) := by decide +kernel
theorem dX1_copyFrom_10 : decode cX1_copyFrom 10 = .ok (.getfield 15, 3) := by decide +kernel
theorem dX1_copyFrom_13 : decode cX1_copyFrom 13 = .ok (.putfield 15, 3) := by decide +kernel
theorem dX1_copyFrom_16 : decode cX1_copyFrom 16 = .ok (.aload_n 0, 1) := by decide +kernel
theorem dX1_copyFrom_17 : decode cX1_copyFrom 17 = .ok (.aload_n 1, 1) := by decide +kernel
theorem dX1_copyFrom_18 : decode cX1_copyFrom 18 = .ok (.getfield 19, 3) := by decide +kernel
theorem dX1_copyFrom_21 : decode cX1_copyFrom 21 = .ok (.putfield 19, 3) := by decide +kernel
theorem dX1_copyFrom_24 : decode cX1_copyFrom 24 = .ok (.aload_n 0, 1) := by decide +kernel
theorem dX1_copyFrom_25 : decode cX1_copyFrom 25 = .ok (.aload_n 1, 1) := by decide +kernel
theorem dX1_copyFrom_26 : decode cX1_copyFrom 26 = .ok (.getfield 22, 3) := by decide +kernel
theorem dX1_copyFrom_29 : decode cX1_copyFrom 29 = .ok (.putfield 22, 3) := by decide +kernel
theorem dX1_copyFrom_32 : decode cX1_copyFrom 32 = .ok (.aload_n 0, 1) := by decide +kernel
theorem dX1_copyFrom_33 : decode cX1_copyFrom 33 = .ok (.aload_n 1, 1) := by decide +kernel
theorem dX1_copyFrom_34 : decode cX1_copyFrom 34 = .ok (.getfield 25, 3) := by decide +kernel
theorem dX1_copyFrom_37 : decode cX1_copyFrom 37 = .ok (.putfield 25, 3) := by decide +kernel
theorem dX1_copyFrom_40 : decode cX1_copyFrom 40 = .ok (.aload_n 0, 1) := by decide +kernel
theorem dX1_copyFrom_41 : decode cX1_copyFrom 41 = .ok (.aload_n 1, 1) := by decide +kernel
theorem dX1_copyFrom_42 : decode cX1_copyFrom 42 = .ok (.getfield 28, 3) := by decide +kernel
theorem dX1_copyFrom_45 : decode cX1_copyFrom 45 = .ok (.putfield 28, 3) := by decide +kernel
theorem dX1_copyFrom_48 : decode cX1_copyFrom 48 = .ok (.aload_n 0, 1) := by decide +kernel
theorem dX1_copyFrom_49 : decode cX1_copyFrom 49 = .ok (.aload_n 1, 1) := by decide +kernel
theorem dX1_copyFrom_50 : decode cX1_copyFrom 50 = .ok (.getfield 31, 3) := by decide +kernel
theorem dX1_copyFrom_53 : decode cX1_copyFrom 53 = .ok (.putfield 31, 3) := by decide +kernel
theorem dX1_copyFrom_56 : decode cX1_copyFrom 56 = .ok (.aload_n 0, 1) := by decide +kernel
theorem dX1_copyFrom_57 : decode cX1_copyFrom 57 = .ok (.aload_n 1, 1) := by decide +kernel
theorem dX1_copyFrom_58 : decode cX1_copyFrom 58 = .ok (.getfield 34, 3) := by decide +kernel
theorem dX1_copyFrom_61 : decode cX1_copyFrom 61 = .ok (.putfield 34, 3) := by decide +kernel
theorem dX1_copyFrom_64 : decode cX1_copyFrom 64 = .ok (.aload_n 0, 1) := by decide +kernel
theorem dX1_copyFrom_65 : decode cX1_copyFrom 65 = .ok (.aload_n 1, 1) := by decide +kernel
theorem dX1_copyFrom_66 : decode cX1_copyFrom 66 = .ok (.getfield 37, 3) := by decide +kernel
theorem dX1_copyFrom_69 : decode cX1_copyFrom 69 = .ok (.putfield 37, 3) := by decide +kernel
theorem dX1_copyFrom_72 : decode cX1_copyFrom 72 = .ok (.aload_n 0, 1) := by decide +kernel
theorem dX1_copyFrom_73 : decode cX1_copyFrom 73 = .ok (.aload_n 1, 1) := by decide +kernel
theorem dX1_copyFrom_74 : decode cX1_copyFrom 74 = .ok (.getfield 40, 3) := by decide +kernel
theorem dX1_copyFrom_77 : decode cX1_copyFrom 77 = .ok (.putfield 40, 3) := by decide +kernel
theorem dX1_copyFrom_80 : decode cX1_copyFrom 80 = .ok (.return_, 1) := by decide +kernel
theorem dX1_allows_0 : decode cX1_allows 0 = .ok (.iload_n 0, 1) := by decide +kernel
theorem dX1_allows_1 : decode cX1_allows 1 = .ok (.iconst 1, 1) := by decide +kernel
theorem dX1_allows_2 : decode cX1_allows 2 = .ok (.if_icmp .lt 13, 3) := by decide +kernel
theorem dX1_allows_5 : decode cX1_allows 5 = .ok (.iload_n 0, 1) := by decide +kernel
theorem dX1_allows_6 : decode cX1_allows 6 = .ok (.bipush 60, 2) := by decide +kernel
theorem dX1_allows_8 : decode cX1_allows 8 = .ok (.if_icmp .gt 7, 3) := by decide +kernel
theorem dX1_allows_11 : decode cX1_allows 11 = .ok (.iconst 1, 1) := by decide +kernel
theorem dX1_allows_12 : decode cX1_allows 12 = .ok (.goto 4, 3) := by decide +kernel
theorem dX1_allows_15 : decode cX1_allows 15 = .ok (.iconst 0, 1) := by decide +kernel
theorem dX1_allows_16 : decode cX1_allows 16 = .ok (.ireturn, 1) := by decide +kernel
theorem dX1_begin_0 : decode cX1_begin 0 = .ok (.aload_n 0, 1) := by decide +kernel
theorem dX1_begin_1 : decode cX1_begin 1 = .ok (.iconst 1, 1) := by decide +kernel
theorem dX1_begin_2 : decode cX1_begin 2 = .ok (.putfield 9, 3) := by decide +kernel
theorem dX1_begin_5 : decode cX1_begin 5 = .ok (.aload_n 0, 1) := by decide +kernel
theorem dX1_begin_6 : decode cX1_begin 6 = .ok (.iload_n 1, 1) := by decide +kernel
theorem dX1_begin_7 : decode cX1_begin 7 = .ok (.putfield 15, 3) := by decide +kernel
theorem dX1_begin_10 : decode cX1_begin 10 = .ok (.aload_n 0, 1) := by decide +kernel
theorem dX1_begin_11 : decode cX1_begin 11 = .ok (.bipush 10, 2) := by decide +kernel
theorem dX1_begin_13 : decode cX1_begin 13 = .ok (.putfield 19, 3) := by decide +kernel
theorem dX1_begin_16 : decode cX1_begin 16 = .ok (.aload_n 0, 1) := by decide +kernel
theorem dX1_begin_17 : decode cX1_begin 17 = .ok (.iconst 0, 1) := by decide +kernel
theorem dX1_begin_18 : decode cX1_begin 18 = .ok (.putfield 22, 3) := by decide +kernel
theorem dX1_begin_21 : decode cX1_begin 21 = .ok (.aload_n 0, 1) := by decide +kernel
theorem dX1_begin_22 : decode cX1_begin 22 = .ok (.iconst 0, 1) := by decide +kernel
theorem dX1_begin_23 : decode cX1_begin 23 = .ok (.putfield 25, 3) := by decide +kernel
theorem dX1_begin_26 : decode cX1_begin 26 = .ok (.aload_n 0, 1) := by decide +kernel
theorem dX1_begin_27 : decode cX1_begin 27 = .ok (.iconst 0, 1) := by decide +kernel
theorem dX1_begin_28 : decode cX1_begin 28 = .ok (.putfield 28, 3) := by decide +kernel
theorem dX1_begin_31 : decode cX1_begin 31 = .ok (.aload_n 0, 1) := by decide +kernel
theorem dX1_begin_32 : decode cX1_begin 32 = .ok (.iconst 0, 1) := by decide +kernel
theorem dX1_begin_33 : decode cX1_begin 33 = .ok (.putfield 31, 3) := by decide +kernel
theorem dX1_begin_36 : decode cX1_begin 36 = .ok (.aload_n 0, 1) := by decide +kernel
theorem dX1_begin_37 : decode cX1_begin 37 = .ok (.iconst 0, 1) := by decide +kernel
theorem dX1_begin_38 : decode cX1_begin 38 = .ok (.putfield 34, 3) := by decide +kernel
theorem dX1_begin_41 : decode cX1_begin 41 = .ok (.aload_n 0, 1) := by decide +kernel
theorem dX1_begin_42 : decode cX1_begin 42 = .ok (.iconst 0, 1) := by decide +kernel
theorem dX1_begin_43 : decode cX1_begin 43 = .ok (.putfield 37, 3) := by decide +kernel
theorem dX1_begin_46 : decode cX1_begin 46 = .ok (.aload_n 0, 1) := by decide +kernel
theorem dX1_begin_47 : decode cX1_begin 47 = .ok (.iconst 0, 1) := by decide +kernel
theorem dX1_begin_48 : decode cX1_begin 48 = .ok (.putfield 40, 3) := by decide +kernel
theorem dX1_begin_51 : decode cX1_begin 51 = .ok (.return_, 1) := by decide +kernel
theorem dX1_vanish_0 : decode cX1_vanish 0 = .ok (.aload_n 0, 1) := by decide +kernel
theorem dX1_vanish_1 : decode cX1_vanish 1 = .ok (.iconst 0, 1) := by decide +kernel
theorem dX1_vanish_2 : decode cX1_vanish 2 = .ok (.putfield 9, 3) := by decide +kernel
theorem dX1_vanish_5 : decode cX1_vanish 5 = .ok (.return_, 1) := by decide +kernel
theorem dX1_rolls_0 : decode cX1_rolls 0 = .ok (.aload_n 0, 1) := by decide +kernel
theorem dX1_rolls_1 : decode cX1_rolls 1 = .ok (.getfield 9, 3) := by decide +kernel
theorem dX1_rolls_4 : decode cX1_rolls 4 = .ok (.ifCond .eq 14, 3) := by decide +kernel
theorem dX1_rolls_7 : decode cX1_rolls 7 = .ok (.aload_n 0, 1) := by decide +kernel
theorem dX1_rolls_8 : decode cX1_rolls 8 = .ok (.getfield 31, 3) := by decide +kernel
theorem dX1_rolls_11 : decode cX1_rolls 11 = .ok (.ifCond .ne 7, 3) := by decide +kernel
theorem dX1_rolls_14 : decode cX1_rolls 14 = .ok (.iconst 1, 1) := by decide +kernel
theorem dX1_rolls_15 : decode cX1_rolls 15 = .ok (.goto 4, 3) := by decide +kernel
theorem dX1_rolls_18 : decode cX1_rolls 18 = .ok (.iconst 0, 1) := by decide +kernel
theorem dX1_rolls_19 : decode cX1_rolls 19 = .ok (.ireturn, 1) := by decide +kernel
theorem dX1_takeTap_0 : decode cX1_takeTap 0 = .ok (.aload_n 0, 1) := by decide +kernel
theorem dX1_takeTap_1 : decode cX1_takeTap 1 = .ok (.dup, 1) := by decide +kernel
theorem dX1_takeTap_2 : decode cX1_takeTap 2 = .ok (.getfield 22, 3) := by decide +kernel
theorem dX1_takeTap_5 : decode cX1_takeTap 5 = .ok (.iload_n 1, 1) := by decide +kernel
theorem dX1_takeTap_6 : decode cX1_takeTap 6 = .ok (.ifCond .ne 7, 3) := by decide +kernel
theorem dX1_takeTap_9 : decode cX1_takeTap 9 = .ok (.iload_n 2, 1) := by decide +kernel
theorem dX1_takeTap_10 : decode cX1_takeTap 10 = .ok (.goto 5, 3) := by decide +kernel
theorem dX1_takeTap_13 : decode cX1_takeTap 13 = .ok (.iload_n 2, 1) := by decide +kernel
theorem dX1_takeTap_14 : decode cX1_takeTap 14 = .ok (.ineg, 1) := by decide +kernel
theorem dX1_takeTap_15 : decode cX1_takeTap 15 = .ok (.iadd, 1) := by decide +kernel
theorem dX1_takeTap_16 : decode cX1_takeTap 16 = .ok (.putfield 22, 3) := by decide +kernel
theorem dX1_takeTap_19 : decode cX1_takeTap 19 = .ok (.aload_n 0, 1) := by decide +kernel
theorem dX1_takeTap_20 : decode cX1_takeTap 20 = .ok (.iconst 2, 1) := by decide +kernel
theorem dX1_takeTap_21 : decode cX1_takeTap 21 = .ok (.invokevirtual 43, 3) := by decide +kernel
theorem dX1_takeTap_24 : decode cX1_takeTap 24 = .ok (.aload_n 0, 1) := by decide +kernel
theorem dX1_takeTap_25 : decode cX1_takeTap 25 = .ok (.dup, 1) := by decide +kernel
theorem dX1_takeTap_26 : decode cX1_takeTap 26 = .ok (.getfield 34, 3) := by decide +kernel
theorem dX1_takeTap_29 : decode cX1_takeTap 29 = .ok (.iconst 1, 1) := by decide +kernel
theorem dX1_takeTap_30 : decode cX1_takeTap 30 = .ok (.iadd, 1) := by decide +kernel
theorem dX1_takeTap_31 : decode cX1_takeTap 31 = .ok (.putfield 34, 3) := by decide +kernel
theorem dX1_takeTap_34 : decode cX1_takeTap 34 = .ok (.return_, 1) := by decide +kernel
theorem dX1_takePush_0 : decode cX1_takePush 0 = .ok (.aload_n 0, 1) := by decide +kernel
theorem dX1_takePush_1 : decode cX1_takePush 1 = .ok (.iconst 5, 1) := by decide +kernel
theorem dX1_takePush_2 : decode cX1_takePush 2 = .ok (.invokevirtual 47, 3) := by decide +kernel
theorem dX1_takePush_5 : decode cX1_takePush 5 = .ok (.aload_n 0, 1) := by decide +kernel
theorem dX1_takePush_6 : decode cX1_takePush 6 = .ok (.dup, 1) := by decide +kernel
theorem dX1_takePush_7 : decode cX1_takePush 7 = .ok (.getfield 37, 3) := by decide +kernel
theorem dX1_takePush_10 : decode cX1_takePush 10 = .ok (.iconst 1, 1) := by decide +kernel
theorem dX1_takePush_11 : decode cX1_takePush 11 = .ok (.iadd, 1) := by decide +kernel
theorem dX1_takePush_12 : decode cX1_takePush 12 = .ok (.putfield 37, 3) := by decide +kernel
theorem dX1_takePush_15 : decode cX1_takePush 15 = .ok (.return_, 1) := by decide +kernel
theorem dX1_rollOver_0 : decode cX1_rollOver 0 = .ok (.iconst 0, 1) := by decide +kernel
theorem dX1_rollOver_1 : decode cX1_rollOver 1 = .ok (.istore 4, 2) := by decide +kernel
theorem dX1_rollOver_3 : decode cX1_rollOver 3 = .ok (.iload 4, 2) := by decide +kernel
theorem dX1_rollOver_5 : decode cX1_rollOver 5 = .ok (.iload_n 1, 1) := by decide +kernel
theorem dX1_rollOver_6 : decode cX1_rollOver 6 = .ok (.if_icmp .ge 68, 3) := by decide +kernel
theorem dX1_rollOver_9 : decode cX1_rollOver 9 = .ok (.aload_n 0, 1) := by decide +kernel
theorem dX1_rollOver_10 : decode cX1_rollOver 10 = .ok (.invokevirtual 50, 3) := by decide +kernel
theorem dX1_rollOver_13 : decode cX1_rollOver 13 = .ok (.ifCond .eq 61, 3) := by decide +kernel
theorem dX1_rollOver_16 : decode cX1_rollOver 16 = .ok (.aload_n 2, 1) := by decide +kernel
theorem dX1_rollOver_17 : decode cX1_rollOver 17 = .ok (.aload_n 0, 1) := by decide +kernel
theorem dX1_rollOver_18 : decode cX1_rollOver 18 = .ok (.getfield 28, 3) := by decide +kernel
theorem dX1_rollOver_21 : decode cX1_rollOver 21 = .ok (.invokevirtual 54, 3) := by decide +kernel
theorem dX1_rollOver_24 : decode cX1_rollOver 24 = .ok (.ifCond .eq 39, 3) := by decide +kernel
theorem dX1_rollOver_27 : decode cX1_rollOver 27 = .ok (.aload_n 0, 1) := by decide +kernel
theorem dX1_rollOver_28 : decode cX1_rollOver 28 = .ok (.aload_n 2, 1) := by decide +kernel
theorem dX1_rollOver_29 : decode cX1_rollOver 29 = .ok (.aload_n 0, 1) := by decide +kernel
theorem dX1_rollOver_30 : decode cX1_rollOver 30 = .ok (.getfield 28, 3) := by decide +kernel
theorem dX1_rollOver_33 : decode cX1_rollOver 33 = .ok (.iconst 0, 1) := by decide +kernel
theorem dX1_rollOver_34 : decode cX1_rollOver 34 = .ok (.invokevirtual 60, 3) := by decide +kernel
theorem dX1_rollOver_37 : decode cX1_rollOver 37 = .ok (.aload_n 2, 1) := by decide +kernel
theorem dX1_rollOver_38 : decode cX1_rollOver 38 = .ok (.aload_n 0, 1) := by decide +kernel
theorem dX1_rollOver_39 : decode cX1_rollOver 39 = .ok (.getfield 28, 3) := by decide +kernel
theorem dX1_rollOver_42 : decode cX1_rollOver 42 = .ok (.iconst 1, 1) := by decide +kernel
theorem dX1_rollOver_43 : decode cX1_rollOver 43 = .ok (.invokevirtual 60, 3) := by decide +kernel
theorem dX1_rollOver_46 : decode cX1_rollOver 46 = .ok (.aload_n 3, 1) := by decide +kernel
theorem dX1_rollOver_47 : decode cX1_rollOver 47 = .ok (.invokevirtual 64, 3) := by decide +kernel
theorem dX1_rollOver_50 : decode cX1_rollOver 50 = .ok (.aload_n 0, 1) := by decide +kernel
theorem dX1_rollOver_51 : decode cX1_rollOver 51 = .ok (.aload_n 2, 1) := by decide +kernel
theorem dX1_rollOver_52 : decode cX1_rollOver 52 = .ok (.aload_n 3, 1) := by decide +kernel
theorem dX1_rollOver_53 : decode cX1_rollOver 53 = .ok (.iconst 0, 1) := by decide +kernel
theorem dX1_rollOver_54 : decode cX1_rollOver 54 = .ok (.invokevirtual 68, 3) := by decide +kernel
theorem dX1_rollOver_57 : decode cX1_rollOver 57 = .ok (.invokevirtual 74, 3) := by decide +kernel
theorem dX1_rollOver_60 : decode cX1_rollOver 60 = .ok (.goto 8, 3) := by decide +kernel
theorem dX1_rollOver_63 : decode cX1_rollOver 63 = .ok (.aload_n 0, 1) := by decide +kernel
theorem dX1_rollOver_64 : decode cX1_rollOver 64 = .ok (.iconst 4, 1) := by decide +kernel
theorem dX1_rollOver_65 : decode cX1_rollOver 65 = .ok (.putfield 31, 3) := by decide +kernel
theorem dX1_rollOver_68 : decode cX1_rollOver 68 = .ok (.iinc 4 1, 3) := by decide +kernel
theorem dX1_rollOver_71 : decode cX1_rollOver 71 = .ok (.goto (-68), 3) := by decide +kernel
theorem dX1_rollOver_74 : decode cX1_rollOver 74 = .ok (.return_, 1) := by decide +kernel
theorem dX1_meet_0 : decode cX1_meet 0 = .ok (.iload_n 1, 1) := by decide +kernel
theorem dX1_meet_1 : decode cX1_meet 1 = .ok (.lookupswitch 69 #[(0, 27), (1, 40)], 27) := by decide +kernel
theorem dX1_meet_28 : decode cX1_meet 28 = .ok (.aload_n 0, 1) := by decide +kernel
theorem dX1_meet_29 : decode cX1_meet 29 = .ok (.iload_n 2, 1) := by decide +kernel
theorem dX1_meet_30 : decode cX1_meet 30 = .ok (.aload_n 3, 1) := by decide +kernel
theorem dX1_meet_31 : decode cX1_meet 31 = .ok (.iconst 1, 1) := by decide +kernel
theorem dX1_meet_32 : decode cX1_meet 32 = .ok (.invokevirtual 68, 3) := by decide +kernel
theorem dX1_meet_35 : decode cX1_meet 35 = .ok (.invokevirtual 78, 3) := by decide +kernel
theorem dX1_meet_38 : decode cX1_meet 38 = .ok (.goto 56, 3) := by decide +kernel
theorem dX1_meet_41 : decode cX1_meet 41 = .ok (.aload_n 0, 1) := by decide +kernel
theorem dX1_meet_42 : decode cX1_meet 42 = .ok (.iload_n 2, 1) := by decide +kernel
theorem dX1_meet_43 : decode cX1_meet 43 = .ok (.aload_n 3, 1) := by decide +kernel
theorem dX1_meet_44 : decode cX1_meet 44 = .ok (.iconst 2, 1) := by decide +kernel
theorem dX1_meet_45 : decode cX1_meet 45 = .ok (.invokevirtual 68, 3) := by decide +kernel
theorem dX1_meet_48 : decode cX1_meet 48 = .ok (.invokevirtual 82, 3) := by decide +kernel
theorem dX1_meet_51 : decode cX1_meet 51 = .ok (.aload_n 0, 1) := by decide +kernel
theorem dX1_meet_52 : decode cX1_meet 52 = .ok (.aload_n 0, 1) := by decide +kernel
theorem dX1_meet_53 : decode cX1_meet 53 = .ok (.getfield 19, 3) := by decide +kernel
theorem dX1_meet_56 : decode cX1_meet 56 = .ok (.ifCond .ne 7, 3) := by decide +kernel
theorem dX1_meet_59 : decode cX1_meet 59 = .ok (.iconst 3, 1) := by decide +kernel
theorem dX1_meet_60 : decode cX1_meet 60 = .ok (.goto 4, 3) := by decide +kernel
theorem dX1_meet_63 : decode cX1_meet 63 = .ok (.iconst 0, 1) := by decide +kernel
theorem dX1_meet_64 : decode cX1_meet 64 = .ok (.putfield 31, 3) := by decide +kernel
theorem dX1_meet_67 : decode cX1_meet 67 = .ok (.goto 27, 3) := by decide +kernel
theorem dX1_meet_70 : decode cX1_meet 70 = .ok (.aload_n 0, 1) := by decide +kernel
theorem dX1_meet_71 : decode cX1_meet 71 = .ok (.aload_n 0, 1) := by decide +kernel
theorem dX1_meet_72 : decode cX1_meet 72 = .ok (.getfield 15, 3) := by decide +kernel
theorem dX1_meet_75 : decode cX1_meet 75 = .ok (.aload_n 0, 1) := by decide +kernel
theorem dX1_meet_76 : decode cX1_meet 76 = .ok (.getfield 25, 3) := by decide +kernel
theorem dX1_meet_79 : decode cX1_meet 79 = .ok (.iconst 4, 1) := by decide +kernel
theorem dX1_meet_80 : decode cX1_meet 80 = .ok (.idiv, 1) := by decide +kernel
theorem dX1_meet_81 : decode cX1_meet 81 = .ok (.iadd, 1) := by decide +kernel
theorem dX1_meet_82 : decode cX1_meet 82 = .ok (.iload_n 2, 1) := by decide +kernel
theorem dX1_meet_83 : decode cX1_meet 83 = .ok (.if_icmp .gt 7, 3) := by decide +kernel
theorem dX1_meet_86 : decode cX1_meet 86 = .ok (.iconst 0, 1) := by decide +kernel
theorem dX1_meet_87 : decode cX1_meet 87 = .ok (.goto 4, 3) := by decide +kernel
theorem dX1_meet_90 : decode cX1_meet 90 = .ok (.iconst 2, 1) := by decide +kernel
theorem dX1_meet_91 : decode cX1_meet 91 = .ok (.putfield 31, 3) := by decide +kernel
theorem dX1_meet_94 : decode cX1_meet 94 = .ok (.return_, 1) := by decide +kernel
theorem dX1_goBehind_0 : decode cX1_goBehind 0 = .ok (.aload_n 0, 1) := by decide +kernel
theorem dX1_goBehind_1 : decode cX1_goBehind 1 = .ok (.getfield 31, 3) := by decide +kernel
theorem dX1_goBehind_4 : decode cX1_goBehind 4 = .ok (.ifCond .eq 4, 3) := by decide +kernel
theorem dX1_goBehind_7 : decode cX1_goBehind 7 = .ok (.return_, 1) := by decide +kernel
theorem dX1_goBehind_8 : decode cX1_goBehind 8 = .ok (.aload_n 0, 1) := by decide +kernel
theorem dX1_goBehind_9 : decode cX1_goBehind 9 = .ok (.getfield 22, 3) := by decide +kernel
theorem dX1_goBehind_12 : decode cX1_goBehind 12 = .ok (.invokestatic 85, 3) := by decide +kernel
theorem dX1_goBehind_15 : decode cX1_goBehind 15 = .ok (.istore_n 3, 1) := by decide +kernel
theorem dX1_goBehind_16 : decode cX1_goBehind 16 = .ok (.aload_n 0, 1) := by decide +kernel
theorem dX1_goBehind_17 : decode cX1_goBehind 17 = .ok (.aload_n 0, 1) := by decide +kernel
theorem dX1_goBehind_18 : decode cX1_goBehind 18 = .ok (.getfield 40, 3) := by decide +kernel
theorem dX1_goBehind_21 : decode cX1_goBehind 21 = .ok (.iload_n 3, 1) := by decide +kernel
theorem dX1_goBehind_22 : decode cX1_goBehind 22 = .ok (.invokestatic 90, 3) := by decide +kernel
theorem dX1_goBehind_25 : decode cX1_goBehind 25 = .ok (.putfield 40, 3) := by decide +kernel
theorem dX1_goBehind_28 : decode cX1_goBehind 28 = .ok (.iload_n 3, 1) := by decide +kernel
theorem dX1_goBehind_29 : decode cX1_goBehind 29 = .ok (.iload_n 2, 1) := by decide +kernel
theorem dX1_goBehind_30 : decode cX1_goBehind 30 = .ok (.if_icmp .lt 9, 3) := by decide +kernel
theorem dX1_goBehind_33 : decode cX1_goBehind 33 = .ok (.aload_n 0, 1) := by decide +kernel
theorem dX1_goBehind_34 : decode cX1_goBehind 34 = .ok (.iconst 1, 1) := by decide +kernel
theorem dX1_goBehind_35 : decode cX1_goBehind 35 = .ok (.putfield 31, 3) := by decide +kernel
theorem dX1_goBehind_38 : decode cX1_goBehind 38 = .ok (.return_, 1) := by decide +kernel
theorem dX1_goBehind_39 : decode cX1_goBehind 39 = .ok (.aload_n 0, 1) := by decide +kernel
theorem dX1_goBehind_40 : decode cX1_goBehind 40 = .ok (.dup, 1) := by decide +kernel
theorem dX1_goBehind_41 : decode cX1_goBehind 41 = .ok (.getfield 28, 3) := by decide +kernel
theorem dX1_goBehind_44 : decode cX1_goBehind 44 = .ok (.iconst 1, 1) := by decide +kernel
theorem dX1_goBehind_45 : decode cX1_goBehind 45 = .ok (.iadd, 1) := by decide +kernel
theorem dX1_goBehind_46 : decode cX1_goBehind 46 = .ok (.putfield 28, 3) := by decide +kernel
theorem dX1_goBehind_49 : decode cX1_goBehind 49 = .ok (.aload_n 1, 1) := by decide +kernel
theorem dX1_goBehind_50 : decode cX1_goBehind 50 = .ok (.aload_n 0, 1) := by decide +kernel
theorem dX1_goBehind_51 : decode cX1_goBehind 51 = .ok (.getfield 28, 3) := by decide +kernel
theorem dX1_goBehind_54 : decode cX1_goBehind 54 = .ok (.invokevirtual 54, 3) := by decide +kernel
theorem dX1_goBehind_57 : decode cX1_goBehind 57 = .ok (.ifCond .ne 8, 3) := by decide +kernel
theorem dX1_goBehind_60 : decode cX1_goBehind 60 = .ok (.aload_n 0, 1) := by decide +kernel
theorem dX1_goBehind_61 : decode cX1_goBehind 61 = .ok (.iconst 4, 1) := by decide +kernel
theorem dX1_goBehind_62 : decode cX1_goBehind 62 = .ok (.putfield 31, 3) := by decide +kernel
theorem dX1_goBehind_65 : decode cX1_goBehind 65 = .ok (.return_, 1) := by decide +kernel
theorem dX1_dropBy_0 : decode cX1_dropBy 0 = .ok (.aload_n 0, 1) := by decide +kernel
theorem dX1_dropBy_1 : decode cX1_dropBy 1 = .ok (.iload_n 1, 1) := by decide +kernel
theorem dX1_dropBy_2 : decode cX1_dropBy 2 = .ok (.iconst 4, 1) := by decide +kernel
theorem dX1_dropBy_3 : decode cX1_dropBy 3 = .ok (.imul, 1) := by decide +kernel
theorem dX1_dropBy_4 : decode cX1_dropBy 4 = .ok (.invokevirtual 47, 3) := by decide +kernel
theorem dX1_dropBy_7 : decode cX1_dropBy 7 = .ok (.aload_n 0, 1) := by decide +kernel
theorem dX1_dropBy_8 : decode cX1_dropBy 8 = .ok (.iload_n 2, 1) := by decide +kernel
theorem dX1_dropBy_9 : decode cX1_dropBy 9 = .ok (.iload_n 1, 1) := by decide +kernel
theorem dX1_dropBy_10 : decode cX1_dropBy 10 = .ok (.imul, 1) := by decide +kernel
theorem dX1_dropBy_11 : decode cX1_dropBy 11 = .ok (.invokevirtual 43, 3) := by decide +kernel
theorem dX1_dropBy_14 : decode cX1_dropBy 14 = .ok (.aload_n 0, 1) := by decide +kernel
theorem dX1_dropBy_15 : decode cX1_dropBy 15 = .ok (.dup, 1) := by decide +kernel
theorem dX1_dropBy_16 : decode cX1_dropBy 16 = .ok (.getfield 22, 3) := by decide +kernel
theorem dX1_dropBy_19 : decode cX1_dropBy 19 = .ok (.aload_n 0, 1) := by decide +kernel
theorem dX1_dropBy_20 : decode cX1_dropBy 20 = .ok (.getfield 28, 3) := by decide +kernel
theorem dX1_dropBy_23 : decode cX1_dropBy 23 = .ok (.iconst 2, 1) := by decide +kernel
theorem dX1_dropBy_24 : decode cX1_dropBy 24 = .ok (.irem, 1) := by decide +kernel
theorem dX1_dropBy_25 : decode cX1_dropBy 25 = .ok (.ifCond .ne 12, 3) := by decide +kernel
theorem dX1_dropBy_28 : decode cX1_dropBy 28 = .ok (.aload_n 0, 1) := by decide +kernel
theorem dX1_dropBy_29 : decode cX1_dropBy 29 = .ok (.getfield 25, 3) := by decide +kernel
theorem dX1_dropBy_32 : decode cX1_dropBy 32 = .ok (.iconst 4, 1) := by decide +kernel
theorem dX1_dropBy_33 : decode cX1_dropBy 33 = .ok (.idiv, 1) := by decide +kernel
theorem dX1_dropBy_34 : decode cX1_dropBy 34 = .ok (.goto 10, 3) := by decide +kernel
theorem dX1_dropBy_37 : decode cX1_dropBy 37 = .ok (.aload_n 0, 1) := by decide +kernel
theorem dX1_dropBy_38 : decode cX1_dropBy 38 = .ok (.getfield 25, 3) := by decide +kernel
theorem dX1_dropBy_41 : decode cX1_dropBy 41 = .ok (.iconst 4, 1) := by decide +kernel
theorem dX1_dropBy_42 : decode cX1_dropBy 42 = .ok (.idiv, 1) := by decide +kernel
theorem dX1_dropBy_43 : decode cX1_dropBy 43 = .ok (.ineg, 1) := by decide +kernel
theorem dX1_dropBy_44 : decode cX1_dropBy 44 = .ok (.iadd, 1) := by decide +kernel
theorem dX1_dropBy_45 : decode cX1_dropBy 45 = .ok (.putfield 22, 3) := by decide +kernel
theorem dX1_dropBy_48 : decode cX1_dropBy 48 = .ok (.return_, 1) := by decide +kernel
theorem dX1_rollAlong_0 : decode cX1_rollAlong 0 = .ok (.iconst 0, 1) := by decide +kernel
theorem dX1_rollAlong_1 : decode cX1_rollAlong 1 = .ok (.istore_n 3, 1) := by decide +kernel
theorem dX1_rollAlong_2 : decode cX1_rollAlong 2 = .ok (.iload_n 3, 1) := by decide +kernel
theorem dX1_rollAlong_3 : decode cX1_rollAlong 3 = .ok (.iload_n 1, 1) := by decide +kernel
theorem dX1_rollAlong_4 : decode cX1_rollAlong 4 = .ok (.if_icmp .ge 49, 3) := by decide +kernel
theorem dX1_rollAlong_7 : decode cX1_rollAlong 7 = .ok (.aload_n 0, 1) := by decide +kernel
theorem dX1_rollAlong_8 : decode cX1_rollAlong 8 = .ok (.iconst 0, 1) := by decide +kernel
theorem dX1_rollAlong_9 : decode cX1_rollAlong 9 = .ok (.aload_n 0, 1) := by decide +kernel
theorem dX1_rollAlong_10 : decode cX1_rollAlong 10 = .ok (.getfield 19, 3) := by decide +kernel
theorem dX1_rollAlong_13 : decode cX1_rollAlong 13 = .ok (.iload_n 2, 1) := by decide +kernel
theorem dX1_rollAlong_14 : decode cX1_rollAlong 14 = .ok (.isub, 1) := by decide +kernel
theorem dX1_rollAlong_15 : decode cX1_rollAlong 15 = .ok (.invokestatic 90, 3) := by decide +kernel
theorem dX1_rollAlong_18 : decode cX1_rollAlong 18 = .ok (.putfield 19, 3) := by decide +kernel
theorem dX1_rollAlong_21 : decode cX1_rollAlong 21 = .ok (.aload_n 0, 1) := by decide +kernel
theorem dX1_rollAlong_22 : decode cX1_rollAlong 22 = .ok (.dup, 1) := by decide +kernel
theorem dX1_rollAlong_23 : decode cX1_rollAlong 23 = .ok (.getfield 25, 3) := by decide +kernel
theorem dX1_rollAlong_26 : decode cX1_rollAlong 26 = .ok (.aload_n 0, 1) := by decide +kernel
theorem dX1_rollAlong_27 : decode cX1_rollAlong 27 = .ok (.getfield 25, 3) := by decide +kernel
theorem dX1_rollAlong_30 : decode cX1_rollAlong 30 = .ok (.iconst 4, 1) := by decide +kernel
theorem dX1_rollAlong_31 : decode cX1_rollAlong 31 = .ok (.idiv, 1) := by decide +kernel
theorem dX1_rollAlong_32 : decode cX1_rollAlong 32 = .ok (.isub, 1) := by decide +kernel
theorem dX1_rollAlong_33 : decode cX1_rollAlong 33 = .ok (.putfield 25, 3) := by decide +kernel
theorem dX1_rollAlong_36 : decode cX1_rollAlong 36 = .ok (.aload_n 0, 1) := by decide +kernel
theorem dX1_rollAlong_37 : decode cX1_rollAlong 37 = .ok (.aload_n 0, 1) := by decide +kernel
theorem dX1_rollAlong_38 : decode cX1_rollAlong 38 = .ok (.getfield 19, 3) := by decide +kernel
theorem dX1_rollAlong_41 : decode cX1_rollAlong 41 = .ok (.bipush 20, 2) := by decide +kernel
theorem dX1_rollAlong_43 : decode cX1_rollAlong 43 = .ok (.idiv, 1) := by decide +kernel
theorem dX1_rollAlong_44 : decode cX1_rollAlong 44 = .ok (.invokevirtual 93, 3) := by decide +kernel
theorem dX1_rollAlong_47 : decode cX1_rollAlong 47 = .ok (.iinc 3 1, 3) := by decide +kernel
theorem dX1_rollAlong_50 : decode cX1_rollAlong 50 = .ok (.goto (-48), 3) := by decide +kernel
theorem dX1_rollAlong_53 : decode cX1_rollAlong 53 = .ok (.return_, 1) := by decide +kernel
theorem dX1_rightItselfBy_0 : decode cX1_rightItselfBy 0 = .ok (.aload_n 0, 1) := by decide +kernel
theorem dX1_rightItselfBy_1 : decode cX1_rightItselfBy 1 = .ok (.getfield 22, 3) := by decide +kernel
theorem dX1_rightItselfBy_4 : decode cX1_rightItselfBy 4 = .ok (.ifCond .le 20, 3) := by decide +kernel
theorem dX1_rightItselfBy_7 : decode cX1_rightItselfBy 7 = .ok (.aload_n 0, 1) := by decide +kernel
theorem dX1_rightItselfBy_8 : decode cX1_rightItselfBy 8 = .ok (.iconst 0, 1) := by decide +kernel
theorem dX1_rightItselfBy_9 : decode cX1_rightItselfBy 9 = .ok (.aload_n 0, 1) := by decide +kernel
theorem dX1_rightItselfBy_10 : decode cX1_rightItselfBy 10 = .ok (.getfield 22, 3) := by decide +kernel
theorem dX1_rightItselfBy_13 : decode cX1_rightItselfBy 13 = .ok (.iload_n 1, 1) := by decide +kernel
theorem dX1_rightItselfBy_14 : decode cX1_rightItselfBy 14 = .ok (.isub, 1) := by decide +kernel
theorem dX1_rightItselfBy_15 : decode cX1_rightItselfBy 15 = .ok (.invokestatic 90, 3) := by decide +kernel
theorem dX1_rightItselfBy_18 : decode cX1_rightItselfBy 18 = .ok (.putfield 22, 3) := by decide +kernel
theorem dX1_rightItselfBy_21 : decode cX1_rightItselfBy 21 = .ok (.goto 17, 3) := by decide +kernel
theorem dX1_rightItselfBy_24 : decode cX1_rightItselfBy 24 = .ok (.aload_n 0, 1) := by decide +kernel
theorem dX1_rightItselfBy_25 : decode cX1_rightItselfBy 25 = .ok (.iconst 0, 1) := by decide +kernel
theorem dX1_rightItselfBy_26 : decode cX1_rightItselfBy 26 = .ok (.aload_n 0, 1) := by decide +kernel
theorem dX1_rightItselfBy_27 : decode cX1_rightItselfBy 27 = .ok (.getfield 22, 3) := by decide +kernel
theorem dX1_rightItselfBy_30 : decode cX1_rightItselfBy 30 = .ok (.iload_n 1, 1) := by decide +kernel
theorem dX1_rightItselfBy_31 : decode cX1_rightItselfBy 31 = .ok (.iadd, 1) := by decide +kernel
theorem dX1_rightItselfBy_32 : decode cX1_rightItselfBy 32 = .ok (.invokestatic 96, 3) := by decide +kernel
theorem dX1_rightItselfBy_35 : decode cX1_rightItselfBy 35 = .ok (.putfield 22, 3) := by decide +kernel
theorem dX1_rightItselfBy_38 : decode cX1_rightItselfBy 38 = .ok (.return_, 1) := by decide +kernel
theorem dX1_speedUpBy_0 : decode cX1_speedUpBy 0 = .ok (.aload_n 0, 1) := by decide +kernel
theorem dX1_speedUpBy_1 : decode cX1_speedUpBy 1 = .ok (.bipush 99, 2) := by decide +kernel
theorem dX1_speedUpBy_3 : decode cX1_speedUpBy 3 = .ok (.aload_n 0, 1) := by decide +kernel
theorem dX1_speedUpBy_4 : decode cX1_speedUpBy 4 = .ok (.getfield 19, 3) := by decide +kernel
theorem dX1_speedUpBy_7 : decode cX1_speedUpBy 7 = .ok (.iload_n 1, 1) := by decide +kernel
theorem dX1_speedUpBy_8 : decode cX1_speedUpBy 8 = .ok (.iadd, 1) := by decide +kernel
theorem dX1_speedUpBy_9 : decode cX1_speedUpBy 9 = .ok (.invokestatic 96, 3) := by decide +kernel
theorem dX1_speedUpBy_12 : decode cX1_speedUpBy 12 = .ok (.putfield 19, 3) := by decide +kernel
theorem dX1_speedUpBy_15 : decode cX1_speedUpBy 15 = .ok (.return_, 1) := by decide +kernel
theorem dX1_shakeBy_0 : decode cX1_shakeBy 0 = .ok (.aload_n 0, 1) := by decide +kernel
theorem dX1_shakeBy_1 : decode cX1_shakeBy 1 = .ok (.bipush 99, 2) := by decide +kernel
theorem dX1_shakeBy_3 : decode cX1_shakeBy 3 = .ok (.aload_n 0, 1) := by decide +kernel
theorem dX1_shakeBy_4 : decode cX1_shakeBy 4 = .ok (.getfield 25, 3) := by decide +kernel
theorem dX1_shakeBy_7 : decode cX1_shakeBy 7 = .ok (.iload_n 1, 1) := by decide +kernel
theorem dX1_shakeBy_8 : decode cX1_shakeBy 8 = .ok (.iadd, 1) := by decide +kernel
theorem dX1_shakeBy_9 : decode cX1_shakeBy 9 = .ok (.invokestatic 96, 3) := by decide +kernel
theorem dX1_shakeBy_12 : decode cX1_shakeBy 12 = .ok (.putfield 25, 3) := by decide +kernel
theorem dX1_shakeBy_15 : decode cX1_shakeBy 15 = .ok (.return_, 1) := by decide +kernel
theorem dX2_init_0 : decode cX2_init 0 = .ok (.aload_n 0, 1) := by decide +kernel
theorem dX2_init_1 : decode cX2_init 1 = .ok (.invokespecial 3, 3) := by decide +kernel
theorem dX2_init_4 : decode cX2_init 4 = .ok (.aload_n 0, 1) := by decide +kernel
theorem dX2_init_5 : decode cX2_init 5 = .ok (.bipush 80, 2) := by decide +kernel
theorem dX2_init_7 : decode cX2_init 7 = .ok (.newarray .int, 2) := by decide +kernel
theorem dX2_init_9 : decode cX2_init 9 = .ok (.putfield 11, 3) := by decide +kernel
theorem dX2_init_12 : decode cX2_init 12 = .ok (.aload_n 0, 1) := by decide +kernel
theorem dX2_init_13 : decode cX2_init 13 = .ok (.iconst 0, 1) := by decide +kernel
theorem dX2_init_14 : decode cX2_init 14 = .ok (.putfield 15, 3) := by decide +kernel
theorem dX2_init_17 : decode cX2_init 17 = .ok (.aload_n 0, 1) := by decide +kernel
theorem dX2_init_18 : decode cX2_init 18 = .ok (.iconst 0, 1) := by decide +kernel
theorem dX2_init_19 : decode cX2_init 19 = .ok (.putfield 19, 3) := by decide +kernel
theorem dX2_init_22 : decode cX2_init 22 = .ok (.return_, 1) := by decide +kernel
theorem dX2_codeIn_0 : decode cX2_codeIn 0 = .ok (.lload_n 0, 1) := by decide +kernel
theorem dX2_codeIn_1 : decode cX2_codeIn 1 = .ok (.bipush 8, 2) := by decide +kernel
theorem dX2_codeIn_3 : decode cX2_codeIn 3 = .ok (.iload_n 2, 1) := by decide +kernel
theorem dX2_codeIn_4 : decode cX2_codeIn 4 = .ok (.imul, 1) := by decide +kernel
theorem dX2_codeIn_5 : decode cX2_codeIn 5 = .ok (.lushr, 1) := by decide +kernel
theorem dX2_codeIn_6 : decode cX2_codeIn 6 = .ok (.ldc2_w 22, 3) := by decide +kernel
theorem dX2_codeIn_9 : decode cX2_codeIn 9 = .ok (.land, 1) := by decide +kernel
theorem dX2_codeIn_10 : decode cX2_codeIn 10 = .ok (.l2i, 1) := by decide +kernel
theorem dX2_codeIn_11 : decode cX2_codeIn 11 = .ok (.ireturn, 1) := by decide +kernel
theorem dX2_charactersIn_0 : decode cX2_charactersIn 0 = .ok (.iconst 0, 1) := by decide +kernel
theorem dX2_charactersIn_1 : decode cX2_charactersIn 1 = .ok (.istore_n 2, 1) := by decide +kernel
theorem dX2_charactersIn_2 : decode cX2_charactersIn 2 = .ok (.iconst 0, 1) := by decide +kernel
theorem dX2_charactersIn_3 : decode cX2_charactersIn 3 = .ok (.istore_n 3, 1) := by decide +kernel
theorem dX2_charactersIn_4 : decode cX2_charactersIn 4 = .ok (.iload_n 3, 1) := by decide +kernel
theorem dX2_charactersIn_5 : decode cX2_charactersIn 5 = .ok (.bipush 8, 2) := by decide +kernel
theorem dX2_charactersIn_7 : decode cX2_charactersIn 7 = .ok (.if_icmp .ge 48, 3) := by decide +kernel
theorem dX2_charactersIn_10 : decode cX2_charactersIn 10 = .ok (.lload_n 0, 1) := by decide +kernel
theorem dX2_charactersIn_11 : decode cX2_charactersIn 11 = .ok (.iload_n 3, 1) := by decide +kernel
theorem dX2_charactersIn_12 : decode cX2_charactersIn 12 = .ok (.invokestatic 24, 3) := by decide +kernel
theorem dX2_charactersIn_15 : decode cX2_charactersIn 15 = .ok (.istore 4, 2) := by decide +kernel
theorem dX2_charactersIn_17 : decode cX2_charactersIn 17 = .ok (.iload 4, 2) := by decide +kernel
theorem dX2_charactersIn_19 : decode cX2_charactersIn 19 = .ok (.ifCond .ne 6, 3) := by decide +kernel
theorem dX2_charactersIn_22 : decode cX2_charactersIn 22 = .ok (.goto 27, 3) := by decide +kernel
theorem dX2_charactersIn_25 : decode cX2_charactersIn 25 = .ok (.iload_n 2, 1) := by decide +kernel
theorem dX2_charactersIn_26 : decode cX2_charactersIn 26 = .ok (.iload_n 3, 1) := by decide +kernel
theorem dX2_charactersIn_27 : decode cX2_charactersIn 27 = .ok (.if_icmp .lt 17, 3) := by decide +kernel
theorem dX2_charactersIn_30 : decode cX2_charactersIn 30 = .ok (.iload 4, 2) := by decide +kernel
theorem dX2_charactersIn_32 : decode cX2_charactersIn 32 = .ok (.bipush 33, 2) := by decide +kernel
theorem dX2_charactersIn_34 : decode cX2_charactersIn 34 = .ok (.if_icmp .lt 10, 3) := by decide +kernel
theorem dX2_charactersIn_37 : decode cX2_charactersIn 37 = .ok (.iload 4, 2) := by decide +kernel
theorem dX2_charactersIn_39 : decode cX2_charactersIn 39 = .ok (.bipush 126, 2) := by decide +kernel
theorem dX2_charactersIn_41 : decode cX2_charactersIn 41 = .ok (.if_icmp .le 5, 3) := by decide +kernel
theorem dX2_charactersIn_44 : decode cX2_charactersIn 44 = .ok (.iconst 0, 1) := by decide +kernel
theorem dX2_charactersIn_45 : decode cX2_charactersIn 45 = .ok (.ireturn, 1) := by decide +kernel
theorem dX2_charactersIn_46 : decode cX2_charactersIn 46 = .ok (.iinc 2 1, 3) := by decide +kernel
theorem dX2_charactersIn_49 : decode cX2_charactersIn 49 = .ok (.iinc 3 1, 3) := by decide +kernel
theorem dX2_charactersIn_52 : decode cX2_charactersIn 52 = .ok (.goto (-48), 3) := by decide +kernel
theorem dX2_charactersIn_55 : decode cX2_charactersIn 55 = .ok (.iload_n 2, 1) := by decide +kernel
theorem dX2_charactersIn_56 : decode cX2_charactersIn 56 = .ok (.ireturn, 1) := by decide +kernel
theorem dX2_append_0 : decode cX2_append 0 = .ok (.iload_n 3, 1) := by decide +kernel
theorem dX2_append_1 : decode cX2_append 1 = .ok (.iconst 1, 1) := by decide +kernel
theorem dX2_append_2 : decode cX2_append 2 = .ok (.isub, 1) := by decide +kernel
theorem dX2_append_3 : decode cX2_append 3 = .ok (.istore 4, 2) := by decide +kernel
theorem dX2_append_5 : decode cX2_append 5 = .ok (.iload 4, 2) := by decide +kernel
theorem dX2_append_7 : decode cX2_append 7 = .ok (.ifCond .lt 43, 3) := by decide +kernel
theorem dX2_append_10 : decode cX2_append 10 = .ok (.aload_n 0, 1) := by decide +kernel
theorem dX2_append_11 : decode cX2_append 11 = .ok (.getfield 15, 3) := by decide +kernel
theorem dX2_append_14 : decode cX2_append 14 = .ok (.bipush 80, 2) := by decide +kernel
theorem dX2_append_16 : decode cX2_append 16 = .ok (.if_icmp .ge 34, 3) := by decide +kernel
theorem dX2_append_19 : decode cX2_append 19 = .ok (.aload_n 0, 1) := by decide +kernel
theorem dX2_append_20 : decode cX2_append 20 = .ok (.getfield 11, 3) := by decide +kernel
theorem dX2_append_23 : decode cX2_append 23 = .ok (.aload_n 0, 1) := by decide +kernel
theorem dX2_append_24 : decode cX2_append 24 = .ok (.getfield 15, 3) := by decide +kernel
theorem dX2_append_27 : decode cX2_append 27 = .ok (.lload_n 1, 1) := by decide +kernel
theorem dX2_append_28 : decode cX2_append 28 = .ok (.iload 4, 2) := by decide +kernel
theorem dX2_append_30 : decode cX2_append 30 = .ok (.invokestatic 24, 3) := by decide +kernel
theorem dX2_append_33 : decode cX2_append 33 = .ok (.iastore, 1) := by decide +kernel
theorem dX2_append_34 : decode cX2_append 34 = .ok (.aload_n 0, 1) := by decide +kernel
theorem dX2_append_35 : decode cX2_append 35 = .ok (.dup, 1) := by decide +kernel
theorem dX2_append_36 : decode cX2_append 36 = .ok (.getfield 15, 3) := by decide +kernel
theorem dX2_append_39 : decode cX2_append 39 = .ok (.iconst 1, 1) := by decide +kernel
theorem dX2_append_40 : decode cX2_append 40 = .ok (.iadd, 1) := by decide +kernel
theorem dX2_append_41 : decode cX2_append 41 = .ok (.putfield 15, 3) := by decide +kernel
theorem dX2_append_44 : decode cX2_append 44 = .ok (.iinc 4 (-1), 3) := by decide +kernel
theorem dX2_append_47 : decode cX2_append 47 = .ok (.goto (-42), 3) := by decide +kernel
theorem dX2_append_50 : decode cX2_append 50 = .ok (.aload_n 0, 1) := by decide +kernel
theorem dX2_append_51 : decode cX2_append 51 = .ok (.getfield 15, 3) := by decide +kernel
theorem dX2_append_54 : decode cX2_append 54 = .ok (.ireturn, 1) := by decide +kernel
theorem dX2_empty_0 : decode cX2_empty 0 = .ok (.aload_n 0, 1) := by decide +kernel
theorem dX2_empty_1 : decode cX2_empty 1 = .ok (.getfield 15, 3) := by decide +kernel
theorem dX2_empty_4 : decode cX2_empty 4 = .ok (.istore_n 1, 1) := by decide +kernel
theorem dX2_empty_5 : decode cX2_empty 5 = .ok (.aload_n 0, 1) := by decide +kernel
theorem dX2_empty_6 : decode cX2_empty 6 = .ok (.iconst 0, 1) := by decide +kernel
theorem dX2_empty_7 : decode cX2_empty 7 = .ok (.putfield 15, 3) := by decide +kernel
theorem dX2_empty_10 : decode cX2_empty 10 = .ok (.iload_n 1, 1) := by decide +kernel
theorem dX2_empty_11 : decode cX2_empty 11 = .ok (.ireturn, 1) := by decide +kernel
theorem dX2_firstFault_0 : decode cX2_firstFault 0 = .ok (.aload_n 0, 1) := by decide +kernel
theorem dX2_firstFault_1 : decode cX2_firstFault 1 = .ok (.invokevirtual 28, 3) := by decide +kernel
theorem dX2_firstFault_4 : decode cX2_firstFault 4 = .ok (.iconst 0, 1) := by decide +kernel
theorem dX2_firstFault_5 : decode cX2_firstFault 5 = .ok (.istore_n 1, 1) := by decide +kernel
theorem dX2_firstFault_6 : decode cX2_firstFault 6 = .ok (.iload_n 1, 1) := by decide +kernel
theorem dX2_firstFault_7 : decode cX2_firstFault 7 = .ok (.bipush 80, 2) := by decide +kernel
theorem dX2_firstFault_9 : decode cX2_firstFault 9 = .ok (.if_icmp .ge 40, 3) := by decide +kernel
theorem dX2_firstFault_12 : decode cX2_firstFault 12 = .ok (.aload_n 0, 1) := by decide +kernel
theorem dX2_firstFault_13 : decode cX2_firstFault 13 = .ok (.invokevirtual 31, 3) := by decide +kernel
theorem dX2_firstFault_16 : decode cX2_firstFault 16 = .ok (.ifCond .eq 33, 3) := by decide +kernel
theorem dX2_firstFault_19 : decode cX2_firstFault 19 = .ok (.aload_n 0, 1) := by decide +kernel
theorem dX2_firstFault_20 : decode cX2_firstFault 20 = .ok (.getfield 19, 3) := by decide +kernel
theorem dX2_firstFault_23 : decode cX2_firstFault 23 = .ok (.aload_n 0, 1) := by decide +kernel
theorem dX2_firstFault_24 : decode cX2_firstFault 24 = .ok (.getfield 15, 3) := by decide +kernel
theorem dX2_firstFault_27 : decode cX2_firstFault 27 = .ok (.if_icmp .ne 6, 3) := by decide +kernel
theorem dX2_firstFault_30 : decode cX2_firstFault 30 = .ok (.bipush (-6), 2) := by decide +kernel
theorem dX2_firstFault_32 : decode cX2_firstFault 32 = .ok (.ireturn, 1) := by decide +kernel
theorem dX2_firstFault_33 : decode cX2_firstFault 33 = .ok (.aload_n 0, 1) := by decide +kernel
theorem dX2_firstFault_34 : decode cX2_firstFault 34 = .ok (.invokevirtual 35, 3) := by decide +kernel
theorem dX2_firstFault_37 : decode cX2_firstFault 37 = .ok (.ifCond .ne 6, 3) := by decide +kernel
theorem dX2_firstFault_40 : decode cX2_firstFault 40 = .ok (.goto 9, 3) := by decide +kernel
theorem dX2_firstFault_43 : decode cX2_firstFault 43 = .ok (.iinc 1 1, 3) := by decide +kernel
theorem dX2_firstFault_46 : decode cX2_firstFault 46 = .ok (.goto (-40), 3) := by decide +kernel
theorem dX2_firstFault_49 : decode cX2_firstFault 49 = .ok (.aload_n 0, 1) := by decide +kernel
theorem dX2_firstFault_50 : decode cX2_firstFault 50 = .ok (.getfield 19, 3) := by decide +kernel
theorem dX2_firstFault_53 : decode cX2_firstFault 53 = .ok (.ireturn, 1) := by decide +kernel
theorem dX2_startReading_0 : decode cX2_startReading 0 = .ok (.aload_n 0, 1) := by decide +kernel
theorem dX2_startReading_1 : decode cX2_startReading 1 = .ok (.iconst 0, 1) := by decide +kernel
theorem dX2_startReading_2 : decode cX2_startReading 2 = .ok (.putfield 19, 3) := by decide +kernel
theorem dX2_startReading_5 : decode cX2_startReading 5 = .ok (.return_, 1) := by decide +kernel
theorem dX2_readOrder_0 : decode cX2_readOrder 0 = .ok (.aload_n 0, 1) := by decide +kernel
theorem dX2_readOrder_1 : decode cX2_readOrder 1 = .ok (.aload_n 0, 1) := by decide +kernel
theorem dX2_readOrder_2 : decode cX2_readOrder 2 = .ok (.invokevirtual 38, 3) := by decide +kernel
theorem dX2_readOrder_5 : decode cX2_readOrder 5 = .ok (.putfield 42, 3) := by decide +kernel
theorem dX2_readOrder_8 : decode cX2_readOrder 8 = .ok (.aload_n 0, 1) := by decide +kernel
theorem dX2_readOrder_9 : decode cX2_readOrder 9 = .ok (.iconst 1, 1) := by decide +kernel
theorem dX2_readOrder_10 : decode cX2_readOrder 10 = .ok (.putfield 45, 3) := by decide +kernel
theorem dX2_readOrder_13 : decode cX2_readOrder 13 = .ok (.aload_n 0, 1) := by decide +kernel
theorem dX2_readOrder_14 : decode cX2_readOrder 14 = .ok (.getfield 42, 3) := by decide +kernel
theorem dX2_readOrder_17 : decode cX2_readOrder 17 = .ok (.lookupswitch 150 #[(33, 138), (60, 138), (62, 138), (100, 75), (103, 90), (104, 90), (108, 75), (114, 105)], 75) := by decide +kernel
theorem dX2_readOrder_92 : decode cX2_readOrder 92 = .ok (.aload_n 0, 1) := by decide +kernel
theorem dX2_readOrder_93 : decode cX2_readOrder 93 = .ok (.dup, 1) := by decide +kernel
theorem dX2_readOrder_94 : decode cX2_readOrder 94 = .ok (.getfield 19, 3) := by decide +kernel
theorem dX2_readOrder_97 : decode cX2_readOrder 97 = .ok (.iconst 1, 1) := by decide +kernel
theorem dX2_readOrder_98 : decode cX2_readOrder 98 = .ok (.iadd, 1) := by decide +kernel
theorem dX2_readOrder_99 : decode cX2_readOrder 99 = .ok (.putfield 19, 3) := by decide +kernel
theorem dX2_readOrder_102 : decode cX2_readOrder 102 = .ok (.aload_n 0, 1) := by decide +kernel
theorem dX2_readOrder_103 : decode cX2_readOrder 103 = .ok (.invokevirtual 48, 3) := by decide +kernel
theorem dX2_readOrder_106 : decode cX2_readOrder 106 = .ok (.ireturn, 1) := by decide +kernel
theorem dX2_readOrder_107 : decode cX2_readOrder 107 = .ok (.aload_n 0, 1) := by decide +kernel
theorem dX2_readOrder_108 : decode cX2_readOrder 108 = .ok (.dup, 1) := by decide +kernel
theorem dX2_readOrder_109 : decode cX2_readOrder 109 = .ok (.getfield 19, 3) := by decide +kernel
theorem dX2_readOrder_112 : decode cX2_readOrder 112 = .ok (.iconst 1, 1) := by decide +kernel
theorem dX2_readOrder_113 : decode cX2_readOrder 113 = .ok (.iadd, 1) := by decide +kernel
theorem dX2_readOrder_114 : decode cX2_readOrder 114 = .ok (.putfield 19, 3) := by decide +kernel
theorem dX2_readOrder_117 : decode cX2_readOrder 117 = .ok (.aload_n 0, 1) := by decide +kernel
theorem dX2_readOrder_118 : decode cX2_readOrder 118 = .ok (.invokevirtual 51, 3) := by decide +kernel
theorem dX2_readOrder_121 : decode cX2_readOrder 121 = .ok (.ireturn, 1) := by decide +kernel
theorem dX2_readOrder_122 : decode cX2_readOrder 122 = .ok (.aload_n 0, 1) := by decide +kernel
theorem dX2_readOrder_123 : decode cX2_readOrder 123 = .ok (.dup, 1) := by decide +kernel
theorem dX2_readOrder_124 : decode cX2_readOrder 124 = .ok (.getfield 19, 3) := by decide +kernel
theorem dX2_readOrder_127 : decode cX2_readOrder 127 = .ok (.iconst 1, 1) := by decide +kernel
theorem dX2_readOrder_128 : decode cX2_readOrder 128 = .ok (.iadd, 1) := by decide +kernel
theorem dX2_readOrder_129 : decode cX2_readOrder 129 = .ok (.putfield 19, 3) := by decide +kernel
theorem dX2_readOrder_132 : decode cX2_readOrder 132 = .ok (.aload_n 0, 1) := by decide +kernel
theorem dX2_readOrder_133 : decode cX2_readOrder 133 = .ok (.invokevirtual 38, 3) := by decide +kernel
theorem dX2_readOrder_136 : decode cX2_readOrder 136 = .ok (.invokestatic 54, 3) := by decide +kernel
theorem dX2_readOrder_139 : decode cX2_readOrder 139 = .ok (.ifCond .eq 10, 3) := by decide +kernel
theorem dX2_readOrder_142 : decode cX2_readOrder 142 = .ok (.aload_n 0, 1) := by decide +kernel
theorem dX2_readOrder_143 : decode cX2_readOrder 143 = .ok (.invokevirtual 51, 3) := by decide +kernel
theorem dX2_readOrder_146 : decode cX2_readOrder 146 = .ok (.ifCond .eq 7, 3) := by decide +kernel
theorem dX2_readOrder_149 : decode cX2_readOrder 149 = .ok (.iconst 1, 1) := by decide +kernel
theorem dX2_readOrder_150 : decode cX2_readOrder 150 = .ok (.goto 4, 3) := by decide +kernel
theorem dX2_readOrder_153 : decode cX2_readOrder 153 = .ok (.iconst 0, 1) := by decide +kernel
theorem dX2_readOrder_154 : decode cX2_readOrder 154 = .ok (.ireturn, 1) := by decide +kernel
theorem dX2_readOrder_155 : decode cX2_readOrder 155 = .ok (.aload_n 0, 1) := by decide +kernel
theorem dX2_readOrder_156 : decode cX2_readOrder 156 = .ok (.dup, 1) := by decide +kernel
theorem dX2_readOrder_157 : decode cX2_readOrder 157 = .ok (.getfield 19, 3) := by decide +kernel
theorem dX2_readOrder_160 : decode cX2_readOrder 160 = .ok (.iconst 1, 1) := by decide +kernel
theorem dX2_readOrder_161 : decode cX2_readOrder 161 = .ok (.iadd, 1) := by decide +kernel
theorem dX2_readOrder_162 : decode cX2_readOrder 162 = .ok (.putfield 19, 3) := by decide +kernel
theorem dX2_readOrder_165 : decode cX2_readOrder 165 = .ok (.iconst 1, 1) := by decide +kernel
theorem dX2_readOrder_166 : decode cX2_readOrder 166 = .ok (.ireturn, 1) := by decide +kernel
theorem dX2_readOrder_167 : decode cX2_readOrder 167 = .ok (.iconst 0, 1) := by decide +kernel
theorem dX2_readOrder_168 : decode cX2_readOrder 168 = .ok (.ireturn, 1) := by decide +kernel
theorem dX2_skipSeparator_0 : decode cX2_skipSeparator 0 = .ok (.aload_n 0, 1) := by decide +kernel
theorem dX2_skipSeparator_1 : decode cX2_skipSeparator 1 = .ok (.invokevirtual 38, 3) := by decide +kernel
theorem dX2_skipSeparator_4 : decode cX2_skipSeparator 4 = .ok (.bipush 59, 2) := by decide +kernel
theorem dX2_skipSeparator_6 : decode cX2_skipSeparator 6 = .ok (.if_icmp .eq 5, 3) := by decide +kernel
theorem dX2_skipSeparator_9 : decode cX2_skipSeparator 9 = .ok (.iconst 0, 1) := by decide +kernel
theorem dX2_skipSeparator_10 : decode cX2_skipSeparator 10 = .ok (.ireturn, 1) := by decide +kernel
theorem dX2_skipSeparator_11 : decode cX2_skipSeparator 11 = .ok (.aload_n 0, 1) := by decide +kernel
theorem dX2_skipSeparator_12 : decode cX2_skipSeparator 12 = .ok (.dup, 1) := by decide +kernel
theorem dX2_skipSeparator_13 : decode cX2_skipSeparator 13 = .ok (.getfield 19, 3) := by decide +kernel
theorem dX2_skipSeparator_16 : decode cX2_skipSeparator 16 = .ok (.iconst 1, 1) := by decide +kernel
theorem dX2_skipSeparator_17 : decode cX2_skipSeparator 17 = .ok (.iadd, 1) := by decide +kernel
theorem dX2_skipSeparator_18 : decode cX2_skipSeparator 18 = .ok (.putfield 19, 3) := by decide +kernel
theorem dX2_skipSeparator_21 : decode cX2_skipSeparator 21 = .ok (.iconst 1, 1) := by decide +kernel
theorem dX2_skipSeparator_22 : decode cX2_skipSeparator 22 = .ok (.ireturn, 1) := by decide +kernel
theorem dX2_readDigit_0 : decode cX2_readDigit 0 = .ok (.aload_n 0, 1) := by decide +kernel
theorem dX2_readDigit_1 : decode cX2_readDigit 1 = .ok (.invokevirtual 38, 3) := by decide +kernel
theorem dX2_readDigit_4 : decode cX2_readDigit 4 = .ok (.invokestatic 54, 3) := by decide +kernel
theorem dX2_readDigit_7 : decode cX2_readDigit 7 = .ok (.ifCond .ne 5, 3) := by decide +kernel
theorem dX2_readDigit_10 : decode cX2_readDigit 10 = .ok (.iconst 0, 1) := by decide +kernel
theorem dX2_readDigit_11 : decode cX2_readDigit 11 = .ok (.ireturn, 1) := by decide +kernel
theorem dX2_readDigit_12 : decode cX2_readDigit 12 = .ok (.aload_n 0, 1) := by decide +kernel
theorem dX2_readDigit_13 : decode cX2_readDigit 13 = .ok (.aload_n 0, 1) := by decide +kernel
theorem dX2_readDigit_14 : decode cX2_readDigit 14 = .ok (.invokevirtual 38, 3) := by decide +kernel
theorem dX2_readDigit_17 : decode cX2_readDigit 17 = .ok (.bipush 48, 2) := by decide +kernel
theorem dX2_readDigit_19 : decode cX2_readDigit 19 = .ok (.isub, 1) := by decide +kernel
theorem dX2_readDigit_20 : decode cX2_readDigit 20 = .ok (.putfield 45, 3) := by decide +kernel
theorem dX2_readDigit_23 : decode cX2_readDigit 23 = .ok (.aload_n 0, 1) := by decide +kernel
theorem dX2_readDigit_24 : decode cX2_readDigit 24 = .ok (.dup, 1) := by decide +kernel
theorem dX2_readDigit_25 : decode cX2_readDigit 25 = .ok (.getfield 19, 3) := by decide +kernel
theorem dX2_readDigit_28 : decode cX2_readDigit 28 = .ok (.iconst 1, 1) := by decide +kernel
theorem dX2_readDigit_29 : decode cX2_readDigit 29 = .ok (.iadd, 1) := by decide +kernel
theorem dX2_readDigit_30 : decode cX2_readDigit 30 = .ok (.putfield 19, 3) := by decide +kernel
theorem dX2_readDigit_33 : decode cX2_readDigit 33 = .ok (.iconst 1, 1) := by decide +kernel
theorem dX2_readDigit_34 : decode cX2_readDigit 34 = .ok (.ireturn, 1) := by decide +kernel
theorem dX2_readNumber_0 : decode cX2_readNumber 0 = .ok (.aload_n 0, 1) := by decide +kernel
theorem dX2_readNumber_1 : decode cX2_readNumber 1 = .ok (.invokevirtual 48, 3) := by decide +kernel
theorem dX2_readNumber_4 : decode cX2_readNumber 4 = .ok (.ifCond .ne 5, 3) := by decide +kernel
theorem dX2_readNumber_7 : decode cX2_readNumber 7 = .ok (.iconst 0, 1) := by decide +kernel
theorem dX2_readNumber_8 : decode cX2_readNumber 8 = .ok (.ireturn, 1) := by decide +kernel
theorem dX2_readNumber_9 : decode cX2_readNumber 9 = .ok (.aload_n 0, 1) := by decide +kernel
theorem dX2_readNumber_10 : decode cX2_readNumber 10 = .ok (.getfield 45, 3) := by decide +kernel
theorem dX2_readNumber_13 : decode cX2_readNumber 13 = .ok (.ifCond .eq 42, 3) := by decide +kernel
theorem dX2_readNumber_16 : decode cX2_readNumber 16 = .ok (.aload_n 0, 1) := by decide +kernel
theorem dX2_readNumber_17 : decode cX2_readNumber 17 = .ok (.invokevirtual 38, 3) := by decide +kernel
theorem dX2_readNumber_20 : decode cX2_readNumber 20 = .ok (.invokestatic 54, 3) := by decide +kernel
theorem dX2_readNumber_23 : decode cX2_readNumber 23 = .ok (.ifCond .eq 32, 3) := by decide +kernel
theorem dX2_readNumber_26 : decode cX2_readNumber 26 = .ok (.aload_n 0, 1) := by decide +kernel
theorem dX2_readNumber_27 : decode cX2_readNumber 27 = .ok (.aload_n 0, 1) := by decide +kernel
theorem dX2_readNumber_28 : decode cX2_readNumber 28 = .ok (.getfield 45, 3) := by decide +kernel
theorem dX2_readNumber_31 : decode cX2_readNumber 31 = .ok (.bipush 10, 2) := by decide +kernel
theorem dX2_readNumber_33 : decode cX2_readNumber 33 = .ok (.imul, 1) := by decide +kernel
theorem dX2_readNumber_34 : decode cX2_readNumber 34 = .ok (.aload_n 0, 1) := by decide +kernel
theorem dX2_readNumber_35 : decode cX2_readNumber 35 = .ok (.invokevirtual 38, 3) := by decide +kernel
theorem dX2_readNumber_38 : decode cX2_readNumber 38 = .ok (.iadd, 1) := by decide +kernel
theorem dX2_readNumber_39 : decode cX2_readNumber 39 = .ok (.bipush 48, 2) := by decide +kernel
theorem dX2_readNumber_41 : decode cX2_readNumber 41 = .ok (.isub, 1) := by decide +kernel
theorem dX2_readNumber_42 : decode cX2_readNumber 42 = .ok (.putfield 45, 3) := by decide +kernel
theorem dX2_readNumber_45 : decode cX2_readNumber 45 = .ok (.aload_n 0, 1) := by decide +kernel
theorem dX2_readNumber_46 : decode cX2_readNumber 46 = .ok (.dup, 1) := by decide +kernel
theorem dX2_readNumber_47 : decode cX2_readNumber 47 = .ok (.getfield 19, 3) := by decide +kernel
theorem dX2_readNumber_50 : decode cX2_readNumber 50 = .ok (.iconst 1, 1) := by decide +kernel
theorem dX2_readNumber_51 : decode cX2_readNumber 51 = .ok (.iadd, 1) := by decide +kernel
theorem dX2_readNumber_52 : decode cX2_readNumber 52 = .ok (.putfield 19, 3) := by decide +kernel
theorem dX2_readNumber_55 : decode cX2_readNumber 55 = .ok (.iconst 1, 1) := by decide +kernel
theorem dX2_readNumber_56 : decode cX2_readNumber 56 = .ok (.ireturn, 1) := by decide +kernel
theorem dX2_codeHere_0 : decode cX2_codeHere 0 = .ok (.aload_n 0, 1) := by decide +kernel
theorem dX2_codeHere_1 : decode cX2_codeHere 1 = .ok (.getfield 19, 3) := by decide +kernel
theorem dX2_codeHere_4 : decode cX2_codeHere 4 = .ok (.ifCond .lt 35, 3) := by decide +kernel
theorem dX2_codeHere_7 : decode cX2_codeHere 7 = .ok (.aload_n 0, 1) := by decide +kernel
theorem dX2_codeHere_8 : decode cX2_codeHere 8 = .ok (.getfield 19, 3) := by decide +kernel
theorem dX2_codeHere_11 : decode cX2_codeHere 11 = .ok (.aload_n 0, 1) := by decide +kernel
theorem dX2_codeHere_12 : decode cX2_codeHere 12 = .ok (.getfield 15, 3) := by decide +kernel
theorem dX2_codeHere_15 : decode cX2_codeHere 15 = .ok (.if_icmp .ge 24, 3) := by decide +kernel
theorem dX2_codeHere_18 : decode cX2_codeHere 18 = .ok (.aload_n 0, 1) := by decide +kernel
theorem dX2_codeHere_19 : decode cX2_codeHere 19 = .ok (.getfield 19, 3) := by decide +kernel
theorem dX2_codeHere_22 : decode cX2_codeHere 22 = .ok (.bipush 80, 2) := by decide +kernel
theorem dX2_codeHere_24 : decode cX2_codeHere 24 = .ok (.if_icmp .ge 15, 3) := by decide +kernel
theorem dX2_codeHere_27 : decode cX2_codeHere 27 = .ok (.aload_n 0, 1) := by decide +kernel
theorem dX2_codeHere_28 : decode cX2_codeHere 28 = .ok (.getfield 11, 3) := by decide +kernel
theorem dX2_codeHere_31 : decode cX2_codeHere 31 = .ok (.aload_n 0, 1) := by decide +kernel
theorem dX2_codeHere_32 : decode cX2_codeHere 32 = .ok (.getfield 19, 3) := by decide +kernel
theorem dX2_codeHere_35 : decode cX2_codeHere 35 = .ok (.iaload, 1) := by decide +kernel
theorem dX2_codeHere_36 : decode cX2_codeHere 36 = .ok (.goto 4, 3) := by decide +kernel
theorem dX2_codeHere_39 : decode cX2_codeHere 39 = .ok (.iconst 0, 1) := by decide +kernel
theorem dX2_codeHere_40 : decode cX2_codeHere 40 = .ok (.ireturn, 1) := by decide +kernel
theorem dX2_isDigit_0 : decode cX2_isDigit 0 = .ok (.iload_n 0, 1) := by decide +kernel
theorem dX2_isDigit_1 : decode cX2_isDigit 1 = .ok (.bipush 48, 2) := by decide +kernel
theorem dX2_isDigit_3 : decode cX2_isDigit 3 = .ok (.if_icmp .lt 13, 3) := by decide +kernel
theorem dX2_isDigit_6 : decode cX2_isDigit 6 = .ok (.iload_n 0, 1) := by decide +kernel
theorem dX2_isDigit_7 : decode cX2_isDigit 7 = .ok (.bipush 57, 2) := by decide +kernel
theorem dX2_isDigit_9 : decode cX2_isDigit 9 = .ok (.if_icmp .gt 7, 3) := by decide +kernel
theorem dX2_isDigit_12 : decode cX2_isDigit 12 = .ok (.iconst 1, 1) := by decide +kernel
theorem dX2_isDigit_13 : decode cX2_isDigit 13 = .ok (.goto 4, 3) := by decide +kernel
theorem dX2_isDigit_16 : decode cX2_isDigit 16 = .ok (.iconst 0, 1) := by decide +kernel
theorem dX2_isDigit_17 : decode cX2_isDigit 17 = .ok (.ireturn, 1) := by decide +kernel
theorem dX3_init_0 : decode cX3_init 0 = .ok (.aload_n 0, 1) := by decide +kernel
theorem dX3_init_1 : decode cX3_init 1 = .ok (.invokespecial 1, 3) := by decide +kernel
theorem dX3_init_4 : decode cX3_init 4 = .ok (.aload_n 0, 1) := by decide +kernel
theorem dX3_init_5 : decode cX3_init 5 = .ok (.iconst 4, 1) := by decide +kernel
theorem dX3_init_6 : decode cX3_init 6 = .ok (.bipush 10, 2) := by decide +kernel
theorem dX3_init_8 : decode cX3_init 8 = .ok (.multianewarray 9 2, 4) := by decide +kernel
theorem dX3_init_12 : decode cX3_init 12 = .ok (.putfield 11, 3) := by decide +kernel
theorem dX3_init_15 : decode cX3_init 15 = .ok (.aload_n 0, 1) := by decide +kernel
theorem dX3_init_16 : decode cX3_init 16 = .ok (.iconst 0, 1) := by decide +kernel
theorem dX3_init_17 : decode cX3_init 17 = .ok (.putfield 14, 3) := by decide +kernel
theorem dX3_init_20 : decode cX3_init 20 = .ok (.return_, 1) := by decide +kernel
theorem dX3_copyFrom_0 : decode cX3_copyFrom 0 = .ok (.iconst 0, 1) := by decide +kernel
theorem dX3_copyFrom_1 : decode cX3_copyFrom 1 = .ok (.istore_n 2, 1) := by decide +kernel
theorem dX3_copyFrom_2 : decode cX3_copyFrom 2 = .ok (.iload_n 2, 1) := by decide +kernel
theorem dX3_copyFrom_3 : decode cX3_copyFrom 3 = .ok (.iconst 4, 1) := by decide +kernel
theorem dX3_copyFrom_4 : decode cX3_copyFrom 4 = .ok (.if_icmp .ge 28, 3) := by decide +kernel
theorem dX3_copyFrom_7 : decode cX3_copyFrom 7 = .ok (.aload_n 1, 1) := by decide +kernel
theorem dX3_copyFrom_8 : decode cX3_copyFrom 8 = .ok (.getfield 11, 3) := by decide +kernel
theorem dX3_copyFrom_11 : decode cX3_copyFrom 11 = .ok (.iload_n 2, 1) := by decide +kernel
theorem dX3_copyFrom_12 : decode cX3_copyFrom 12 = .ok (.aaload, 1) := by decide +kernel
theorem dX3_copyFrom_13 : decode cX3_copyFrom 13 = .ok (.iconst 0, 1) := by decide +kernel
theorem dX3_copyFrom_14 : decode cX3_copyFrom 14 = .ok (.aload_n 0, 1) := by decide +kernel
theorem dX3_copyFrom_15 : decode cX3_copyFrom 15 = .ok (.getfield 11, 3) := by decide +kernel
theorem dX3_copyFrom_18 : decode cX3_copyFrom 18 = .ok (.iload_n 2, 1) := by decide +kernel
theorem dX3_copyFrom_19 : decode cX3_copyFrom 19 = .ok (.aaload, 1) := by decide +kernel
theorem dX3_copyFrom_20 : decode cX3_copyFrom 20 = .ok (.iconst 0, 1) := by decide +kernel
theorem dX3_copyFrom_21 : decode cX3_copyFrom 21 = .ok (.bipush 10, 2) := by decide +kernel
theorem dX3_copyFrom_23 : decode cX3_copyFrom 23 = .ok (.invokestatic 18, 3) := by decide +kernel
theorem dX3_copyFrom_26 : decode cX3_copyFrom 26 = .ok (.iinc 2 1, 3) := by decide +kernel
theorem dX3_copyFrom_29 : decode cX3_copyFrom 29 = .ok (.goto (-27), 3) := by decide +kernel
theorem dX3_copyFrom_32 : decode cX3_copyFrom 32 = .ok (.aload_n 0, 1) := by decide +kernel
theorem dX3_copyFrom_33 : decode cX3_copyFrom 33 = .ok (.aload_n 1, 1) := by decide +kernel
theorem dX3_copyFrom_34 : decode cX3_copyFrom 34 = .ok (.getfield 14, 3) := by decide +kernel
theorem dX3_copyFrom_37 : decode cX3_copyFrom 37 = .ok (.putfield 14, 3) := by decide +kernel
theorem dX3_copyFrom_40 : decode cX3_copyFrom 40 = .ok (.return_, 1) := by decide +kernel
theorem dX3_has_0 : decode cX3_has 0 = .ok (.iload_n 1, 1) := by decide +kernel
theorem dX3_has_1 : decode cX3_has 1 = .ok (.ifCond .lt 21, 3) := by decide +kernel
theorem dX3_has_4 : decode cX3_has 4 = .ok (.iload_n 1, 1) := by decide +kernel
theorem dX3_has_5 : decode cX3_has 5 = .ok (.aload_n 0, 1) := by decide +kernel
theorem dX3_has_6 : decode cX3_has 6 = .ok (.getfield 14, 3) := by decide +kernel
theorem dX3_has_9 : decode cX3_has 9 = .ok (.if_icmp .ge 13, 3) := by decide +kernel
theorem dX3_has_12 : decode cX3_has 12 = .ok (.iload_n 1, 1) := by decide +kernel
theorem dX3_has_13 : decode cX3_has 13 = .ok (.bipush 10, 2) := by decide +kernel
theorem dX3_has_15 : decode cX3_has 15 = .ok (.if_icmp .ge 7, 3) := by decide +kernel
theorem dX3_has_18 : decode cX3_has 18 = .ok (.iconst 1, 1) := by decide +kernel
theorem dX3_has_19 : decode cX3_has 19 = .ok (.goto 4, 3) := by decide +kernel
theorem dX3_has_22 : decode cX3_has 22 = .ok (.iconst 0, 1) := by decide +kernel
theorem dX3_has_23 : decode cX3_has 23 = .ok (.ireturn, 1) := by decide +kernel
theorem dX3_entry_0 : decode cX3_entry 0 = .ok (.aload_n 0, 1) := by decide +kernel
theorem dX3_entry_1 : decode cX3_entry 1 = .ok (.iload_n 1, 1) := by decide +kernel
theorem dX3_entry_2 : decode cX3_entry 2 = .ok (.invokevirtual 24, 3) := by decide +kernel
theorem dX3_entry_5 : decode cX3_entry 5 = .ok (.ifCond .eq 12, 3) := by decide +kernel
theorem dX3_entry_8 : decode cX3_entry 8 = .ok (.iload_n 2, 1) := by decide +kernel
theorem dX3_entry_9 : decode cX3_entry 9 = .ok (.ifCond .lt 8, 3) := by decide +kernel
theorem dX3_entry_12 : decode cX3_entry 12 = .ok (.iload_n 2, 1) := by decide +kernel
theorem dX3_entry_13 : decode cX3_entry 13 = .ok (.iconst 4, 1) := by decide +kernel
theorem dX3_entry_14 : decode cX3_entry 14 = .ok (.if_icmp .lt 5, 3) := by decide +kernel
theorem dX3_entry_17 : decode cX3_entry 17 = .ok (.iconst 0, 1) := by decide +kernel
theorem dX3_entry_18 : decode cX3_entry 18 = .ok (.ireturn, 1) := by decide +kernel
theorem dX3_entry_19 : decode cX3_entry 19 = .ok (.aload_n 0, 1) := by decide +kernel
theorem dX3_entry_20 : decode cX3_entry 20 = .ok (.getfield 11, 3) := by decide +kernel
theorem dX3_entry_23 : decode cX3_entry 23 = .ok (.iload_n 2, 1) := by decide +kernel
theorem dX3_entry_24 : decode cX3_entry 24 = .ok (.aaload, 1) := by decide +kernel
theorem dX3_entry_25 : decode cX3_entry 25 = .ok (.iload_n 1, 1) := by decide +kernel
theorem dX3_entry_26 : decode cX3_entry 26 = .ok (.iaload, 1) := by decide +kernel
theorem dX3_entry_27 : decode cX3_entry 27 = .ok (.ireturn, 1) := by decide +kernel
theorem dX3_add_0 : decode cX3_add 0 = .ok (.iconst 0, 1) := by decide +kernel
theorem dX3_add_1 : decode cX3_add 1 = .ok (.istore_n 2, 1) := by decide +kernel
theorem dX3_add_2 : decode cX3_add 2 = .ok (.iload_n 2, 1) := by decide +kernel
theorem dX3_add_3 : decode cX3_add 3 = .ok (.iconst 4, 1) := by decide +kernel
theorem dX3_add_4 : decode cX3_add 4 = .ok (.if_icmp .ge 28, 3) := by decide +kernel
theorem dX3_add_7 : decode cX3_add 7 = .ok (.aload_n 0, 1) := by decide +kernel
theorem dX3_add_8 : decode cX3_add 8 = .ok (.getfield 11, 3) := by decide +kernel
theorem dX3_add_11 : decode cX3_add 11 = .ok (.iload_n 2, 1) := by decide +kernel
theorem dX3_add_12 : decode cX3_add 12 = .ok (.aaload, 1) := by decide +kernel
theorem dX3_add_13 : decode cX3_add 13 = .ok (.iconst 0, 1) := by decide +kernel
theorem dX3_add_14 : decode cX3_add 14 = .ok (.aload_n 0, 1) := by decide +kernel
theorem dX3_add_15 : decode cX3_add 15 = .ok (.getfield 11, 3) := by decide +kernel
theorem dX3_add_18 : decode cX3_add 18 = .ok (.iload_n 2, 1) := by decide +kernel
theorem dX3_add_19 : decode cX3_add 19 = .ok (.aaload, 1) := by decide +kernel
theorem dX3_add_20 : decode cX3_add 20 = .ok (.iconst 1, 1) := by decide +kernel
theorem dX3_add_21 : decode cX3_add 21 = .ok (.bipush 9, 2) := by decide +kernel
theorem dX3_add_23 : decode cX3_add 23 = .ok (.invokestatic 18, 3) := by decide +kernel
theorem dX3_add_26 : decode cX3_add 26 = .ok (.iinc 2 1, 3) := by decide +kernel
theorem dX3_add_29 : decode cX3_add 29 = .ok (.goto (-27), 3) := by decide +kernel
theorem dX3_add_32 : decode cX3_add 32 = .ok (.aload_n 0, 1) := by decide +kernel
theorem dX3_add_33 : decode cX3_add 33 = .ok (.getfield 11, 3) := by decide +kernel
theorem dX3_add_36 : decode cX3_add 36 = .ok (.iconst 0, 1) := by decide +kernel
theorem dX3_add_37 : decode cX3_add 37 = .ok (.aaload, 1) := by decide +kernel
theorem dX3_add_38 : decode cX3_add 38 = .ok (.iconst 0, 1) := by decide +kernel
theorem dX3_add_39 : decode cX3_add 39 = .ok (.aload_n 1, 1) := by decide +kernel
theorem dX3_add_40 : decode cX3_add 40 = .ok (.getfield 28, 3) := by decide +kernel
theorem dX3_add_43 : decode cX3_add 43 = .ok (.iastore, 1) := by decide +kernel
theorem dX3_add_44 : decode cX3_add 44 = .ok (.aload_n 0, 1) := by decide +kernel
theorem dX3_add_45 : decode cX3_add 45 = .ok (.getfield 11, 3) := by decide +kernel
theorem dX3_add_48 : decode cX3_add 48 = .ok (.iconst 1, 1) := by decide +kernel
theorem dX3_add_49 : decode cX3_add 49 = .ok (.aaload, 1) := by decide +kernel
theorem dX3_add_50 : decode cX3_add 50 = .ok (.iconst 0, 1) := by decide +kernel
theorem dX3_add_51 : decode cX3_add 51 = .ok (.aload_n 1, 1) := by decide +kernel
theorem dX3_add_52 : decode cX3_add 52 = .ok (.getfield 33, 3) := by decide +kernel
theorem dX3_add_55 : decode cX3_add 55 = .ok (.iastore, 1) := by decide +kernel
theorem dX3_add_56 : decode cX3_add 56 = .ok (.aload_n 0, 1) := by decide +kernel
theorem dX3_add_57 : decode cX3_add 57 = .ok (.getfield 11, 3) := by decide +kernel
theorem dX3_add_60 : decode cX3_add 60 = .ok (.iconst 2, 1) := by decide +kernel
theorem dX3_add_61 : decode cX3_add 61 = .ok (.aaload, 1) := by decide +kernel
theorem dX3_add_62 : decode cX3_add 62 = .ok (.iconst 0, 1) := by decide +kernel
theorem dX3_add_63 : decode cX3_add 63 = .ok (.aload_n 1, 1) := by decide +kernel
theorem dX3_add_64 : decode cX3_add 64 = .ok (.getfield 36, 3) := by decide +kernel
theorem dX3_add_67 : decode cX3_add 67 = .ok (.iastore, 1) := by decide +kernel
theorem dX3_add_68 : decode cX3_add 68 = .ok (.aload_n 0, 1) := by decide +kernel
theorem dX3_add_69 : decode cX3_add 69 = .ok (.getfield 11, 3) := by decide +kernel
theorem dX3_add_72 : decode cX3_add 72 = .ok (.iconst 3, 1) := by decide +kernel
theorem dX3_add_73 : decode cX3_add 73 = .ok (.aaload, 1) := by decide +kernel
theorem dX3_add_74 : decode cX3_add 74 = .ok (.iconst 0, 1) := by decide +kernel
theorem dX3_add_75 : decode cX3_add 75 = .ok (.aload_n 1, 1) := by decide +kernel
theorem dX3_add_76 : decode cX3_add 76 = .ok (.getfield 39, 3) := by decide +kernel
theorem dX3_add_79 : decode cX3_add 79 = .ok (.iastore, 1) := by decide +kernel
theorem dX3_add_80 : decode cX3_add 80 = .ok (.aload_n 0, 1) := by decide +kernel
theorem dX3_add_81 : decode cX3_add 81 = .ok (.bipush 10, 2) := by decide +kernel
theorem dX3_add_83 : decode cX3_add 83 = .ok (.aload_n 0, 1) := by decide +kernel
theorem dX3_add_84 : decode cX3_add 84 = .ok (.getfield 14, 3) := by decide +kernel
theorem dX3_add_87 : decode cX3_add 87 = .ok (.iconst 1, 1) := by decide +kernel
theorem dX3_add_88 : decode cX3_add 88 = .ok (.iadd, 1) := by decide +kernel
theorem dX3_add_89 : decode cX3_add 89 = .ok (.invokestatic 42, 3) := by decide +kernel
theorem dX3_add_92 : decode cX3_add 92 = .ok (.putfield 14, 3) := by decide +kernel
theorem dX3_add_95 : decode cX3_add 95 = .ok (.return_, 1) := by decide +kernel
theorem dX4_init_0 : decode cX4_init 0 = .ok (.aload_n 0, 1) := by decide +kernel
theorem dX4_init_1 : decode cX4_init 1 = .ok (.invokespecial 1, 3) := by decide +kernel
theorem dX4_init_4 : decode cX4_init 4 = .ok (.aload_n 0, 1) := by decide +kernel
theorem dX4_init_5 : decode cX4_init 5 = .ok (.getstatic 7, 3) := by decide +kernel
theorem dX4_init_8 : decode cX4_init 8 = .ok (.invokevirtual 13, 3) := by decide +kernel
theorem dX4_init_11 : decode cX4_init 11 = .ok (.checkcast 14, 3) := by decide +kernel
theorem dX4_init_14 : decode cX4_init 14 = .ok (.putfield 18, 3) := by decide +kernel
theorem dX4_init_17 : decode cX4_init 17 = .ok (.return_, 1) := by decide +kernel
theorem dX4_copyFrom_0 : decode cX4_copyFrom 0 = .ok (.aload_n 1, 1) := by decide +kernel
theorem dX4_copyFrom_1 : decode cX4_copyFrom 1 = .ok (.getfield 18, 3) := by decide +kernel
theorem dX4_copyFrom_4 : decode cX4_copyFrom 4 = .ok (.iconst 0, 1) := by decide +kernel
theorem dX4_copyFrom_5 : decode cX4_copyFrom 5 = .ok (.aload_n 0, 1) := by decide +kernel
theorem dX4_copyFrom_6 : decode cX4_copyFrom 6 = .ok (.getfield 18, 3) := by decide +kernel
theorem dX4_copyFrom_9 : decode cX4_copyFrom 9 = .ok (.iconst 0, 1) := by decide +kernel
theorem dX4_copyFrom_10 : decode cX4_copyFrom 10 = .ok (.iconst 4, 1) := by decide +kernel
theorem dX4_copyFrom_11 : decode cX4_copyFrom 11 = .ok (.invokestatic 21, 3) := by decide +kernel
theorem dX4_copyFrom_14 : decode cX4_copyFrom 14 = .ok (.return_, 1) := by decide +kernel
theorem dX4_allows_0 : decode cX4_allows 0 = .ok (.iload_n 1, 1) := by decide +kernel
theorem dX4_allows_1 : decode cX4_allows 1 = .ok (.ifCond .lt 30, 3) := by decide +kernel
theorem dX4_allows_4 : decode cX4_allows 4 = .ok (.iload_n 1, 1) := by decide +kernel
theorem dX4_allows_5 : decode cX4_allows 5 = .ok (.iconst 4, 1) := by decide +kernel
theorem dX4_allows_6 : decode cX4_allows 6 = .ok (.if_icmp .ge 25, 3) := by decide +kernel
theorem dX4_allows_9 : decode cX4_allows 9 = .ok (.iload_n 2, 1) := by decide +kernel
theorem dX4_allows_10 : decode cX4_allows 10 = .ok (.getstatic 27, 3) := by decide +kernel
theorem dX4_allows_13 : decode cX4_allows 13 = .ok (.iload_n 1, 1) := by decide +kernel
theorem dX4_allows_14 : decode cX4_allows 14 = .ok (.iaload, 1) := by decide +kernel
theorem dX4_allows_15 : decode cX4_allows 15 = .ok (.if_icmp .lt 16, 3) := by decide +kernel
theorem dX4_allows_18 : decode cX4_allows 18 = .ok (.iload_n 2, 1) := by decide +kernel
theorem dX4_allows_19 : decode cX4_allows 19 = .ok (.getstatic 30, 3) := by decide +kernel
theorem dX4_allows_22 : decode cX4_allows 22 = .ok (.iload_n 1, 1) := by decide +kernel
theorem dX4_allows_23 : decode cX4_allows 23 = .ok (.iaload, 1) := by decide +kernel
theorem dX4_allows_24 : decode cX4_allows 24 = .ok (.if_icmp .gt 7, 3) := by decide +kernel
theorem dX4_allows_27 : decode cX4_allows 27 = .ok (.iconst 1, 1) := by decide +kernel
theorem dX4_allows_28 : decode cX4_allows 28 = .ok (.goto 4, 3) := by decide +kernel
theorem dX4_allows_31 : decode cX4_allows 31 = .ok (.iconst 0, 1) := by decide +kernel
theorem dX4_allows_32 : decode cX4_allows 32 = .ok (.ireturn, 1) := by decide +kernel
theorem dX4_value_0 : decode cX4_value 0 = .ok (.iload_n 1, 1) := by decide +kernel
theorem dX4_value_1 : decode cX4_value 1 = .ok (.ifCond .lt 17, 3) := by decide +kernel
theorem dX4_value_4 : decode cX4_value 4 = .ok (.iload_n 1, 1) := by decide +kernel
theorem dX4_value_5 : decode cX4_value 5 = .ok (.iconst 4, 1) := by decide +kernel
theorem dX4_value_6 : decode cX4_value 6 = .ok (.if_icmp .ge 12, 3) := by decide +kernel
theorem dX4_value_9 : decode cX4_value 9 = .ok (.aload_n 0, 1) := by decide +kernel
theorem dX4_value_10 : decode cX4_value 10 = .ok (.getfield 18, 3) := by decide +kernel
theorem dX4_value_13 : decode cX4_value 13 = .ok (.iload_n 1, 1) := by decide +kernel
theorem dX4_value_14 : decode cX4_value 14 = .ok (.iaload, 1) := by decide +kernel
theorem dX4_value_15 : decode cX4_value 15 = .ok (.goto 4, 3) := by decide +kernel
theorem dX4_value_18 : decode cX4_value 18 = .ok (.iconst 0, 1) := by decide +kernel
theorem dX4_value_19 : decode cX4_value 19 = .ok (.ireturn, 1) := by decide +kernel
theorem dX4_change_0 : decode cX4_change 0 = .ok (.aload_n 0, 1) := by decide +kernel
theorem dX4_change_1 : decode cX4_change 1 = .ok (.iload_n 1, 1) := by decide +kernel
theorem dX4_change_2 : decode cX4_change 2 = .ok (.invokevirtual 33, 3) := by decide +kernel
theorem dX4_change_5 : decode cX4_change 5 = .ok (.istore_n 3, 1) := by decide +kernel
theorem dX4_change_6 : decode cX4_change 6 = .ok (.aload_n 0, 1) := by decide +kernel
theorem dX4_change_7 : decode cX4_change 7 = .ok (.iload_n 1, 1) := by decide +kernel
theorem dX4_change_8 : decode cX4_change 8 = .ok (.iload_n 2, 1) := by decide +kernel
theorem dX4_change_9 : decode cX4_change 9 = .ok (.invokevirtual 37, 3) := by decide +kernel
theorem dX4_change_12 : decode cX4_change 12 = .ok (.ifCond .eq 10, 3) := by decide +kernel
theorem dX4_change_15 : decode cX4_change 15 = .ok (.aload_n 0, 1) := by decide +kernel
theorem dX4_change_16 : decode cX4_change 16 = .ok (.getfield 18, 3) := by decide +kernel
theorem dX4_change_19 : decode cX4_change 19 = .ok (.iload_n 1, 1) := by decide +kernel
theorem dX4_change_20 : decode cX4_change 20 = .ok (.iload_n 2, 1) := by decide +kernel
theorem dX4_change_21 : decode cX4_change 21 = .ok (.iastore, 1) := by decide +kernel
theorem dX4_change_22 : decode cX4_change 22 = .ok (.iload_n 3, 1) := by decide +kernel
theorem dX4_change_23 : decode cX4_change 23 = .ok (.ireturn, 1) := by decide +kernel
theorem dX5_init_0 : decode cX5_init 0 = .ok (.aload_n 0, 1) := by decide +kernel
theorem dX5_init_1 : decode cX5_init 1 = .ok (.invokespecial 1, 3) := by decide +kernel
theorem dX5_init_4 : decode cX5_init 4 = .ok (.aload_n 0, 1) := by decide +kernel
theorem dX5_init_5 : decode cX5_init 5 = .ok (.iconst 5, 1) := by decide +kernel
theorem dX5_init_6 : decode cX5_init 6 = .ok (.bipush 20, 2) := by decide +kernel
theorem dX5_init_8 : decode cX5_init 8 = .ok (.multianewarray 9 2, 4) := by decide +kernel
theorem dX5_init_12 : decode cX5_init 12 = .ok (.putfield 11, 3) := by decide +kernel
theorem dX5_init_15 : decode cX5_init 15 = .ok (.aload_n 0, 1) := by decide +kernel
theorem dX5_init_16 : decode cX5_init 16 = .ok (.iconst 0, 1) := by decide +kernel
theorem dX5_init_17 : decode cX5_init 17 = .ok (.putfield 14, 3) := by decide +kernel
theorem dX5_init_20 : decode cX5_init 20 = .ok (.return_, 1) := by decide +kernel
theorem dX5_copyFrom_0 : decode cX5_copyFrom 0 = .ok (.iconst 0, 1) := by decide +kernel
theorem dX5_copyFrom_1 : decode cX5_copyFrom 1 = .ok (.istore_n 2, 1) := by decide +kernel
theorem dX5_copyFrom_2 : decode cX5_copyFrom 2 = .ok (.iload_n 2, 1) := by decide +kernel
theorem dX5_copyFrom_3 : decode cX5_copyFrom 3 = .ok (.iconst 5, 1) := by decide +kernel
theorem dX5_copyFrom_4 : decode cX5_copyFrom 4 = .ok (.if_icmp .ge 28, 3) := by decide +kernel
theorem dX5_copyFrom_7 : decode cX5_copyFrom 7 = .ok (.aload_n 1, 1) := by decide +kernel
theorem dX5_copyFrom_8 : decode cX5_copyFrom 8 = .ok (.getfield 11, 3) := by decide +kernel
theorem dX5_copyFrom_11 : decode cX5_copyFrom 11 = .ok (.iload_n 2, 1) := by decide +kernel
theorem dX5_copyFrom_12 : decode cX5_copyFrom 12 = .ok (.aaload, 1) := by decide +kernel
theorem dX5_copyFrom_13 : decode cX5_copyFrom 13 = .ok (.iconst 0, 1) := by decide +kernel
theorem dX5_copyFrom_14 : decode cX5_copyFrom 14 = .ok (.aload_n 0, 1) := by decide +kernel
theorem dX5_copyFrom_15 : decode cX5_copyFrom 15 = .ok (.getfield 11, 3) := by decide +kernel
theorem dX5_copyFrom_18 : decode cX5_copyFrom 18 = .ok (.iload_n 2, 1) := by decide +kernel
theorem dX5_copyFrom_19 : decode cX5_copyFrom 19 = .ok (.aaload, 1) := by decide +kernel
theorem dX5_copyFrom_20 : decode cX5_copyFrom 20 = .ok (.iconst 0, 1) := by decide +kernel
theorem dX5_copyFrom_21 : decode cX5_copyFrom 21 = .ok (.bipush 20, 2) := by decide +kernel
theorem dX5_copyFrom_23 : decode cX5_copyFrom 23 = .ok (.invokestatic 18, 3) := by decide +kernel
theorem dX5_copyFrom_26 : decode cX5_copyFrom 26 = .ok (.iinc 2 1, 3) := by decide +kernel
theorem dX5_copyFrom_29 : decode cX5_copyFrom 29 = .ok (.goto (-27), 3) := by decide +kernel
theorem dX5_copyFrom_32 : decode cX5_copyFrom 32 = .ok (.aload_n 0, 1) := by decide +kernel
theorem dX5_copyFrom_33 : decode cX5_copyFrom 33 = .ok (.aload_n 1, 1) := by decide +kernel
theorem dX5_copyFrom_34 : decode cX5_copyFrom 34 = .ok (.getfield 14, 3) := by decide +kernel
theorem dX5_copyFrom_37 : decode cX5_copyFrom 37 = .ok (.putfield 14, 3) := by decide +kernel
theorem dX5_copyFrom_40 : decode cX5_copyFrom 40 = .ok (.return_, 1) := by decide +kernel
theorem dX5_has_0 : decode cX5_has 0 = .ok (.iload_n 1, 1) := by decide +kernel
theorem dX5_has_1 : decode cX5_has 1 = .ok (.ifCond .lt 21, 3) := by decide +kernel
theorem dX5_has_4 : decode cX5_has 4 = .ok (.iload_n 1, 1) := by decide +kernel
theorem dX5_has_5 : decode cX5_has 5 = .ok (.aload_n 0, 1) := by decide +kernel
theorem dX5_has_6 : decode cX5_has 6 = .ok (.getfield 14, 3) := by decide +kernel
theorem dX5_has_9 : decode cX5_has 9 = .ok (.if_icmp .ge 13, 3) := by decide +kernel
theorem dX5_has_12 : decode cX5_has 12 = .ok (.iload_n 1, 1) := by decide +kernel
theorem dX5_has_13 : decode cX5_has 13 = .ok (.bipush 20, 2) := by decide +kernel
theorem dX5_has_15 : decode cX5_has 15 = .ok (.if_icmp .ge 7, 3) := by decide +kernel
theorem dX5_has_18 : decode cX5_has 18 = .ok (.iconst 1, 1) := by decide +kernel
theorem dX5_has_19 : decode cX5_has 19 = .ok (.goto 4, 3) := by decide +kernel
theorem dX5_has_22 : decode cX5_has 22 = .ok (.iconst 0, 1) := by decide +kernel
theorem dX5_has_23 : decode cX5_has 23 = .ok (.ireturn, 1) := by decide +kernel
theorem dX5_allows_0 : decode cX5_allows 0 = .ok (.iload_n 0, 1) := by decide +kernel
theorem dX5_allows_1 : decode cX5_allows 1 = .ok (.ifCond .lt 13, 3) := by decide +kernel
theorem dX5_allows_4 : decode cX5_allows 4 = .ok (.iload_n 0, 1) := by decide +kernel
theorem dX5_allows_5 : decode cX5_allows 5 = .ok (.iconst 2, 1) := by decide +kernel
theorem dX5_allows_6 : decode cX5_allows 6 = .ok (.if_icmp .gt 8, 3) := by decide +kernel
theorem dX5_allows_9 : decode cX5_allows 9 = .ok (.iload_n 1, 1) := by decide +kernel
theorem dX5_allows_10 : decode cX5_allows 10 = .ok (.iconst 1, 1) := by decide +kernel
theorem dX5_allows_11 : decode cX5_allows 11 = .ok (.if_icmp .ge 5, 3) := by decide +kernel
theorem dX5_allows_14 : decode cX5_allows 14 = .ok (.iconst 0, 1) := by decide +kernel
theorem dX5_allows_15 : decode cX5_allows 15 = .ok (.ireturn, 1) := by decide +kernel
theorem dX5_allows_16 : decode cX5_allows 16 = .ok (.iload_n 1, 1) := by decide +kernel
theorem dX5_allows_17 : decode cX5_allows 17 = .ok (.iload_n 0, 1) := by decide +kernel
theorem dX5_allows_18 : decode cX5_allows 18 = .ok (.iconst 2, 1) := by decide +kernel
theorem dX5_allows_19 : decode cX5_allows 19 = .ok (.if_icmp .ne 8, 3) := by decide +kernel
theorem dX5_allows_22 : decode cX5_allows 22 = .ok (.bipush 99, 2) := by decide +kernel
theorem dX5_allows_24 : decode cX5_allows 24 = .ok (.goto 5, 3) := by decide +kernel
theorem dX5_allows_27 : decode cX5_allows 27 = .ok (.bipush 9, 2) := by decide +kernel
theorem dX5_allows_29 : decode cX5_allows 29 = .ok (.if_icmp .gt 7, 3) := by decide +kernel
theorem dX5_allows_32 : decode cX5_allows 32 = .ok (.iconst 1, 1) := by decide +kernel
theorem dX5_allows_33 : decode cX5_allows 33 = .ok (.goto 4, 3) := by decide +kernel
theorem dX5_allows_36 : decode cX5_allows 36 = .ok (.iconst 0, 1) := by decide +kernel
theorem dX5_allows_37 : decode cX5_allows 37 = .ok (.ireturn, 1) := by decide +kernel
theorem dX5_entry_0 : decode cX5_entry 0 = .ok (.aload_n 0, 1) := by decide +kernel
theorem dX5_entry_1 : decode cX5_entry 1 = .ok (.iload_n 1, 1) := by decide +kernel
theorem dX5_entry_2 : decode cX5_entry 2 = .ok (.invokevirtual 24, 3) := by decide +kernel
theorem dX5_entry_5 : decode cX5_entry 5 = .ok (.ifCond .eq 12, 3) := by decide +kernel
theorem dX5_entry_8 : decode cX5_entry 8 = .ok (.iload_n 2, 1) := by decide +kernel
theorem dX5_entry_9 : decode cX5_entry 9 = .ok (.ifCond .lt 8, 3) := by decide +kernel
theorem dX5_entry_12 : decode cX5_entry 12 = .ok (.iload_n 2, 1) := by decide +kernel
theorem dX5_entry_13 : decode cX5_entry 13 = .ok (.iconst 5, 1) := by decide +kernel
theorem dX5_entry_14 : decode cX5_entry 14 = .ok (.if_icmp .lt 5, 3) := by decide +kernel
theorem dX5_entry_17 : decode cX5_entry 17 = .ok (.iconst 0, 1) := by decide +kernel
theorem dX5_entry_18 : decode cX5_entry 18 = .ok (.ireturn, 1) := by decide +kernel
theorem dX5_entry_19 : decode cX5_entry 19 = .ok (.aload_n 0, 1) := by decide +kernel
theorem dX5_entry_20 : decode cX5_entry 20 = .ok (.getfield 11, 3) := by decide +kernel
theorem dX5_entry_23 : decode cX5_entry 23 = .ok (.iload_n 2, 1) := by decide +kernel
theorem dX5_entry_24 : decode cX5_entry 24 = .ok (.aaload, 1) := by decide +kernel
theorem dX5_entry_25 : decode cX5_entry 25 = .ok (.iload_n 1, 1) := by decide +kernel
theorem dX5_entry_26 : decode cX5_entry 26 = .ok (.iaload, 1) := by decide +kernel
theorem dX5_entry_27 : decode cX5_entry 27 = .ok (.ireturn, 1) := by decide +kernel
theorem dX5_insert_0 : decode cX5_insert 0 = .ok (.iload_n 1, 1) := by decide +kernel
theorem dX5_insert_1 : decode cX5_insert 1 = .ok (.ifCond .lt 20, 3) := by decide +kernel
theorem dX5_insert_4 : decode cX5_insert 4 = .ok (.iload_n 1, 1) := by decide +kernel
theorem dX5_insert_5 : decode cX5_insert 5 = .ok (.aload_n 0, 1) := by decide +kernel
theorem dX5_insert_6 : decode cX5_insert 6 = .ok (.getfield 14, 3) := by decide +kernel
theorem dX5_insert_9 : decode cX5_insert 9 = .ok (.if_icmp .gt 12, 3) := by decide +kernel
theorem dX5_insert_12 : decode cX5_insert 12 = .ok (.aload_n 0, 1) := by decide +kernel
theorem dX5_insert_13 : decode cX5_insert 13 = .ok (.getfield 14, 3) := by decide +kernel
theorem dX5_insert_16 : decode cX5_insert 16 = .ok (.bipush 20, 2) := by decide +kernel
theorem dX5_insert_18 : decode cX5_insert 18 = .ok (.if_icmp .lt 4, 3) := by decide +kernel
theorem dX5_insert_21 : decode cX5_insert 21 = .ok (.return_, 1) := by decide +kernel
theorem dX5_insert_22 : decode cX5_insert 22 = .ok (.iconst 0, 1) := by decide +kernel
theorem dX5_insert_23 : decode cX5_insert 23 = .ok (.istore 4, 2) := by decide +kernel
theorem dX5_insert_25 : decode cX5_insert 25 = .ok (.iload 4, 2) := by decide +kernel
theorem dX5_insert_27 : decode cX5_insert 27 = .ok (.iconst 5, 1) := by decide +kernel
theorem dX5_insert_28 : decode cX5_insert 28 = .ok (.if_icmp .ge 46, 3) := by decide +kernel
theorem dX5_insert_31 : decode cX5_insert 31 = .ok (.aload_n 0, 1) := by decide +kernel
theorem dX5_insert_32 : decode cX5_insert 32 = .ok (.getfield 11, 3) := by decide +kernel
theorem dX5_insert_35 : decode cX5_insert 35 = .ok (.iload 4, 2) := by decide +kernel
theorem dX5_insert_37 : decode cX5_insert 37 = .ok (.aaload, 1) := by decide +kernel
theorem dX5_insert_38 : decode cX5_insert 38 = .ok (.iload_n 1, 1) := by decide +kernel
theorem dX5_insert_39 : decode cX5_insert 39 = .ok (.aload_n 0, 1) := by decide +kernel
theorem dX5_insert_40 : decode cX5_insert 40 = .ok (.getfield 11, 3) := by decide +kernel
theorem dX5_insert_43 : decode cX5_insert 43 = .ok (.iload 4, 2) := by decide +kernel
theorem dX5_insert_45 : decode cX5_insert 45 = .ok (.aaload, 1) := by decide +kernel
theorem dX5_insert_46 : decode cX5_insert 46 = .ok (.iload_n 1, 1) := by decide +kernel
theorem dX5_insert_47 : decode cX5_insert 47 = .ok (.iconst 1, 1) := by decide +kernel
theorem dX5_insert_48 : decode cX5_insert 48 = .ok (.iadd, 1) := by decide +kernel
theorem dX5_insert_49 : decode cX5_insert 49 = .ok (.aload_n 0, 1) := by decide +kernel
theorem dX5_insert_50 : decode cX5_insert 50 = .ok (.getfield 14, 3) := by decide +kernel
theorem dX5_insert_53 : decode cX5_insert 53 = .ok (.iload_n 1, 1) := by decide +kernel
theorem dX5_insert_54 : decode cX5_insert 54 = .ok (.isub, 1) := by decide +kernel
theorem dX5_insert_55 : decode cX5_insert 55 = .ok (.invokestatic 18, 3) := by decide +kernel
theorem dX5_insert_58 : decode cX5_insert 58 = .ok (.aload_n 0, 1) := by decide +kernel
theorem dX5_insert_59 : decode cX5_insert 59 = .ok (.getfield 11, 3) := by decide +kernel
theorem dX5_insert_62 : decode cX5_insert 62 = .ok (.iload 4, 2) := by decide +kernel
theorem dX5_insert_64 : decode cX5_insert 64 = .ok (.aaload, 1) := by decide +kernel
theorem dX5_insert_65 : decode cX5_insert 65 = .ok (.iload_n 1, 1) := by decide +kernel
theorem dX5_insert_66 : decode cX5_insert 66 = .ok (.iconst 0, 1) := by decide +kernel
theorem dX5_insert_67 : decode cX5_insert 67 = .ok (.iastore, 1) := by decide +kernel
theorem dX5_insert_68 : decode cX5_insert 68 = .ok (.iinc 4 1, 3) := by decide +kernel
theorem dX5_insert_71 : decode cX5_insert 71 = .ok (.goto (-46), 3) := by decide +kernel
theorem dX5_insert_74 : decode cX5_insert 74 = .ok (.aload_n 0, 1) := by decide +kernel
theorem dX5_insert_75 : decode cX5_insert 75 = .ok (.getfield 11, 3) := by decide +kernel
theorem dX5_insert_78 : decode cX5_insert 78 = .ok (.iconst 0, 1) := by decide +kernel
theorem dX5_insert_79 : decode cX5_insert 79 = .ok (.aaload, 1) := by decide +kernel
theorem dX5_insert_80 : decode cX5_insert 80 = .ok (.iload_n 1, 1) := by decide +kernel
theorem dX5_insert_81 : decode cX5_insert 81 = .ok (.iload_n 2, 1) := by decide +kernel
theorem dX5_insert_82 : decode cX5_insert 82 = .ok (.iastore, 1) := by decide +kernel
theorem dX5_insert_83 : decode cX5_insert 83 = .ok (.aload_n 0, 1) := by decide +kernel
theorem dX5_insert_84 : decode cX5_insert 84 = .ok (.getfield 11, 3) := by decide +kernel
theorem dX5_insert_87 : decode cX5_insert 87 = .ok (.iconst 1, 1) := by decide +kernel
theorem dX5_insert_88 : decode cX5_insert 88 = .ok (.aaload, 1) := by decide +kernel
theorem dX5_insert_89 : decode cX5_insert 89 = .ok (.iload_n 1, 1) := by decide +kernel
theorem dX5_insert_90 : decode cX5_insert 90 = .ok (.iload_n 3, 1) := by decide +kernel
theorem dX5_insert_91 : decode cX5_insert 91 = .ok (.iastore, 1) := by decide +kernel
theorem dX5_insert_92 : decode cX5_insert 92 = .ok (.aload_n 0, 1) := by decide +kernel
theorem dX5_insert_93 : decode cX5_insert 93 = .ok (.dup, 1) := by decide +kernel
theorem dX5_insert_94 : decode cX5_insert 94 = .ok (.getfield 14, 3) := by decide +kernel
theorem dX5_insert_97 : decode cX5_insert 97 = .ok (.iconst 1, 1) := by decide +kernel
theorem dX5_insert_98 : decode cX5_insert 98 = .ok (.iadd, 1) := by decide +kernel
theorem dX5_insert_99 : decode cX5_insert 99 = .ok (.putfield 14, 3) := by decide +kernel
theorem dX5_insert_102 : decode cX5_insert 102 = .ok (.return_, 1) := by decide +kernel
theorem dX5_remove_0 : decode cX5_remove 0 = .ok (.aload_n 0, 1) := by decide +kernel
theorem dX5_remove_1 : decode cX5_remove 1 = .ok (.iload_n 1, 1) := by decide +kernel
theorem dX5_remove_2 : decode cX5_remove 2 = .ok (.invokevirtual 24, 3) := by decide +kernel
theorem dX5_remove_5 : decode cX5_remove 5 = .ok (.ifCond .ne 4, 3) := by decide +kernel
theorem dX5_remove_8 : decode cX5_remove 8 = .ok (.return_, 1) := by decide +kernel
theorem dX5_remove_9 : decode cX5_remove 9 = .ok (.iconst 0, 1) := by decide +kernel
theorem dX5_remove_10 : decode cX5_remove 10 = .ok (.istore_n 2, 1) := by decide +kernel
theorem dX5_remove_11 : decode cX5_remove 11 = .ok (.iload_n 2, 1) := by decide +kernel
theorem dX5_remove_12 : decode cX5_remove 12 = .ok (.iconst 5, 1) := by decide +kernel
theorem dX5_remove_13 : decode cX5_remove 13 = .ok (.if_icmp .ge 36, 3) := by decide +kernel
theorem dX5_remove_16 : decode cX5_remove 16 = .ok (.aload_n 0, 1) := by decide +kernel
theorem dX5_remove_17 : decode cX5_remove 17 = .ok (.getfield 11, 3) := by decide +kernel
theorem dX5_remove_20 : decode cX5_remove 20 = .ok (.iload_n 2, 1) := by decide +kernel
theorem dX5_remove_21 : decode cX5_remove 21 = .ok (.aaload, 1) := by decide +kernel
theorem dX5_remove_22 : decode cX5_remove 22 = .ok (.iload_n 1, 1) := by decide +kernel
theorem dX5_remove_23 : decode cX5_remove 23 = .ok (.iconst 1, 1) := by decide +kernel
theorem dX5_remove_24 : decode cX5_remove 24 = .ok (.iadd, 1) := by decide +kernel
theorem dX5_remove_25 : decode cX5_remove 25 = .ok (.aload_n 0, 1) := by decide +kernel
theorem dX5_remove_26 : decode cX5_remove 26 = .ok (.getfield 11, 3) := by decide +kernel
theorem dX5_remove_29 : decode cX5_remove 29 = .ok (.iload_n 2, 1) := by decide +kernel
theorem dX5_remove_30 : decode cX5_remove 30 = .ok (.aaload, 1) := by decide +kernel
theorem dX5_remove_31 : decode cX5_remove 31 = .ok (.iload_n 1, 1) := by decide +kernel
theorem dX5_remove_32 : decode cX5_remove 32 = .ok (.aload_n 0, 1) := by decide +kernel
theorem dX5_remove_33 : decode cX5_remove 33 = .ok (.getfield 14, 3) := by decide +kernel
theorem dX5_remove_36 : decode cX5_remove 36 = .ok (.iload_n 1, 1) := by decide +kernel
theorem dX5_remove_37 : decode cX5_remove 37 = .ok (.isub, 1) := by decide +kernel
theorem dX5_remove_38 : decode cX5_remove 38 = .ok (.iconst 1, 1) := by decide +kernel
theorem dX5_remove_39 : decode cX5_remove 39 = .ok (.isub, 1) := by decide +kernel
theorem dX5_remove_40 : decode cX5_remove 40 = .ok (.invokestatic 18, 3) := by decide +kernel
theorem dX5_remove_43 : decode cX5_remove 43 = .ok (.iinc 2 1, 3) := by decide +kernel
theorem dX5_remove_46 : decode cX5_remove 46 = .ok (.goto (-35), 3) := by decide +kernel
theorem dX5_remove_49 : decode cX5_remove 49 = .ok (.aload_n 0, 1) := by decide +kernel
theorem dX5_remove_50 : decode cX5_remove 50 = .ok (.dup, 1) := by decide +kernel
theorem dX5_remove_51 : decode cX5_remove 51 = .ok (.getfield 14, 3) := by decide +kernel
theorem dX5_remove_54 : decode cX5_remove 54 = .ok (.iconst 1, 1) := by decide +kernel
theorem dX5_remove_55 : decode cX5_remove 55 = .ok (.isub, 1) := by decide +kernel
theorem dX5_remove_56 : decode cX5_remove 56 = .ok (.putfield 14, 3) := by decide +kernel
theorem dX5_remove_59 : decode cX5_remove 59 = .ok (.return_, 1) := by decide +kernel
theorem dX5_noteEnd_0 : decode cX5_noteEnd 0 = .ok (.aload_n 0, 1) := by decide +kernel
theorem dX5_noteEnd_1 : decode cX5_noteEnd 1 = .ok (.iload_n 1, 1) := by decide +kernel
theorem dX5_noteEnd_2 : decode cX5_noteEnd 2 = .ok (.invokevirtual 24, 3) := by decide +kernel
theorem dX5_noteEnd_5 : decode cX5_noteEnd 5 = .ok (.ifCond .eq 29, 3) := by decide +kernel
theorem dX5_noteEnd_8 : decode cX5_noteEnd 8 = .ok (.iload_n 2, 1) := by decide +kernel
theorem dX5_noteEnd_9 : decode cX5_noteEnd 9 = .ok (.iconst 1, 1) := by decide +kernel
theorem dX5_noteEnd_10 : decode cX5_noteEnd 10 = .ok (.if_icmp .lt 24, 3) := by decide +kernel
theorem dX5_noteEnd_13 : decode cX5_noteEnd 13 = .ok (.iload_n 2, 1) := by decide +kernel
theorem dX5_noteEnd_14 : decode cX5_noteEnd 14 = .ok (.iconst 3, 1) := by decide +kernel
theorem dX5_noteEnd_15 : decode cX5_noteEnd 15 = .ok (.if_icmp .gt 19, 3) := by decide +kernel
theorem dX5_noteEnd_18 : decode cX5_noteEnd 18 = .ok (.aload_n 0, 1) := by decide +kernel
theorem dX5_noteEnd_19 : decode cX5_noteEnd 19 = .ok (.getfield 11, 3) := by decide +kernel
theorem dX5_noteEnd_22 : decode cX5_noteEnd 22 = .ok (.iconst 2, 1) := by decide +kernel
theorem dX5_noteEnd_23 : decode cX5_noteEnd 23 = .ok (.iload_n 2, 1) := by decide +kernel
theorem dX5_noteEnd_24 : decode cX5_noteEnd 24 = .ok (.iadd, 1) := by decide +kernel
theorem dX5_noteEnd_25 : decode cX5_noteEnd 25 = .ok (.iconst 1, 1) := by decide +kernel
theorem dX5_noteEnd_26 : decode cX5_noteEnd 26 = .ok (.isub, 1) := by decide +kernel
theorem dX5_noteEnd_27 : decode cX5_noteEnd 27 = .ok (.aaload, 1) := by decide +kernel
theorem dX5_noteEnd_28 : decode cX5_noteEnd 28 = .ok (.iload_n 1, 1) := by decide +kernel
theorem dX5_noteEnd_29 : decode cX5_noteEnd 29 = .ok (.dup2, 1) := by decide +kernel
theorem dX5_noteEnd_30 : decode cX5_noteEnd 30 = .ok (.iaload, 1) := by decide +kernel
theorem dX5_noteEnd_31 : decode cX5_noteEnd 31 = .ok (.iconst 1, 1) := by decide +kernel
theorem dX5_noteEnd_32 : decode cX5_noteEnd 32 = .ok (.iadd, 1) := by decide +kernel
theorem dX5_noteEnd_33 : decode cX5_noteEnd 33 = .ok (.iastore, 1) := by decide +kernel
theorem dX5_noteEnd_34 : decode cX5_noteEnd 34 = .ok (.return_, 1) := by decide +kernel
theorem dX5_sumOf_0 : decode cX5_sumOf 0 = .ok (.iconst 0, 1) := by decide +kernel
theorem dX5_sumOf_1 : decode cX5_sumOf 1 = .ok (.istore_n 2, 1) := by decide +kernel
theorem dX5_sumOf_2 : decode cX5_sumOf 2 = .ok (.iconst 0, 1) := by decide +kernel
theorem dX5_sumOf_3 : decode cX5_sumOf 3 = .ok (.istore_n 3, 1) := by decide +kernel
theorem dX5_sumOf_4 : decode cX5_sumOf 4 = .ok (.iload_n 3, 1) := by decide +kernel
theorem dX5_sumOf_5 : decode cX5_sumOf 5 = .ok (.aload_n 0, 1) := by decide +kernel
theorem dX5_sumOf_6 : decode cX5_sumOf 6 = .ok (.getfield 14, 3) := by decide +kernel
theorem dX5_sumOf_9 : decode cX5_sumOf 9 = .ok (.if_icmp .ge 28, 3) := by decide +kernel
theorem dX5_sumOf_12 : decode cX5_sumOf 12 = .ok (.aload_n 0, 1) := by decide +kernel
theorem dX5_sumOf_13 : decode cX5_sumOf 13 = .ok (.iload_n 3, 1) := by decide +kernel
theorem dX5_sumOf_14 : decode cX5_sumOf 14 = .ok (.iconst 0, 1) := by decide +kernel
theorem dX5_sumOf_15 : decode cX5_sumOf 15 = .ok (.invokevirtual 30, 3) := by decide +kernel
theorem dX5_sumOf_18 : decode cX5_sumOf 18 = .ok (.iload_n 1, 1) := by decide +kernel
theorem dX5_sumOf_19 : decode cX5_sumOf 19 = .ok (.if_icmp .ne 12, 3) := by decide +kernel
theorem dX5_sumOf_22 : decode cX5_sumOf 22 = .ok (.iload_n 2, 1) := by decide +kernel
theorem dX5_sumOf_23 : decode cX5_sumOf 23 = .ok (.aload_n 0, 1) := by decide +kernel
theorem dX5_sumOf_24 : decode cX5_sumOf 24 = .ok (.iload_n 3, 1) := by decide +kernel
theorem dX5_sumOf_25 : decode cX5_sumOf 25 = .ok (.iconst 1, 1) := by decide +kernel
theorem dX5_sumOf_26 : decode cX5_sumOf 26 = .ok (.invokevirtual 30, 3) := by decide +kernel
theorem dX5_sumOf_29 : decode cX5_sumOf 29 = .ok (.iadd, 1) := by decide +kernel
theorem dX5_sumOf_30 : decode cX5_sumOf 30 = .ok (.istore_n 2, 1) := by decide +kernel
theorem dX5_sumOf_31 : decode cX5_sumOf 31 = .ok (.iinc 3 1, 3) := by decide +kernel
theorem dX5_sumOf_34 : decode cX5_sumOf 34 = .ok (.goto (-30), 3) := by decide +kernel
theorem dX5_sumOf_37 : decode cX5_sumOf 37 = .ok (.iload_n 2, 1) := by decide +kernel
theorem dX5_sumOf_38 : decode cX5_sumOf 38 = .ok (.ireturn, 1) := by decide +kernel
theorem dX5_narrowestGate_0 : decode cX5_narrowestGate 0 = .ok (.iconst 0, 1) := by decide +kernel
theorem dX5_narrowestGate_1 : decode cX5_narrowestGate 1 = .ok (.istore_n 1, 1) := by decide +kernel
theorem dX5_narrowestGate_2 : decode cX5_narrowestGate 2 = .ok (.iconst 0, 1) := by decide +kernel
theorem dX5_narrowestGate_3 : decode cX5_narrowestGate 3 = .ok (.istore_n 2, 1) := by decide +kernel
theorem dX5_narrowestGate_4 : decode cX5_narrowestGate 4 = .ok (.iload_n 2, 1) := by decide +kernel
theorem dX5_narrowestGate_5 : decode cX5_narrowestGate 5 = .ok (.aload_n 0, 1) := by decide +kernel
theorem dX5_narrowestGate_6 : decode cX5_narrowestGate 6 = .ok (.getfield 14, 3) := by decide +kernel
theorem dX5_narrowestGate_9 : decode cX5_narrowestGate 9 = .ok (.if_icmp .ge 37, 3) := by decide +kernel
theorem dX5_narrowestGate_12 : decode cX5_narrowestGate 12 = .ok (.aload_n 0, 1) := by decide +kernel
theorem dX5_narrowestGate_13 : decode cX5_narrowestGate 13 = .ok (.iload_n 2, 1) := by decide +kernel
theorem dX5_narrowestGate_14 : decode cX5_narrowestGate 14 = .ok (.iconst 1, 1) := by decide +kernel
theorem dX5_narrowestGate_15 : decode cX5_narrowestGate 15 = .ok (.invokevirtual 30, 3) := by decide +kernel
theorem dX5_narrowestGate_18 : decode cX5_narrowestGate 18 = .ok (.istore_n 3, 1) := by decide +kernel
theorem dX5_narrowestGate_19 : decode cX5_narrowestGate 19 = .ok (.aload_n 0, 1) := by decide +kernel
theorem dX5_narrowestGate_20 : decode cX5_narrowestGate 20 = .ok (.iload_n 2, 1) := by decide +kernel
theorem dX5_narrowestGate_21 : decode cX5_narrowestGate 21 = .ok (.iconst 0, 1) := by decide +kernel
theorem dX5_narrowestGate_22 : decode cX5_narrowestGate 22 = .ok (.invokevirtual 30, 3) := by decide +kernel
theorem dX5_narrowestGate_25 : decode cX5_narrowestGate 25 = .ok (.iconst 2, 1) := by decide +kernel
theorem dX5_narrowestGate_26 : decode cX5_narrowestGate 26 = .ok (.if_icmp .ne 14, 3) := by decide +kernel
theorem dX5_narrowestGate_29 : decode cX5_narrowestGate 29 = .ok (.iload_n 1, 1) := by decide +kernel
theorem dX5_narrowestGate_30 : decode cX5_narrowestGate 30 = .ok (.ifCond .eq 8, 3) := by decide +kernel
theorem dX5_narrowestGate_33 : decode cX5_narrowestGate 33 = .ok (.iload_n 3, 1) := by decide +kernel
theorem dX5_narrowestGate_34 : decode cX5_narrowestGate 34 = .ok (.iload_n 1, 1) := by decide +kernel
theorem dX5_narrowestGate_35 : decode cX5_narrowestGate 35 = .ok (.if_icmp .ge 5, 3) := by decide +kernel
theorem dX5_narrowestGate_38 : decode cX5_narrowestGate 38 = .ok (.iload_n 3, 1) := by decide +kernel
theorem dX5_narrowestGate_39 : decode cX5_narrowestGate 39 = .ok (.istore_n 1, 1) := by decide +kernel
theorem dX5_narrowestGate_40 : decode cX5_narrowestGate 40 = .ok (.iinc 2 1, 3) := by decide +kernel
theorem dX5_narrowestGate_43 : decode cX5_narrowestGate 43 = .ok (.goto (-39), 3) := by decide +kernel
theorem dX5_narrowestGate_46 : decode cX5_narrowestGate 46 = .ok (.iload_n 1, 1) := by decide +kernel
theorem dX5_narrowestGate_47 : decode cX5_narrowestGate 47 = .ok (.ireturn, 1) := by decide +kernel
theorem dX6_init_0 : decode cX6_init 0 = .ok (.aload_n 0, 1) := by decide +kernel
theorem dX6_init_1 : decode cX6_init 1 = .ok (.invokespecial 3, 3) := by decide +kernel
theorem dX6_init_4 : decode cX6_init 4 = .ok (.aload_n 0, 1) := by decide +kernel
theorem dX6_init_5 : decode cX6_init 5 = .ok (.new 9, 3) := by decide +kernel
theorem dX6_init_8 : decode cX6_init 8 = .ok (.dup, 1) := by decide +kernel
theorem dX6_init_9 : decode cX6_init 9 = .ok (.invokespecial 11, 3) := by decide +kernel
theorem dX6_init_12 : decode cX6_init 12 = .ok (.putfield 12, 3) := by decide +kernel
theorem dX6_init_15 : decode cX6_init 15 = .ok (.aload_n 0, 1) := by decide +kernel
theorem dX6_init_16 : decode cX6_init 16 = .ok (.new 18, 3) := by decide +kernel
theorem dX6_init_19 : decode cX6_init 19 = .ok (.dup, 1) := by decide +kernel
theorem dX6_init_20 : decode cX6_init 20 = .ok (.invokespecial 20, 3) := by decide +kernel
theorem dX6_init_23 : decode cX6_init 23 = .ok (.putfield 21, 3) := by decide +kernel
theorem dX6_init_26 : decode cX6_init 26 = .ok (.aload_n 0, 1) := by decide +kernel
theorem dX6_init_27 : decode cX6_init 27 = .ok (.new 25, 3) := by decide +kernel
theorem dX6_init_30 : decode cX6_init 30 = .ok (.dup, 1) := by decide +kernel
theorem dX6_init_31 : decode cX6_init 31 = .ok (.invokespecial 27, 3) := by decide +kernel
theorem dX6_init_34 : decode cX6_init 34 = .ok (.putfield 28, 3) := by decide +kernel
theorem dX6_init_37 : decode cX6_init 37 = .ok (.aload_n 0, 1) := by decide +kernel
theorem dX6_init_38 : decode cX6_init 38 = .ok (.new 32, 3) := by decide +kernel
theorem dX6_init_41 : decode cX6_init 41 = .ok (.dup, 1) := by decide +kernel
theorem dX6_init_42 : decode cX6_init 42 = .ok (.invokespecial 34, 3) := by decide +kernel
theorem dX6_init_45 : decode cX6_init 45 = .ok (.putfield 35, 3) := by decide +kernel
theorem dX6_init_48 : decode cX6_init 48 = .ok (.aload_n 0, 1) := by decide +kernel
theorem dX6_init_49 : decode cX6_init 49 = .ok (.iconst 5, 1) := by decide +kernel
theorem dX6_init_50 : decode cX6_init 50 = .ok (.newarray .int, 2) := by decide +kernel
theorem dX6_init_52 : decode cX6_init 52 = .ok (.putfield 39, 3) := by decide +kernel
theorem dX6_init_55 : decode cX6_init 55 = .ok (.aload_n 0, 1) := by decide +kernel
theorem dX6_init_56 : decode cX6_init 56 = .ok (.iconst 0, 1) := by decide +kernel
theorem dX6_init_57 : decode cX6_init 57 = .ok (.putfield 43, 3) := by decide +kernel
theorem dX6_init_60 : decode cX6_init 60 = .ok (.aload_n 0, 1) := by decide +kernel
theorem dX6_init_61 : decode cX6_init 61 = .ok (.iconst 0, 1) := by decide +kernel
theorem dX6_init_62 : decode cX6_init 62 = .ok (.putfield 47, 3) := by decide +kernel
theorem dX6_init_65 : decode cX6_init 65 = .ok (.return_, 1) := by decide +kernel
theorem dX6_copyFrom_0 : decode cX6_copyFrom 0 = .ok (.aload_n 0, 1) := by decide +kernel
theorem dX6_copyFrom_1 : decode cX6_copyFrom 1 = .ok (.getfield 12, 3) := by decide +kernel
theorem dX6_copyFrom_4 : decode cX6_copyFrom 4 = .ok (.aload_n 1, 1) := by decide +kernel
theorem dX6_copyFrom_5 : decode cX6_copyFrom 5 = .ok (.getfield 12, 3) := by decide +kernel
theorem dX6_copyFrom_8 : decode cX6_copyFrom 8 = .ok (.invokevirtual 50, 3) := by decide +kernel
theorem dX6_copyFrom_11 : decode cX6_copyFrom 11 = .ok (.aload_n 0, 1) := by decide +kernel
theorem dX6_copyFrom_12 : decode cX6_copyFrom 12 = .ok (.getfield 21, 3) := by decide +kernel
theorem dX6_copyFrom_15 : decode cX6_copyFrom 15 = .ok (.aload_n 1, 1) := by decide +kernel
theorem dX6_copyFrom_16 : decode cX6_copyFrom 16 = .ok (.getfield 21, 3) := by decide +kernel
theorem dX6_copyFrom_19 : decode cX6_copyFrom 19 = .ok (.invokevirtual 54, 3) := by decide +kernel
theorem dX6_copyFrom_22 : decode cX6_copyFrom 22 = .ok (.aload_n 0, 1) := by decide +kernel
theorem dX6_copyFrom_23 : decode cX6_copyFrom 23 = .ok (.getfield 28, 3) := by decide +kernel
theorem dX6_copyFrom_26 : decode cX6_copyFrom 26 = .ok (.aload_n 1, 1) := by decide +kernel
theorem dX6_copyFrom_27 : decode cX6_copyFrom 27 = .ok (.getfield 28, 3) := by decide +kernel
theorem dX6_copyFrom_30 : decode cX6_copyFrom 30 = .ok (.invokevirtual 57, 3) := by decide +kernel
theorem dX6_copyFrom_33 : decode cX6_copyFrom 33 = .ok (.aload_n 0, 1) := by decide +kernel
theorem dX6_copyFrom_34 : decode cX6_copyFrom 34 = .ok (.getfield 35, 3) := by decide +kernel
theorem dX6_copyFrom_37 : decode cX6_copyFrom 37 = .ok (.aload_n 1, 1) := by decide +kernel
theorem dX6_copyFrom_38 : decode cX6_copyFrom 38 = .ok (.getfield 35, 3) := by decide +kernel
theorem dX6_copyFrom_41 : decode cX6_copyFrom 41 = .ok (.invokevirtual 60, 3) := by decide +kernel
theorem dX6_copyFrom_44 : decode cX6_copyFrom 44 = .ok (.aload_n 1, 1) := by decide +kernel
theorem dX6_copyFrom_45 : decode cX6_copyFrom 45 = .ok (.getfield 39, 3) := by decide +kernel
theorem dX6_copyFrom_48 : decode cX6_copyFrom 48 = .ok (.iconst 0, 1) := by decide +kernel
theorem dX6_copyFrom_49 : decode cX6_copyFrom 49 = .ok (.aload_n 0, 1) := by decide +kernel
theorem dX6_copyFrom_50 : decode cX6_copyFrom 50 = .ok (.getfield 39, 3) := by decide +kernel
theorem dX6_copyFrom_53 : decode cX6_copyFrom 53 = .ok (.iconst 0, 1) := by decide +kernel
theorem dX6_copyFrom_54 : decode cX6_copyFrom 54 = .ok (.iconst 5, 1) := by decide +kernel
theorem dX6_copyFrom_55 : decode cX6_copyFrom 55 = .ok (.invokestatic 63, 3) := by decide +kernel
theorem dX6_copyFrom_58 : decode cX6_copyFrom 58 = .ok (.aload_n 0, 1) := by decide +kernel
theorem dX6_copyFrom_59 : decode cX6_copyFrom 59 = .ok (.aload_n 1, 1) := by decide +kernel
theorem dX6_copyFrom_60 : decode cX6_copyFrom 60 = .ok (.getfield 43, 3) := by decide +kernel
theorem dX6_copyFrom_63 : decode cX6_copyFrom 63 = .ok (.putfield 43, 3) := by decide +kernel
theorem dX6_copyFrom_66 : decode cX6_copyFrom 66 = .ok (.aload_n 0, 1) := by decide +kernel
theorem dX6_copyFrom_67 : decode cX6_copyFrom 67 = .ok (.aload_n 1, 1) := by decide +kernel
theorem dX6_copyFrom_68 : decode cX6_copyFrom 68 = .ok (.getfield 47, 3) := by decide +kernel
theorem dX6_copyFrom_71 : decode cX6_copyFrom 71 = .ok (.putfield 47, 3) := by decide +kernel
theorem dX6_copyFrom_74 : decode cX6_copyFrom 74 = .ok (.return_, 1) := by decide +kernel
theorem dX6_partError_0 : decode cX6_partError 0 = .ok (.iload_n 1, 1) := by decide +kernel
theorem dX6_partError_1 : decode cX6_partError 1 = .ok (.ifCond .lt 14, 3) := by decide +kernel
theorem dX6_partError_4 : decode cX6_partError 4 = .ok (.iload_n 1, 1) := by decide +kernel
theorem dX6_partError_5 : decode cX6_partError 5 = .ok (.aload_n 0, 1) := by decide +kernel
theorem dX6_partError_6 : decode cX6_partError 6 = .ok (.getfield 21, 3) := by decide +kernel
theorem dX6_partError_9 : decode cX6_partError 9 = .ok (.getfield 69, 3) := by decide +kernel
theorem dX6_partError_12 : decode cX6_partError 12 = .ok (.if_icmp .le 5, 3) := by decide +kernel
theorem dX6_partError_15 : decode cX6_partError 15 = .ok (.iconst (-1), 1) := by decide +kernel
theorem dX6_partError_16 : decode cX6_partError 16 = .ok (.ireturn, 1) := by decide +kernel
theorem dX6_partError_17 : decode cX6_partError 17 = .ok (.iload_n 2, 1) := by decide +kernel
theorem dX6_partError_18 : decode cX6_partError 18 = .ok (.iload_n 3, 1) := by decide +kernel
theorem dX6_partError_19 : decode cX6_partError 19 = .ok (.invokestatic 72, 3) := by decide +kernel
theorem dX6_partError_22 : decode cX6_partError 22 = .ok (.ifCond .ne 6, 3) := by decide +kernel
theorem dX6_partError_25 : decode cX6_partError 25 = .ok (.bipush (-2), 2) := by decide +kernel
theorem dX6_partError_27 : decode cX6_partError 27 = .ok (.ireturn, 1) := by decide +kernel
theorem dX6_partError_28 : decode cX6_partError 28 = .ok (.aload_n 0, 1) := by decide +kernel
theorem dX6_partError_29 : decode cX6_partError 29 = .ok (.getfield 21, 3) := by decide +kernel
theorem dX6_partError_32 : decode cX6_partError 32 = .ok (.getfield 69, 3) := by decide +kernel
theorem dX6_partError_35 : decode cX6_partError 35 = .ok (.bipush 20, 2) := by decide +kernel
theorem dX6_partError_37 : decode cX6_partError 37 = .ok (.if_icmp .lt 8, 3) := by decide +kernel
theorem dX6_partError_40 : decode cX6_partError 40 = .ok (.bipush (-4), 2) := by decide +kernel
theorem dX6_partError_42 : decode cX6_partError 42 = .ok (.goto 4, 3) := by decide +kernel
theorem dX6_partError_45 : decode cX6_partError 45 = .ok (.iconst 0, 1) := by decide +kernel
theorem dX6_partError_46 : decode cX6_partError 46 = .ok (.ireturn, 1) := by decide +kernel
theorem dX6_addPart_0 : decode cX6_addPart 0 = .ok (.aload_n 0, 1) := by decide +kernel
theorem dX6_addPart_1 : decode cX6_addPart 1 = .ok (.getfield 21, 3) := by decide +kernel
theorem dX6_addPart_4 : decode cX6_addPart 4 = .ok (.iload_n 1, 1) := by decide +kernel
theorem dX6_addPart_5 : decode cX6_addPart 5 = .ok (.iload_n 2, 1) := by decide +kernel
theorem dX6_addPart_6 : decode cX6_addPart 6 = .ok (.iload_n 3, 1) := by decide +kernel
theorem dX6_addPart_7 : decode cX6_addPart 7 = .ok (.invokevirtual 76, 3) := by decide +kernel
theorem dX6_addPart_10 : decode cX6_addPart 10 = .ok (.aload_n 0, 1) := by decide +kernel
theorem dX6_addPart_11 : decode cX6_addPart 11 = .ok (.getfield 28, 3) := by decide +kernel
theorem dX6_addPart_14 : decode cX6_addPart 14 = .ok (.invokevirtual 80, 3) := by decide +kernel
theorem dX6_addPart_17 : decode cX6_addPart 17 = .ok (.aload_n 0, 1) := by decide +kernel
theorem dX6_addPart_18 : decode cX6_addPart 18 = .ok (.getfield 21, 3) := by decide +kernel
theorem dX6_addPart_21 : decode cX6_addPart 21 = .ok (.getfield 69, 3) := by decide +kernel
theorem dX6_addPart_24 : decode cX6_addPart 24 = .ok (.ireturn, 1) := by decide +kernel
theorem dX6_removePart_0 : decode cX6_removePart 0 = .ok (.aload_n 0, 1) := by decide +kernel
theorem dX6_removePart_1 : decode cX6_removePart 1 = .ok (.getfield 21, 3) := by decide +kernel
theorem dX6_removePart_4 : decode cX6_removePart 4 = .ok (.iload_n 1, 1) := by decide +kernel
theorem dX6_removePart_5 : decode cX6_removePart 5 = .ok (.invokevirtual 83, 3) := by decide +kernel
theorem dX6_removePart_8 : decode cX6_removePart 8 = .ok (.aload_n 0, 1) := by decide +kernel
theorem dX6_removePart_9 : decode cX6_removePart 9 = .ok (.getfield 28, 3) := by decide +kernel
theorem dX6_removePart_12 : decode cX6_removePart 12 = .ok (.invokevirtual 80, 3) := by decide +kernel
theorem dX6_removePart_15 : decode cX6_removePart 15 = .ok (.aload_n 0, 1) := by decide +kernel
theorem dX6_removePart_16 : decode cX6_removePart 16 = .ok (.getfield 21, 3) := by decide +kernel
theorem dX6_removePart_19 : decode cX6_removePart 19 = .ok (.getfield 69, 3) := by decide +kernel
theorem dX6_removePart_22 : decode cX6_removePart 22 = .ok (.ireturn, 1) := by decide +kernel
theorem dX6_beginRun_0 : decode cX6_beginRun 0 = .ok (.aload_n 0, 1) := by decide +kernel
theorem dX6_beginRun_1 : decode cX6_beginRun 1 = .ok (.getfield 28, 3) := by decide +kernel
theorem dX6_beginRun_4 : decode cX6_beginRun 4 = .ok (.iload_n 1, 1) := by decide +kernel
theorem dX6_beginRun_5 : decode cX6_beginRun 5 = .ok (.invokevirtual 87, 3) := by decide +kernel
theorem dX6_beginRun_8 : decode cX6_beginRun 8 = .ok (.aload_n 0, 1) := by decide +kernel
theorem dX6_beginRun_9 : decode cX6_beginRun 9 = .ok (.dup, 1) := by decide +kernel
theorem dX6_beginRun_10 : decode cX6_beginRun 10 = .ok (.getfield 43, 3) := by decide +kernel
theorem dX6_beginRun_13 : decode cX6_beginRun 13 = .ok (.iconst 1, 1) := by decide +kernel
theorem dX6_beginRun_14 : decode cX6_beginRun 14 = .ok (.iadd, 1) := by decide +kernel
theorem dX6_beginRun_15 : decode cX6_beginRun 15 = .ok (.putfield 43, 3) := by decide +kernel
theorem dX6_beginRun_18 : decode cX6_beginRun 18 = .ok (.aload_n 0, 1) := by decide +kernel
theorem dX6_beginRun_19 : decode cX6_beginRun 19 = .ok (.getfield 43, 3) := by decide +kernel
theorem dX6_beginRun_22 : decode cX6_beginRun 22 = .ok (.ireturn, 1) := by decide +kernel
theorem dX6_rollError_0 : decode cX6_rollError 0 = .ok (.iload_n 1, 1) := by decide +kernel
theorem dX6_rollError_1 : decode cX6_rollError 1 = .ok (.iconst 1, 1) := by decide +kernel
theorem dX6_rollError_2 : decode cX6_rollError 2 = .ok (.if_icmp .lt 9, 3) := by decide +kernel
theorem dX6_rollError_5 : decode cX6_rollError 5 = .ok (.iload_n 1, 1) := by decide +kernel
theorem dX6_rollError_6 : decode cX6_rollError 6 = .ok (.bipush 20, 2) := by decide +kernel
theorem dX6_rollError_8 : decode cX6_rollError 8 = .ok (.if_icmp .le 6, 3) := by decide +kernel
theorem dX6_rollError_11 : decode cX6_rollError 11 = .ok (.bipush (-2), 2) := by decide +kernel
theorem dX6_rollError_13 : decode cX6_rollError 13 = .ok (.ireturn, 1) := by decide +kernel
theorem dX6_rollError_14 : decode cX6_rollError 14 = .ok (.aload_n 0, 1) := by decide +kernel
theorem dX6_rollError_15 : decode cX6_rollError 15 = .ok (.getfield 28, 3) := by decide +kernel
theorem dX6_rollError_18 : decode cX6_rollError 18 = .ok (.invokevirtual 90, 3) := by decide +kernel
theorem dX6_rollError_21 : decode cX6_rollError 21 = .ok (.ifCond .eq 7, 3) := by decide +kernel
theorem dX6_rollError_24 : decode cX6_rollError 24 = .ok (.iconst 0, 1) := by decide +kernel
theorem dX6_rollError_25 : decode cX6_rollError 25 = .ok (.goto 5, 3) := by decide +kernel
theorem dX6_rollError_28 : decode cX6_rollError 28 = .ok (.bipush (-5), 2) := by decide +kernel
theorem dX6_rollError_30 : decode cX6_rollError 30 = .ok (.ireturn, 1) := by decide +kernel
theorem dX6_rollOver_0 : decode cX6_rollOver 0 = .ok (.aload_n 0, 1) := by decide +kernel
theorem dX6_rollOver_1 : decode cX6_rollOver 1 = .ok (.getfield 28, 3) := by decide +kernel
theorem dX6_rollOver_4 : decode cX6_rollOver 4 = .ok (.iload_n 1, 1) := by decide +kernel
theorem dX6_rollOver_5 : decode cX6_rollOver 5 = .ok (.aload_n 0, 1) := by decide +kernel
theorem dX6_rollOver_6 : decode cX6_rollOver 6 = .ok (.getfield 21, 3) := by decide +kernel
theorem dX6_rollOver_9 : decode cX6_rollOver 9 = .ok (.aload_n 0, 1) := by decide +kernel
theorem dX6_rollOver_10 : decode cX6_rollOver 10 = .ok (.getfield 12, 3) := by decide +kernel
theorem dX6_rollOver_13 : decode cX6_rollOver 13 = .ok (.invokevirtual 94, 3) := by decide +kernel
theorem dX6_rollOver_16 : decode cX6_rollOver 16 = .ok (.aload_n 0, 1) := by decide +kernel
theorem dX6_rollOver_17 : decode cX6_rollOver 17 = .ok (.getfield 28, 3) := by decide +kernel
theorem dX6_rollOver_20 : decode cX6_rollOver 20 = .ok (.invokevirtual 90, 3) := by decide +kernel
theorem dX6_rollOver_23 : decode cX6_rollOver 23 = .ok (.ifCond .ne 7, 3) := by decide +kernel
theorem dX6_rollOver_26 : decode cX6_rollOver 26 = .ok (.aload_n 0, 1) := by decide +kernel
theorem dX6_rollOver_27 : decode cX6_rollOver 27 = .ok (.invokevirtual 98, 3) := by decide +kernel
theorem dX6_rollOver_30 : decode cX6_rollOver 30 = .ok (.aload_n 0, 1) := by decide +kernel
theorem dX6_rollOver_31 : decode cX6_rollOver 31 = .ok (.getfield 28, 3) := by decide +kernel
theorem dX6_rollOver_34 : decode cX6_rollOver 34 = .ok (.getfield 101, 3) := by decide +kernel
theorem dX6_rollOver_37 : decode cX6_rollOver 37 = .ok (.ireturn, 1) := by decide +kernel
theorem dX6_noteEnd_0 : decode cX6_noteEnd 0 = .ok (.aload_n 0, 1) := by decide +kernel
theorem dX6_noteEnd_1 : decode cX6_noteEnd 1 = .ok (.getfield 21, 3) := by decide +kernel
theorem dX6_noteEnd_4 : decode cX6_noteEnd 4 = .ok (.aload_n 0, 1) := by decide +kernel
theorem dX6_noteEnd_5 : decode cX6_noteEnd 5 = .ok (.getfield 28, 3) := by decide +kernel
theorem dX6_noteEnd_8 : decode cX6_noteEnd 8 = .ok (.getfield 104, 3) := by decide +kernel
theorem dX6_noteEnd_11 : decode cX6_noteEnd 11 = .ok (.aload_n 0, 1) := by decide +kernel
theorem dX6_noteEnd_12 : decode cX6_noteEnd 12 = .ok (.getfield 28, 3) := by decide +kernel
theorem dX6_noteEnd_15 : decode cX6_noteEnd 15 = .ok (.getfield 101, 3) := by decide +kernel
theorem dX6_noteEnd_18 : decode cX6_noteEnd 18 = .ok (.invokevirtual 107, 3) := by decide +kernel
theorem dX6_noteEnd_21 : decode cX6_noteEnd 21 = .ok (.aload_n 0, 1) := by decide +kernel
theorem dX6_noteEnd_22 : decode cX6_noteEnd 22 = .ok (.getfield 35, 3) := by decide +kernel
theorem dX6_noteEnd_25 : decode cX6_noteEnd 25 = .ok (.aload_n 0, 1) := by decide +kernel
theorem dX6_noteEnd_26 : decode cX6_noteEnd 26 = .ok (.getfield 28, 3) := by decide +kernel
theorem dX6_noteEnd_29 : decode cX6_noteEnd 29 = .ok (.invokevirtual 110, 3) := by decide +kernel
theorem dX6_noteEnd_32 : decode cX6_noteEnd 32 = .ok (.aload_n 0, 1) := by decide +kernel
theorem dX6_noteEnd_33 : decode cX6_noteEnd 33 = .ok (.getfield 28, 3) := by decide +kernel
theorem dX6_noteEnd_36 : decode cX6_noteEnd 36 = .ok (.getfield 101, 3) := by decide +kernel
theorem dX6_noteEnd_39 : decode cX6_noteEnd 39 = .ok (.iconst 1, 1) := by decide +kernel
theorem dX6_noteEnd_40 : decode cX6_noteEnd 40 = .ok (.if_icmp .lt 30, 3) := by decide +kernel
theorem dX6_noteEnd_43 : decode cX6_noteEnd 43 = .ok (.aload_n 0, 1) := by decide +kernel
theorem dX6_noteEnd_44 : decode cX6_noteEnd 44 = .ok (.getfield 28, 3) := by decide +kernel
theorem dX6_noteEnd_47 : decode cX6_noteEnd 47 = .ok (.getfield 101, 3) := by decide +kernel
theorem dX6_noteEnd_50 : decode cX6_noteEnd 50 = .ok (.iconst 4, 1) := by decide +kernel
theorem dX6_noteEnd_51 : decode cX6_noteEnd 51 = .ok (.if_icmp .gt 19, 3) := by decide +kernel
theorem dX6_noteEnd_54 : decode cX6_noteEnd 54 = .ok (.aload_n 0, 1) := by decide +kernel
theorem dX6_noteEnd_55 : decode cX6_noteEnd 55 = .ok (.getfield 39, 3) := by decide +kernel
theorem dX6_noteEnd_58 : decode cX6_noteEnd 58 = .ok (.aload_n 0, 1) := by decide +kernel
theorem dX6_noteEnd_59 : decode cX6_noteEnd 59 = .ok (.getfield 28, 3) := by decide +kernel
theorem dX6_noteEnd_62 : decode cX6_noteEnd 62 = .ok (.getfield 101, 3) := by decide +kernel
theorem dX6_noteEnd_65 : decode cX6_noteEnd 65 = .ok (.dup2, 1) := by decide +kernel
theorem dX6_noteEnd_66 : decode cX6_noteEnd 66 = .ok (.iaload, 1) := by decide +kernel
theorem dX6_noteEnd_67 : decode cX6_noteEnd 67 = .ok (.iconst 1, 1) := by decide +kernel
theorem dX6_noteEnd_68 : decode cX6_noteEnd 68 = .ok (.iadd, 1) := by decide +kernel
theorem dX6_noteEnd_69 : decode cX6_noteEnd 69 = .ok (.iastore, 1) := by decide +kernel
theorem dX6_noteEnd_70 : decode cX6_noteEnd 70 = .ok (.return_, 1) := by decide +kernel
theorem dX6_tapError_0 : decode cX6_tapError 0 = .ok (.iload_n 1, 1) := by decide +kernel
theorem dX6_tapError_1 : decode cX6_tapError 1 = .ok (.ifCond .eq 11, 3) := by decide +kernel
theorem dX6_tapError_4 : decode cX6_tapError 4 = .ok (.iload_n 1, 1) := by decide +kernel
theorem dX6_tapError_5 : decode cX6_tapError 5 = .ok (.iconst 1, 1) := by decide +kernel
theorem dX6_tapError_6 : decode cX6_tapError 6 = .ok (.if_icmp .eq 6, 3) := by decide +kernel
theorem dX6_tapError_9 : decode cX6_tapError 9 = .ok (.bipush (-2), 2) := by decide +kernel
theorem dX6_tapError_11 : decode cX6_tapError 11 = .ok (.ireturn, 1) := by decide +kernel
theorem dX6_tapError_12 : decode cX6_tapError 12 = .ok (.aload_n 0, 1) := by decide +kernel
theorem dX6_tapError_13 : decode cX6_tapError 13 = .ok (.getfield 28, 3) := by decide +kernel
theorem dX6_tapError_16 : decode cX6_tapError 16 = .ok (.invokevirtual 90, 3) := by decide +kernel
theorem dX6_tapError_19 : decode cX6_tapError 19 = .ok (.ifCond .eq 7, 3) := by decide +kernel
theorem dX6_tapError_22 : decode cX6_tapError 22 = .ok (.iconst 0, 1) := by decide +kernel
theorem dX6_tapError_23 : decode cX6_tapError 23 = .ok (.goto 5, 3) := by decide +kernel
theorem dX6_tapError_26 : decode cX6_tapError 26 = .ok (.bipush (-5), 2) := by decide +kernel
theorem dX6_tapError_28 : decode cX6_tapError 28 = .ok (.ireturn, 1) := by decide +kernel
theorem dX6_tapFrom_0 : decode cX6_tapFrom 0 = .ok (.aload_n 0, 1) := by decide +kernel
theorem dX6_tapFrom_1 : decode cX6_tapFrom 1 = .ok (.getfield 28, 3) := by decide +kernel
theorem dX6_tapFrom_4 : decode cX6_tapFrom 4 = .ok (.iload_n 1, 1) := by decide +kernel
theorem dX6_tapFrom_5 : decode cX6_tapFrom 5 = .ok (.aload_n 0, 1) := by decide +kernel
theorem dX6_tapFrom_6 : decode cX6_tapFrom 6 = .ok (.getfield 12, 3) := by decide +kernel
theorem dX6_tapFrom_9 : decode cX6_tapFrom 9 = .ok (.iconst 3, 1) := by decide +kernel
theorem dX6_tapFrom_10 : decode cX6_tapFrom 10 = .ok (.invokevirtual 113, 3) := by decide +kernel
theorem dX6_tapFrom_13 : decode cX6_tapFrom 13 = .ok (.invokevirtual 117, 3) := by decide +kernel
theorem dX6_tapFrom_16 : decode cX6_tapFrom 16 = .ok (.aload_n 0, 1) := by decide +kernel
theorem dX6_tapFrom_17 : decode cX6_tapFrom 17 = .ok (.dup, 1) := by decide +kernel
theorem dX6_tapFrom_18 : decode cX6_tapFrom 18 = .ok (.getfield 47, 3) := by decide +kernel
theorem dX6_tapFrom_21 : decode cX6_tapFrom 21 = .ok (.iconst 1, 1) := by decide +kernel
theorem dX6_tapFrom_22 : decode cX6_tapFrom 22 = .ok (.iadd, 1) := by decide +kernel
theorem dX6_tapFrom_23 : decode cX6_tapFrom 23 = .ok (.putfield 47, 3) := by decide +kernel
theorem dX6_tapFrom_26 : decode cX6_tapFrom 26 = .ok (.aload_n 0, 1) := by decide +kernel
theorem dX6_tapFrom_27 : decode cX6_tapFrom 27 = .ok (.getfield 28, 3) := by decide +kernel
theorem dX6_tapFrom_30 : decode cX6_tapFrom 30 = .ok (.getfield 120, 3) := by decide +kernel
theorem dX6_tapFrom_33 : decode cX6_tapFrom 33 = .ok (.sipush 500, 3) := by decide +kernel
theorem dX6_tapFrom_36 : decode cX6_tapFrom 36 = .ok (.iadd, 1) := by decide +kernel
theorem dX6_tapFrom_37 : decode cX6_tapFrom 37 = .ok (.ireturn, 1) := by decide +kernel
theorem dX6_pushError_0 : decode cX6_pushError 0 = .ok (.aload_n 0, 1) := by decide +kernel
theorem dX6_pushError_1 : decode cX6_pushError 1 = .ok (.getfield 28, 3) := by decide +kernel
theorem dX6_pushError_4 : decode cX6_pushError 4 = .ok (.invokevirtual 90, 3) := by decide +kernel
theorem dX6_pushError_7 : decode cX6_pushError 7 = .ok (.ifCond .eq 7, 3) := by decide +kernel
theorem dX6_pushError_10 : decode cX6_pushError 10 = .ok (.iconst 0, 1) := by decide +kernel
theorem dX6_pushError_11 : decode cX6_pushError 11 = .ok (.goto 5, 3) := by decide +kernel
theorem dX6_pushError_14 : decode cX6_pushError 14 = .ok (.bipush (-5), 2) := by decide +kernel
theorem dX6_pushError_16 : decode cX6_pushError 16 = .ok (.ireturn, 1) := by decide +kernel
theorem dX6_pushOn_0 : decode cX6_pushOn 0 = .ok (.aload_n 0, 1) := by decide +kernel
theorem dX6_pushOn_1 : decode cX6_pushOn 1 = .ok (.getfield 28, 3) := by decide +kernel
theorem dX6_pushOn_4 : decode cX6_pushOn 4 = .ok (.invokevirtual 123, 3) := by decide +kernel
theorem dX6_pushOn_7 : decode cX6_pushOn 7 = .ok (.aload_n 0, 1) := by decide +kernel
theorem dX6_pushOn_8 : decode cX6_pushOn 8 = .ok (.getfield 28, 3) := by decide +kernel
theorem dX6_pushOn_11 : decode cX6_pushOn 11 = .ok (.getfield 126, 3) := by decide +kernel
theorem dX6_pushOn_14 : decode cX6_pushOn 14 = .ok (.ireturn, 1) := by decide +kernel
theorem dX6_number_0 : decode cX6_number 0 = .ok (.iload_n 1, 1) := by decide +kernel
theorem dX6_number_1 : decode cX6_number 1 = .ok (.tableswitch 118 0 8 #[51, 59, 64, 71, 78, 85, 92, 100, 109], 51) := by decide +kernel
theorem dX6_number_52 : decode cX6_number 52 = .ok (.aload_n 0, 1) := by decide +kernel
theorem dX6_number_53 : decode cX6_number 53 = .ok (.getfield 21, 3) := by decide +kernel
theorem dX6_number_56 : decode cX6_number 56 = .ok (.getfield 69, 3) := by decide +kernel
theorem dX6_number_59 : decode cX6_number 59 = .ok (.ireturn, 1) := by decide +kernel
theorem dX6_number_60 : decode cX6_number 60 = .ok (.aload_n 0, 1) := by decide +kernel
theorem dX6_number_61 : decode cX6_number 61 = .ok (.getfield 43, 3) := by decide +kernel
theorem dX6_number_64 : decode cX6_number 64 = .ok (.ireturn, 1) := by decide +kernel
theorem dX6_number_65 : decode cX6_number 65 = .ok (.aload_n 0, 1) := by decide +kernel
theorem dX6_number_66 : decode cX6_number 66 = .ok (.getfield 39, 3) := by decide +kernel
theorem dX6_number_69 : decode cX6_number 69 = .ok (.iconst 1, 1) := by decide +kernel
theorem dX6_number_70 : decode cX6_number 70 = .ok (.iaload, 1) := by decide +kernel
theorem dX6_number_71 : decode cX6_number 71 = .ok (.ireturn, 1) := by decide +kernel
theorem dX6_number_72 : decode cX6_number 72 = .ok (.aload_n 0, 1) := by decide +kernel
theorem dX6_number_73 : decode cX6_number 73 = .ok (.getfield 39, 3) := by decide +kernel
theorem dX6_number_76 : decode cX6_number 76 = .ok (.iconst 2, 1) := by decide +kernel
theorem dX6_number_77 : decode cX6_number 77 = .ok (.iaload, 1) := by decide +kernel
theorem dX6_number_78 : decode cX6_number 78 = .ok (.ireturn, 1) := by decide +kernel
theorem dX6_number_79 : decode cX6_number 79 = .ok (.aload_n 0, 1) := by decide +kernel
theorem dX6_number_80 : decode cX6_number 80 = .ok (.getfield 39, 3) := by decide +kernel
theorem dX6_number_83 : decode cX6_number 83 = .ok (.iconst 3, 1) := by decide +kernel
theorem dX6_number_84 : decode cX6_number 84 = .ok (.iaload, 1) := by decide +kernel
theorem dX6_number_85 : decode cX6_number 85 = .ok (.ireturn, 1) := by decide +kernel
theorem dX6_number_86 : decode cX6_number 86 = .ok (.aload_n 0, 1) := by decide +kernel
theorem dX6_number_87 : decode cX6_number 87 = .ok (.getfield 39, 3) := by decide +kernel
theorem dX6_number_90 : decode cX6_number 90 = .ok (.iconst 4, 1) := by decide +kernel
theorem dX6_number_91 : decode cX6_number 91 = .ok (.iaload, 1) := by decide +kernel
theorem dX6_number_92 : decode cX6_number 92 = .ok (.ireturn, 1) := by decide +kernel
theorem dX6_number_93 : decode cX6_number 93 = .ok (.aload_n 0, 1) := by decide +kernel
theorem dX6_number_94 : decode cX6_number 94 = .ok (.getfield 21, 3) := by decide +kernel
theorem dX6_number_97 : decode cX6_number 97 = .ok (.invokevirtual 129, 3) := by decide +kernel
theorem dX6_number_100 : decode cX6_number 100 = .ok (.ireturn, 1) := by decide +kernel
theorem dX6_number_101 : decode cX6_number 101 = .ok (.aload_n 0, 1) := by decide +kernel
theorem dX6_number_102 : decode cX6_number 102 = .ok (.getfield 21, 3) := by decide +kernel
theorem dX6_number_105 : decode cX6_number 105 = .ok (.iconst 0, 1) := by decide +kernel
theorem dX6_number_106 : decode cX6_number 106 = .ok (.invokevirtual 133, 3) := by decide +kernel
theorem dX6_number_109 : decode cX6_number 109 = .ok (.ireturn, 1) := by decide +kernel
theorem dX6_number_110 : decode cX6_number 110 = .ok (.aload_n 0, 1) := by decide +kernel
theorem dX6_number_111 : decode cX6_number 111 = .ok (.getfield 21, 3) := by decide +kernel
theorem dX6_number_114 : decode cX6_number 114 = .ok (.iconst 1, 1) := by decide +kernel
theorem dX6_number_115 : decode cX6_number 115 = .ok (.invokevirtual 133, 3) := by decide +kernel
theorem dX6_number_118 : decode cX6_number 118 = .ok (.ireturn, 1) := by decide +kernel
theorem dX6_number_119 : decode cX6_number 119 = .ok (.aload_n 0, 1) := by decide +kernel
theorem dX6_number_120 : decode cX6_number 120 = .ok (.getfield 47, 3) := by decide +kernel
theorem dX6_number_123 : decode cX6_number 123 = .ok (.ireturn, 1) := by decide +kernel
theorem dX7_init_0 : decode cX7_init 0 = .ok (.aload_n 0, 1) := by decide +kernel
theorem dX7_init_1 : decode cX7_init 1 = .ok (.invokespecial 1, 3) := by decide +kernel
theorem dX7_init_4 : decode cX7_init 4 = .ok (.aload_n 0, 1) := by decide +kernel
theorem dX7_init_5 : decode cX7_init 5 = .ok (.new 7, 3) := by decide +kernel
theorem dX7_init_8 : decode cX7_init 8 = .ok (.dup, 1) := by decide +kernel
theorem dX7_init_9 : decode cX7_init 9 = .ok (.invokespecial 9, 3) := by decide +kernel
theorem dX7_init_12 : decode cX7_init 12 = .ok (.putfield 10, 3) := by decide +kernel
theorem dX7_init_15 : decode cX7_init 15 = .ok (.aload_n 0, 1) := by decide +kernel
theorem dX7_init_16 : decode cX7_init 16 = .ok (.new 16, 3) := by decide +kernel
theorem dX7_init_19 : decode cX7_init 19 = .ok (.dup, 1) := by decide +kernel
theorem dX7_init_20 : decode cX7_init 20 = .ok (.invokespecial 18, 3) := by decide +kernel
theorem dX7_init_23 : decode cX7_init 23 = .ok (.putfield 19, 3) := by decide +kernel
theorem dX7_init_26 : decode cX7_init 26 = .ok (.aload_n 0, 1) := by decide +kernel
theorem dX7_init_27 : decode cX7_init 27 = .ok (.iconst 2, 1) := by decide +kernel
theorem dX7_init_28 : decode cX7_init 28 = .ok (.anewarray 7, 3) := by decide +kernel
theorem dX7_init_31 : decode cX7_init 31 = .ok (.putfield 23, 3) := by decide +kernel
theorem dX7_init_34 : decode cX7_init 34 = .ok (.iconst 0, 1) := by decide +kernel
theorem dX7_init_35 : decode cX7_init 35 = .ok (.istore_n 1, 1) := by decide +kernel
theorem dX7_init_36 : decode cX7_init 36 = .ok (.iload_n 1, 1) := by decide +kernel
theorem dX7_init_37 : decode cX7_init 37 = .ok (.iconst 2, 1) := by decide +kernel
theorem dX7_init_38 : decode cX7_init 38 = .ok (.if_icmp .ge 22, 3) := by decide +kernel
theorem dX7_init_41 : decode cX7_init 41 = .ok (.aload_n 0, 1) := by decide +kernel
theorem dX7_init_42 : decode cX7_init 42 = .ok (.getfield 23, 3) := by decide +kernel
theorem dX7_init_45 : decode cX7_init 45 = .ok (.iload_n 1, 1) := by decide +kernel
theorem dX7_init_46 : decode cX7_init 46 = .ok (.new 7, 3) := by decide +kernel
theorem dX7_init_49 : decode cX7_init 49 = .ok (.dup, 1) := by decide +kernel
theorem dX7_init_50 : decode cX7_init 50 = .ok (.invokespecial 9, 3) := by decide +kernel
theorem dX7_init_53 : decode cX7_init 53 = .ok (.aastore, 1) := by decide +kernel
theorem dX7_init_54 : decode cX7_init 54 = .ok (.iinc 1 1, 3) := by decide +kernel
theorem dX7_init_57 : decode cX7_init 57 = .ok (.goto (-21), 3) := by decide +kernel
theorem dX7_init_60 : decode cX7_init 60 = .ok (.aload_n 0, 1) := by decide +kernel
theorem dX7_init_61 : decode cX7_init 61 = .ok (.iconst 2, 1) := by decide +kernel
theorem dX7_init_62 : decode cX7_init 62 = .ok (.newarray .boolean, 2) := by decide +kernel
theorem dX7_init_64 : decode cX7_init 64 = .ok (.putfield 27, 3) := by decide +kernel
theorem dX7_init_67 : decode cX7_init 67 = .ok (.aload_n 0, 1) := by decide +kernel
theorem dX7_init_68 : decode cX7_init 68 = .ok (.new 31, 3) := by decide +kernel
theorem dX7_init_71 : decode cX7_init 71 = .ok (.dup, 1) := by decide +kernel
theorem dX7_init_72 : decode cX7_init 72 = .ok (.invokespecial 33, 3) := by decide +kernel
theorem dX7_init_75 : decode cX7_init 75 = .ok (.putfield 34, 3) := by decide +kernel
theorem dX7_init_78 : decode cX7_init 78 = .ok (.aload_n 0, 1) := by decide +kernel
theorem dX7_init_79 : decode cX7_init 79 = .ok (.new 38, 3) := by decide +kernel
theorem dX7_init_82 : decode cX7_init 82 = .ok (.dup, 1) := by decide +kernel
theorem dX7_init_83 : decode cX7_init 83 = .ok (.invokespecial 40, 3) := by decide +kernel
theorem dX7_init_86 : decode cX7_init 86 = .ok (.putfield 41, 3) := by decide +kernel
theorem dX7_init_89 : decode cX7_init 89 = .ok (.return_, 1) := by decide +kernel
theorem dX7_set_0 : decode cX7_set 0 = .ok (.aload_n 0, 1) := by decide +kernel
theorem dX7_set_1 : decode cX7_set 1 = .ok (.getfield 10, 3) := by decide +kernel
theorem dX7_set_4 : decode cX7_set 4 = .ok (.getfield 45, 3) := by decide +kernel
theorem dX7_set_7 : decode cX7_set 7 = .ok (.iload_n 1, 1) := by decide +kernel
theorem dX7_set_8 : decode cX7_set 8 = .ok (.iload_n 2, 1) := by decide +kernel
theorem dX7_set_9 : decode cX7_set 9 = .ok (.invokevirtual 49, 3) := by decide +kernel
theorem dX7_set_12 : decode cX7_set 12 = .ok (.ifCond .ne 6, 3) := by decide +kernel
theorem dX7_set_15 : decode cX7_set 15 = .ok (.bipush (-2), 2) := by decide +kernel
theorem dX7_set_17 : decode cX7_set 17 = .ok (.ireturn, 1) := by decide +kernel
theorem dX7_set_18 : decode cX7_set 18 = .ok (.aload_n 0, 1) := by decide +kernel
theorem dX7_set_19 : decode cX7_set 19 = .ok (.getfield 19, 3) := by decide +kernel
theorem dX7_set_22 : decode cX7_set 22 = .ok (.aload_n 0, 1) := by decide +kernel
theorem dX7_set_23 : decode cX7_set 23 = .ok (.getfield 10, 3) := by decide +kernel
theorem dX7_set_26 : decode cX7_set 26 = .ok (.invokevirtual 55, 3) := by decide +kernel
theorem dX7_set_29 : decode cX7_set 29 = .ok (.aload_n 0, 1) := by decide +kernel
theorem dX7_set_30 : decode cX7_set 30 = .ok (.getfield 10, 3) := by decide +kernel
theorem dX7_set_33 : decode cX7_set 33 = .ok (.getfield 45, 3) := by decide +kernel
theorem dX7_set_36 : decode cX7_set 36 = .ok (.iload_n 1, 1) := by decide +kernel
theorem dX7_set_37 : decode cX7_set 37 = .ok (.iload_n 2, 1) := by decide +kernel
theorem dX7_set_38 : decode cX7_set 38 = .ok (.invokevirtual 59, 3) := by decide +kernel
theorem dX7_set_41 : decode cX7_set 41 = .ok (.ireturn, 1) := by decide +kernel
theorem dX7_part_0 : decode cX7_part 0 = .ok (.aload_n 0, 1) := by decide +kernel
theorem dX7_part_1 : decode cX7_part 1 = .ok (.getfield 10, 3) := by decide +kernel
theorem dX7_part_4 : decode cX7_part 4 = .ok (.iload_n 1, 1) := by decide +kernel
theorem dX7_part_5 : decode cX7_part 5 = .ok (.iload_n 2, 1) := by decide +kernel
theorem dX7_part_6 : decode cX7_part 6 = .ok (.iload_n 3, 1) := by decide +kernel
theorem dX7_part_7 : decode cX7_part 7 = .ok (.invokevirtual 63, 3) := by decide +kernel
theorem dX7_part_10 : decode cX7_part 10 = .ok (.istore 4, 2) := by decide +kernel
theorem dX7_part_12 : decode cX7_part 12 = .ok (.iload 4, 2) := by decide +kernel
theorem dX7_part_14 : decode cX7_part 14 = .ok (.ifCond .eq 6, 3) := by decide +kernel
theorem dX7_part_17 : decode cX7_part 17 = .ok (.iload 4, 2) := by decide +kernel
theorem dX7_part_19 : decode cX7_part 19 = .ok (.ireturn, 1) := by decide +kernel
theorem dX7_part_20 : decode cX7_part 20 = .ok (.aload_n 0, 1) := by decide +kernel
theorem dX7_part_21 : decode cX7_part 21 = .ok (.getfield 19, 3) := by decide +kernel
theorem dX7_part_24 : decode cX7_part 24 = .ok (.aload_n 0, 1) := by decide +kernel
theorem dX7_part_25 : decode cX7_part 25 = .ok (.getfield 10, 3) := by decide +kernel
theorem dX7_part_28 : decode cX7_part 28 = .ok (.invokevirtual 55, 3) := by decide +kernel
theorem dX7_part_31 : decode cX7_part 31 = .ok (.aload_n 0, 1) := by decide +kernel
theorem dX7_part_32 : decode cX7_part 32 = .ok (.getfield 10, 3) := by decide +kernel
theorem dX7_part_35 : decode cX7_part 35 = .ok (.iload_n 1, 1) := by decide +kernel
theorem dX7_part_36 : decode cX7_part 36 = .ok (.iload_n 2, 1) := by decide +kernel
theorem dX7_part_37 : decode cX7_part 37 = .ok (.iload_n 3, 1) := by decide +kernel
theorem dX7_part_38 : decode cX7_part 38 = .ok (.invokevirtual 67, 3) := by decide +kernel
theorem dX7_part_41 : decode cX7_part 41 = .ok (.ireturn, 1) := by decide +kernel
theorem dX7_takeAway_0 : decode cX7_takeAway 0 = .ok (.aload_n 0, 1) := by decide +kernel
theorem dX7_takeAway_1 : decode cX7_takeAway 1 = .ok (.getfield 10, 3) := by decide +kernel
theorem dX7_takeAway_4 : decode cX7_takeAway 4 = .ok (.getfield 70, 3) := by decide +kernel
theorem dX7_takeAway_7 : decode cX7_takeAway 7 = .ok (.iload_n 1, 1) := by decide +kernel
theorem dX7_takeAway_8 : decode cX7_takeAway 8 = .ok (.invokevirtual 74, 3) := by decide +kernel
theorem dX7_takeAway_11 : decode cX7_takeAway 11 = .ok (.ifCond .ne 5, 3) := by decide +kernel
theorem dX7_takeAway_14 : decode cX7_takeAway 14 = .ok (.iconst (-1), 1) := by decide +kernel
theorem dX7_takeAway_15 : decode cX7_takeAway 15 = .ok (.ireturn, 1) := by decide +kernel
theorem dX7_takeAway_16 : decode cX7_takeAway 16 = .ok (.aload_n 0, 1) := by decide +kernel
theorem dX7_takeAway_17 : decode cX7_takeAway 17 = .ok (.getfield 19, 3) := by decide +kernel
theorem dX7_takeAway_20 : decode cX7_takeAway 20 = .ok (.aload_n 0, 1) := by decide +kernel
theorem dX7_takeAway_21 : decode cX7_takeAway 21 = .ok (.getfield 10, 3) := by decide +kernel
theorem dX7_takeAway_24 : decode cX7_takeAway 24 = .ok (.invokevirtual 55, 3) := by decide +kernel
theorem dX7_takeAway_27 : decode cX7_takeAway 27 = .ok (.aload_n 0, 1) := by decide +kernel
theorem dX7_takeAway_28 : decode cX7_takeAway 28 = .ok (.getfield 10, 3) := by decide +kernel
theorem dX7_takeAway_31 : decode cX7_takeAway 31 = .ok (.iload_n 1, 1) := by decide +kernel
theorem dX7_takeAway_32 : decode cX7_takeAway 32 = .ok (.invokevirtual 80, 3) := by decide +kernel
theorem dX7_takeAway_35 : decode cX7_takeAway 35 = .ok (.ireturn, 1) := by decide +kernel
theorem dX7_hoop_0 : decode cX7_hoop 0 = .ok (.iload_n 1, 1) := by decide +kernel
theorem dX7_hoop_1 : decode cX7_hoop 1 = .ok (.invokestatic 84, 3) := by decide +kernel
theorem dX7_hoop_4 : decode cX7_hoop 4 = .ok (.ifCond .ne 6, 3) := by decide +kernel
theorem dX7_hoop_7 : decode cX7_hoop 7 = .ok (.bipush (-2), 2) := by decide +kernel
theorem dX7_hoop_9 : decode cX7_hoop 9 = .ok (.ireturn, 1) := by decide +kernel
theorem dX7_hoop_10 : decode cX7_hoop 10 = .ok (.aload_n 0, 1) := by decide +kernel
theorem dX7_hoop_11 : decode cX7_hoop 11 = .ok (.getfield 19, 3) := by decide +kernel
theorem dX7_hoop_14 : decode cX7_hoop 14 = .ok (.aload_n 0, 1) := by decide +kernel
theorem dX7_hoop_15 : decode cX7_hoop 15 = .ok (.getfield 10, 3) := by decide +kernel
theorem dX7_hoop_18 : decode cX7_hoop 18 = .ok (.invokevirtual 55, 3) := by decide +kernel
theorem dX7_hoop_21 : decode cX7_hoop 21 = .ok (.aload_n 0, 1) := by decide +kernel
theorem dX7_hoop_22 : decode cX7_hoop 22 = .ok (.getfield 10, 3) := by decide +kernel
theorem dX7_hoop_25 : decode cX7_hoop 25 = .ok (.iload_n 1, 1) := by decide +kernel
theorem dX7_hoop_26 : decode cX7_hoop 26 = .ok (.invokevirtual 86, 3) := by decide +kernel
theorem dX7_hoop_29 : decode cX7_hoop 29 = .ok (.ireturn, 1) := by decide +kernel
theorem dX7_roll_0 : decode cX7_roll 0 = .ok (.aload_n 0, 1) := by decide +kernel
theorem dX7_roll_1 : decode cX7_roll 1 = .ok (.getfield 10, 3) := by decide +kernel
theorem dX7_roll_4 : decode cX7_roll 4 = .ok (.iload_n 1, 1) := by decide +kernel
theorem dX7_roll_5 : decode cX7_roll 5 = .ok (.invokevirtual 89, 3) := by decide +kernel
theorem dX7_roll_8 : decode cX7_roll 8 = .ok (.istore_n 2, 1) := by decide +kernel
theorem dX7_roll_9 : decode cX7_roll 9 = .ok (.iload_n 2, 1) := by decide +kernel
theorem dX7_roll_10 : decode cX7_roll 10 = .ok (.ifCond .eq 5, 3) := by decide +kernel
theorem dX7_roll_13 : decode cX7_roll 13 = .ok (.iload_n 2, 1) := by decide +kernel
