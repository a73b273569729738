/-! decode rows -/
theorem dX7_widest_58 : decode cX7_widest 58 = .ok (.bipush (-6), 2) := by decide +kernel
theorem dX7_widest_60 : decode cX7_widest 60 = .ok (.ireturn, 1) := by decide +kernel
theorem dX7_saves_0 : decode cX7_saves 0 = .ok (.aload_n 0, 1) := by decide +kernel
theorem dX7_saves_1 : decode cX7_saves 1 = .ok (.getfield 10, 3) := by decide +kernel
theorem dX7_saves_4 : decode cX7_saves 4 = .ok (.iload_n 1, 1) := by decide +kernel
theorem dX7_saves_5 : decode cX7_saves 5 = .ok (.invokevirtual 95, 3) := by decide +kernel
theorem dX7_saves_8 : decode cX7_saves 8 = .ok (.istore_n 2, 1) := by decide +kernel
theorem dX7_saves_9 : decode cX7_saves 9 = .ok (.iload_n 2, 1) := by decide +kernel
theorem dX7_saves_10 : decode cX7_saves 10 = .ok (.ifCond .eq 5, 3) := by decide +kernel
theorem dX7_saves_13 : decode cX7_saves 13 = .ok (.iload_n 2, 1) := by decide +kernel
theorem dX7_saves_14 : decode cX7_saves 14 = .ok (.ireturn, 1) := by decide +kernel
theorem dX7_saves_15 : decode cX7_saves 15 = .ok (.iconst 0, 1) := by decide +kernel
theorem dX7_saves_16 : decode cX7_saves 16 = .ok (.istore_n 3, 1) := by decide +kernel
theorem dX7_saves_17 : decode cX7_saves 17 = .ok (.iload_n 3, 1) := by decide +kernel
theorem dX7_saves_18 : decode cX7_saves 18 = .ok (.bipush 20, 2) := by decide +kernel
theorem dX7_saves_20 : decode cX7_saves 20 = .ok (.if_icmp .gt 20, 3) := by decide +kernel
theorem dX7_saves_23 : decode cX7_saves 23 = .ok (.aload_n 0, 1) := by decide +kernel
theorem dX7_saves_24 : decode cX7_saves 24 = .ok (.iload_n 3, 1) := by decide +kernel
theorem dX7_saves_25 : decode cX7_saves 25 = .ok (.iload_n 1, 1) := by decide +kernel
theorem dX7_saves_26 : decode cX7_saves 26 = .ok (.invokevirtual 183, 3) := by decide +kernel
theorem dX7_saves_29 : decode cX7_saves 29 = .ok (.ifCond .eq 5, 3) := by decide +kernel
theorem dX7_saves_32 : decode cX7_saves 32 = .ok (.iload_n 3, 1) := by decide +kernel
theorem dX7_saves_33 : decode cX7_saves 33 = .ok (.ireturn, 1) := by decide +kernel
theorem dX7_saves_34 : decode cX7_saves 34 = .ok (.iinc 3 1, 3) := by decide +kernel
theorem dX7_saves_37 : decode cX7_saves 37 = .ok (.goto (-20), 3) := by decide +kernel
theorem dX7_saves_40 : decode cX7_saves 40 = .ok (.bipush (-6), 2) := by decide +kernel
theorem dX7_saves_42 : decode cX7_saves 42 = .ok (.ireturn, 1) := by decide +kernel
theorem dX7_passesAfterTaps_0 : decode cX7_passesAfterTaps 0 = .ok (.aload_n 0, 1) := by decide +kernel
theorem dX7_passesAfterTaps_1 : decode cX7_passesAfterTaps 1 = .ok (.getfield 41, 3) := by decide +kernel
theorem dX7_passesAfterTaps_4 : decode cX7_passesAfterTaps 4 = .ok (.aload_n 0, 1) := by decide +kernel
theorem dX7_passesAfterTaps_5 : decode cX7_passesAfterTaps 5 = .ok (.getfield 10, 3) := by decide +kernel
theorem dX7_passesAfterTaps_8 : decode cX7_passesAfterTaps 8 = .ok (.getfield 111, 3) := by decide +kernel
theorem dX7_passesAfterTaps_11 : decode cX7_passesAfterTaps 11 = .ok (.invokevirtual 169, 3) := by decide +kernel
theorem dX7_passesAfterTaps_14 : decode cX7_passesAfterTaps 14 = .ok (.iconst 0, 1) := by decide +kernel
theorem dX7_passesAfterTaps_15 : decode cX7_passesAfterTaps 15 = .ok (.istore_n 3, 1) := by decide +kernel
theorem dX7_passesAfterTaps_16 : decode cX7_passesAfterTaps 16 = .ok (.iload_n 3, 1) := by decide +kernel
theorem dX7_passesAfterTaps_17 : decode cX7_passesAfterTaps 17 = .ok (.iload_n 1, 1) := by decide +kernel
theorem dX7_passesAfterTaps_18 : decode cX7_passesAfterTaps 18 = .ok (.if_icmp .ge 28, 3) := by decide +kernel
theorem dX7_passesAfterTaps_21 : decode cX7_passesAfterTaps 21 = .ok (.aload_n 0, 1) := by decide +kernel
theorem dX7_passesAfterTaps_22 : decode cX7_passesAfterTaps 22 = .ok (.getfield 41, 3) := by decide +kernel
theorem dX7_passesAfterTaps_25 : decode cX7_passesAfterTaps 25 = .ok (.iload_n 2, 1) := by decide +kernel
theorem dX7_passesAfterTaps_26 : decode cX7_passesAfterTaps 26 = .ok (.aload_n 0, 1) := by decide +kernel
theorem dX7_passesAfterTaps_27 : decode cX7_passesAfterTaps 27 = .ok (.getfield 10, 3) := by decide +kernel
theorem dX7_passesAfterTaps_30 : decode cX7_passesAfterTaps 30 = .ok (.getfield 45, 3) := by decide +kernel
theorem dX7_passesAfterTaps_33 : decode cX7_passesAfterTaps 33 = .ok (.iconst 3, 1) := by decide +kernel
theorem dX7_passesAfterTaps_34 : decode cX7_passesAfterTaps 34 = .ok (.invokevirtual 135, 3) := by decide +kernel
theorem dX7_passesAfterTaps_37 : decode cX7_passesAfterTaps 37 = .ok (.invokevirtual 186, 3) := by decide +kernel
theorem dX7_passesAfterTaps_40 : decode cX7_passesAfterTaps 40 = .ok (.iinc 3 1, 3) := by decide +kernel
theorem dX7_passesAfterTaps_43 : decode cX7_passesAfterTaps 43 = .ok (.goto (-27), 3) := by decide +kernel
theorem dX7_passesAfterTaps_46 : decode cX7_passesAfterTaps 46 = .ok (.aload_n 0, 1) := by decide +kernel
theorem dX7_passesAfterTaps_47 : decode cX7_passesAfterTaps 47 = .ok (.getfield 41, 3) := by decide +kernel
theorem dX7_passesAfterTaps_50 : decode cX7_passesAfterTaps 50 = .ok (.bipush 20, 2) := by decide +kernel
theorem dX7_passesAfterTaps_52 : decode cX7_passesAfterTaps 52 = .ok (.aload_n 0, 1) := by decide +kernel
theorem dX7_passesAfterTaps_53 : decode cX7_passesAfterTaps 53 = .ok (.getfield 10, 3) := by decide +kernel
theorem dX7_passesAfterTaps_56 : decode cX7_passesAfterTaps 56 = .ok (.getfield 70, 3) := by decide +kernel
theorem dX7_passesAfterTaps_59 : decode cX7_passesAfterTaps 59 = .ok (.aload_n 0, 1) := by decide +kernel
theorem dX7_passesAfterTaps_60 : decode cX7_passesAfterTaps 60 = .ok (.getfield 10, 3) := by decide +kernel
theorem dX7_passesAfterTaps_63 : decode cX7_passesAfterTaps 63 = .ok (.getfield 45, 3) := by decide +kernel
theorem dX7_passesAfterTaps_66 : decode cX7_passesAfterTaps 66 = .ok (.invokevirtual 176, 3) := by decide +kernel
theorem dX7_passesAfterTaps_69 : decode cX7_passesAfterTaps 69 = .ok (.aload_n 0, 1) := by decide +kernel
theorem dX7_passesAfterTaps_70 : decode cX7_passesAfterTaps 70 = .ok (.getfield 41, 3) := by decide +kernel
theorem dX7_passesAfterTaps_73 : decode cX7_passesAfterTaps 73 = .ok (.getfield 156, 3) := by decide +kernel
theorem dX7_passesAfterTaps_76 : decode cX7_passesAfterTaps 76 = .ok (.iconst 4, 1) := by decide +kernel
theorem dX7_passesAfterTaps_77 : decode cX7_passesAfterTaps 77 = .ok (.if_icmp .ne 7, 3) := by decide +kernel
theorem dX7_passesAfterTaps_80 : decode cX7_passesAfterTaps 80 = .ok (.iconst 1, 1) := by decide +kernel
theorem dX7_passesAfterTaps_81 : decode cX7_passesAfterTaps 81 = .ok (.goto 4, 3) := by decide +kernel
theorem dX7_passesAfterTaps_84 : decode cX7_passesAfterTaps 84 = .ok (.iconst 0, 1) := by decide +kernel
theorem dX7_passesAfterTaps_85 : decode cX7_passesAfterTaps 85 = .ok (.ireturn, 1) := by decide +kernel
theorem dX7_traced_0 : decode cX7_traced 0 = .ok (.aload_n 0, 1) := by decide +kernel
theorem dX7_traced_1 : decode cX7_traced 1 = .ok (.getfield 10, 3) := by decide +kernel
theorem dX7_traced_4 : decode cX7_traced 4 = .ok (.getfield 70, 3) := by decide +kernel
theorem dX7_traced_7 : decode cX7_traced 7 = .ok (.iload_n 2, 1) := by decide +kernel
theorem dX7_traced_8 : decode cX7_traced 8 = .ok (.invokevirtual 74, 3) := by decide +kernel
theorem dX7_traced_11 : decode cX7_traced 11 = .ok (.ifCond .ne 5, 3) := by decide +kernel
theorem dX7_traced_14 : decode cX7_traced 14 = .ok (.iconst (-1), 1) := by decide +kernel
theorem dX7_traced_15 : decode cX7_traced 15 = .ok (.ireturn, 1) := by decide +kernel
theorem dX7_traced_16 : decode cX7_traced 16 = .ok (.iload_n 1, 1) := by decide +kernel
theorem dX7_traced_17 : decode cX7_traced 17 = .ok (.invokestatic 84, 3) := by decide +kernel
theorem dX7_traced_20 : decode cX7_traced 20 = .ok (.ifCond .eq 12, 3) := by decide +kernel
theorem dX7_traced_23 : decode cX7_traced 23 = .ok (.iload_n 3, 1) := by decide +kernel
theorem dX7_traced_24 : decode cX7_traced 24 = .ok (.ifCond .lt 8, 3) := by decide +kernel
theorem dX7_traced_27 : decode cX7_traced 27 = .ok (.iload_n 3, 1) := by decide +kernel
theorem dX7_traced_28 : decode cX7_traced 28 = .ok (.iconst 2, 1) := by decide +kernel
theorem dX7_traced_29 : decode cX7_traced 29 = .ok (.if_icmp .le 6, 3) := by decide +kernel
theorem dX7_traced_32 : decode cX7_traced 32 = .ok (.bipush (-2), 2) := by decide +kernel
theorem dX7_traced_34 : decode cX7_traced 34 = .ok (.ireturn, 1) := by decide +kernel
theorem dX7_traced_35 : decode cX7_traced 35 = .ok (.aload_n 0, 1) := by decide +kernel
theorem dX7_traced_36 : decode cX7_traced 36 = .ok (.getfield 41, 3) := by decide +kernel
theorem dX7_traced_39 : decode cX7_traced 39 = .ok (.iload_n 1, 1) := by decide +kernel
theorem dX7_traced_40 : decode cX7_traced 40 = .ok (.invokevirtual 179, 3) := by decide +kernel
theorem dX7_traced_43 : decode cX7_traced 43 = .ok (.aload_n 0, 1) := by decide +kernel
theorem dX7_traced_44 : decode cX7_traced 44 = .ok (.getfield 41, 3) := by decide +kernel
theorem dX7_traced_47 : decode cX7_traced 47 = .ok (.iload_n 2, 1) := by decide +kernel
theorem dX7_traced_48 : decode cX7_traced 48 = .ok (.iconst 1, 1) := by decide +kernel
theorem dX7_traced_49 : decode cX7_traced 49 = .ok (.iadd, 1) := by decide +kernel
theorem dX7_traced_50 : decode cX7_traced 50 = .ok (.aload_n 0, 1) := by decide +kernel
theorem dX7_traced_51 : decode cX7_traced 51 = .ok (.getfield 10, 3) := by decide +kernel
theorem dX7_traced_54 : decode cX7_traced 54 = .ok (.getfield 70, 3) := by decide +kernel
theorem dX7_traced_57 : decode cX7_traced 57 = .ok (.aload_n 0, 1) := by decide +kernel
theorem dX7_traced_58 : decode cX7_traced 58 = .ok (.getfield 10, 3) := by decide +kernel
theorem dX7_traced_61 : decode cX7_traced 61 = .ok (.getfield 45, 3) := by decide +kernel
theorem dX7_traced_64 : decode cX7_traced 64 = .ok (.invokevirtual 176, 3) := by decide +kernel
theorem dX7_traced_67 : decode cX7_traced 67 = .ok (.aload_n 0, 1) := by decide +kernel
theorem dX7_traced_68 : decode cX7_traced 68 = .ok (.getfield 41, 3) := by decide +kernel
theorem dX7_traced_71 : decode cX7_traced 71 = .ok (.getfield 156, 3) := by decide +kernel
theorem dX7_traced_74 : decode cX7_traced 74 = .ok (.ifCond .eq 17, 3) := by decide +kernel
theorem dX7_traced_77 : decode cX7_traced 77 = .ok (.aload_n 0, 1) := by decide +kernel
theorem dX7_traced_78 : decode cX7_traced 78 = .ok (.getfield 41, 3) := by decide +kernel
theorem dX7_traced_81 : decode cX7_traced 81 = .ok (.getfield 156, 3) := by decide +kernel
theorem dX7_traced_84 : decode cX7_traced 84 = .ok (.iconst 4, 1) := by decide +kernel
theorem dX7_traced_85 : decode cX7_traced 85 = .ok (.if_icmp .eq 6, 3) := by decide +kernel
theorem dX7_traced_88 : decode cX7_traced 88 = .ok (.bipush (-6), 2) := by decide +kernel
theorem dX7_traced_90 : decode cX7_traced 90 = .ok (.ireturn, 1) := by decide +kernel
theorem dX7_traced_91 : decode cX7_traced 91 = .ok (.aload_n 0, 1) := by decide +kernel
theorem dX7_traced_92 : decode cX7_traced 92 = .ok (.getfield 41, 3) := by decide +kernel
theorem dX7_traced_95 : decode cX7_traced 95 = .ok (.iload_n 3, 1) := by decide +kernel
theorem dX7_traced_96 : decode cX7_traced 96 = .ok (.iconst 1, 1) := by decide +kernel
theorem dX7_traced_97 : decode cX7_traced 97 = .ok (.iadd, 1) := by decide +kernel
theorem dX7_traced_98 : decode cX7_traced 98 = .ok (.invokestatic 118, 3) := by decide +kernel
theorem dX7_traced_101 : decode cX7_traced 101 = .ok (.ireturn, 1) := by decide +kernel
theorem dX7_undo_0 : decode cX7_undo 0 = .ok (.aload_n 0, 1) := by decide +kernel
theorem dX7_undo_1 : decode cX7_undo 1 = .ok (.getfield 19, 3) := by decide +kernel
theorem dX7_undo_4 : decode cX7_undo 4 = .ok (.getfield 134, 3) := by decide +kernel
theorem dX7_undo_7 : decode cX7_undo 7 = .ok (.ifCond .ne 6, 3) := by decide +kernel
theorem dX7_undo_10 : decode cX7_undo 10 = .ok (.bipush (-5), 2) := by decide +kernel
theorem dX7_undo_12 : decode cX7_undo 12 = .ok (.ireturn, 1) := by decide +kernel
theorem dX7_undo_13 : decode cX7_undo 13 = .ok (.aload_n 0, 1) := by decide +kernel
theorem dX7_undo_14 : decode cX7_undo 14 = .ok (.getfield 19, 3) := by decide +kernel
theorem dX7_undo_17 : decode cX7_undo 17 = .ok (.aload_n 0, 1) := by decide +kernel
theorem dX7_undo_18 : decode cX7_undo 18 = .ok (.getfield 10, 3) := by decide +kernel
theorem dX7_undo_21 : decode cX7_undo 21 = .ok (.invokevirtual 225, 3) := by decide +kernel
theorem dX7_undo_24 : decode cX7_undo 24 = .ok (.ireturn, 1) := by decide +kernel
theorem dX7_save_0 : decode cX7_save 0 = .ok (.iload_n 1, 1) := by decide +kernel
theorem dX7_save_1 : decode cX7_save 1 = .ok (.ifCond .lt 8, 3) := by decide +kernel
theorem dX7_save_4 : decode cX7_save 4 = .ok (.iload_n 1, 1) := by decide +kernel
theorem dX7_save_5 : decode cX7_save 5 = .ok (.iconst 2, 1) := by decide +kernel
theorem dX7_save_6 : decode cX7_save 6 = .ok (.if_icmp .lt 6, 3) := by decide +kernel
theorem dX7_save_9 : decode cX7_save 9 = .ok (.bipush (-2), 2) := by decide +kernel
theorem dX7_save_11 : decode cX7_save 11 = .ok (.ireturn, 1) := by decide +kernel
theorem dX7_save_12 : decode cX7_save 12 = .ok (.aload_n 0, 1) := by decide +kernel
theorem dX7_save_13 : decode cX7_save 13 = .ok (.getfield 23, 3) := by decide +kernel
theorem dX7_save_16 : decode cX7_save 16 = .ok (.iload_n 1, 1) := by decide +kernel
theorem dX7_save_17 : decode cX7_save 17 = .ok (.aaload, 1) := by decide +kernel
theorem dX7_save_18 : decode cX7_save 18 = .ok (.aload_n 0, 1) := by decide +kernel
theorem dX7_save_19 : decode cX7_save 19 = .ok (.getfield 10, 3) := by decide +kernel
theorem dX7_save_22 : decode cX7_save 22 = .ok (.invokevirtual 229, 3) := by decide +kernel
theorem dX7_save_25 : decode cX7_save 25 = .ok (.aload_n 0, 1) := by decide +kernel
theorem dX7_save_26 : decode cX7_save 26 = .ok (.getfield 27, 3) := by decide +kernel
theorem dX7_save_29 : decode cX7_save 29 = .ok (.iload_n 1, 1) := by decide +kernel
theorem dX7_save_30 : decode cX7_save 30 = .ok (.iconst 1, 1) := by decide +kernel
theorem dX7_save_31 : decode cX7_save 31 = .ok (.bastore, 1) := by decide +kernel
theorem dX7_save_32 : decode cX7_save 32 = .ok (.aload_n 0, 1) := by decide +kernel
theorem dX7_save_33 : decode cX7_save 33 = .ok (.getfield 10, 3) := by decide +kernel
theorem dX7_save_36 : decode cX7_save 36 = .ok (.getfield 70, 3) := by decide +kernel
theorem dX7_save_39 : decode cX7_save 39 = .ok (.getfield 224, 3) := by decide +kernel
theorem dX7_save_42 : decode cX7_save 42 = .ok (.ireturn, 1) := by decide +kernel
theorem dX7_restore_0 : decode cX7_restore 0 = .ok (.iload_n 1, 1) := by decide +kernel
theorem dX7_restore_1 : decode cX7_restore 1 = .ok (.ifCond .lt 8, 3) := by decide +kernel
theorem dX7_restore_4 : decode cX7_restore 4 = .ok (.iload_n 1, 1) := by decide +kernel
theorem dX7_restore_5 : decode cX7_restore 5 = .ok (.iconst 2, 1) := by decide +kernel
theorem dX7_restore_6 : decode cX7_restore 6 = .ok (.if_icmp .lt 6, 3) := by decide +kernel
theorem dX7_restore_9 : decode cX7_restore 9 = .ok (.bipush (-2), 2) := by decide +kernel
theorem dX7_restore_11 : decode cX7_restore 11 = .ok (.ireturn, 1) := by decide +kernel
theorem dX7_restore_12 : decode cX7_restore 12 = .ok (.aload_n 0, 1) := by decide +kernel
theorem dX7_restore_13 : decode cX7_restore 13 = .ok (.getfield 27, 3) := by decide +kernel
theorem dX7_restore_16 : decode cX7_restore 16 = .ok (.iload_n 1, 1) := by decide +kernel
theorem dX7_restore_17 : decode cX7_restore 17 = .ok (.baload, 1) := by decide +kernel
theorem dX7_restore_18 : decode cX7_restore 18 = .ok (.ifCond .ne 6, 3) := by decide +kernel
theorem dX7_restore_21 : decode cX7_restore 21 = .ok (.bipush (-5), 2) := by decide +kernel
theorem dX7_restore_23 : decode cX7_restore 23 = .ok (.ireturn, 1) := by decide +kernel
theorem dX7_restore_24 : decode cX7_restore 24 = .ok (.aload_n 0, 1) := by decide +kernel
theorem dX7_restore_25 : decode cX7_restore 25 = .ok (.getfield 19, 3) := by decide +kernel
theorem dX7_restore_28 : decode cX7_restore 28 = .ok (.aload_n 0, 1) := by decide +kernel
theorem dX7_restore_29 : decode cX7_restore 29 = .ok (.getfield 10, 3) := by decide +kernel
theorem dX7_restore_32 : decode cX7_restore 32 = .ok (.invokevirtual 55, 3) := by decide +kernel
theorem dX7_restore_35 : decode cX7_restore 35 = .ok (.aload_n 0, 1) := by decide +kernel
theorem dX7_restore_36 : decode cX7_restore 36 = .ok (.getfield 10, 3) := by decide +kernel
theorem dX7_restore_39 : decode cX7_restore 39 = .ok (.aload_n 0, 1) := by decide +kernel
theorem dX7_restore_40 : decode cX7_restore 40 = .ok (.getfield 23, 3) := by decide +kernel
theorem dX7_restore_43 : decode cX7_restore 43 = .ok (.iload_n 1, 1) := by decide +kernel
theorem dX7_restore_44 : decode cX7_restore 44 = .ok (.aaload, 1) := by decide +kernel
theorem dX7_restore_45 : decode cX7_restore 45 = .ok (.invokevirtual 229, 3) := by decide +kernel
theorem dX7_restore_48 : decode cX7_restore 48 = .ok (.aload_n 0, 1) := by decide +kernel
theorem dX7_restore_49 : decode cX7_restore 49 = .ok (.getfield 10, 3) := by decide +kernel
theorem dX7_restore_52 : decode cX7_restore 52 = .ok (.getfield 70, 3) := by decide +kernel
theorem dX7_restore_55 : decode cX7_restore 55 = .ok (.getfield 224, 3) := by decide +kernel
theorem dX7_restore_58 : decode cX7_restore 58 = .ok (.ireturn, 1) := by decide +kernel
theorem dJ9_abs_0f7a4_0 : decode cJ9_abs_0f7a4 0 = .ok (.iload_n 0, 1) := by decide +kernel
theorem dJ9_abs_0f7a4_1 : decode cJ9_abs_0f7a4 1 = .ok (.ifCond .ge 8, 3) := by decide +kernel
theorem dJ9_abs_0f7a4_4 : decode cJ9_abs_0f7a4 4 = .ok (.iload_n 0, 1) := by decide +kernel
theorem dJ9_abs_0f7a4_5 : decode cJ9_abs_0f7a4 5 = .ok (.ineg, 1) := by decide +kernel
theorem dJ9_abs_0f7a4_6 : decode cJ9_abs_0f7a4 6 = .ok (.goto 4, 3) := by decide +kernel
theorem dJ9_abs_0f7a4_9 : decode cJ9_abs_0f7a4 9 = .ok (.iload_n 0, 1) := by decide +kernel
theorem dJ9_abs_0f7a4_10 : decode cJ9_abs_0f7a4 10 = .ok (.ireturn, 1) := by decide +kernel
theorem dJ9_max_7cf53_0 : decode cJ9_max_7cf53 0 = .ok (.iload_n 0, 1) := by decide +kernel
theorem dJ9_max_7cf53_1 : decode cJ9_max_7cf53 1 = .ok (.iload_n 1, 1) := by decide +kernel
theorem dJ9_max_7cf53_2 : decode cJ9_max_7cf53 2 = .ok (.if_icmp .lt 7, 3) := by decide +kernel
theorem dJ9_max_7cf53_5 : decode cJ9_max_7cf53 5 = .ok (.iload_n 0, 1) := by decide +kernel
theorem dJ9_max_7cf53_6 : decode cJ9_max_7cf53 6 = .ok (.goto 4, 3) := by decide +kernel
theorem dJ9_max_7cf53_9 : decode cJ9_max_7cf53 9 = .ok (.iload_n 1, 1) := by decide +kernel
theorem dJ9_max_7cf53_10 : decode cJ9_max_7cf53 10 = .ok (.ireturn, 1) := by decide +kernel
theorem dJ9_min_7cf53_0 : decode cJ9_min_7cf53 0 = .ok (.iload_n 0, 1) := by decide +kernel
theorem dJ9_min_7cf53_1 : decode cJ9_min_7cf53 1 = .ok (.iload_n 1, 1) := by decide +kernel
theorem dJ9_min_7cf53_2 : decode cJ9_min_7cf53 2 = .ok (.if_icmp .gt 7, 3) := by decide +kernel
theorem dJ9_min_7cf53_5 : decode cJ9_min_7cf53 5 = .ok (.iload_n 0, 1) := by decide +kernel
theorem dJ9_min_7cf53_6 : decode cJ9_min_7cf53 6 = .ok (.goto 4, 3) := by decide +kernel
theorem dJ9_min_7cf53_9 : decode cJ9_min_7cf53 9 = .ok (.iload_n 1, 1) := by decide +kernel
theorem dJ9_min_7cf53_10 : decode cJ9_min_7cf53 10 = .ok (.ireturn, 1) := by decide +kernel
theorem dL_cell_0 : decode cL_cell 0 = .ok (.iload_n 1, 1) := by decide +kernel
theorem dL_cell_1 : decode cL_cell 1 = .ok (.aload_n 0, 1) := by decide +kernel
theorem dL_cell_2 : decode cL_cell 2 = .ok (.arraylength, 1) := by decide +kernel
theorem dL_cell_3 : decode cL_cell 3 = .ok (.if_icmp .ge 9, 3) := by decide +kernel
theorem dL_cell_6 : decode cL_cell 6 = .ok (.aload_n 0, 1) := by decide +kernel
theorem dL_cell_7 : decode cL_cell 7 = .ok (.iload_n 1, 1) := by decide +kernel
theorem dL_cell_8 : decode cL_cell 8 = .ok (.iaload, 1) := by decide +kernel
theorem dL_cell_9 : decode cL_cell 9 = .ok (.goto 15, 3) := by decide +kernel
theorem dL_cell_12 : decode cL_cell 12 = .ok (.sipush 7919, 3) := by decide +kernel
theorem dL_cell_15 : decode cL_cell 15 = .ok (.iload_n 1, 1) := by decide +kernel
theorem dL_cell_16 : decode cL_cell 16 = .ok (.iconst 3, 1) := by decide +kernel
theorem dL_cell_17 : decode cL_cell 17 = .ok (.iadd, 1) := by decide +kernel
theorem dL_cell_18 : decode cL_cell 18 = .ok (.imul, 1) := by decide +kernel
theorem dL_cell_19 : decode cL_cell 19 = .ok (.iload_n 1, 1) := by decide +kernel
theorem dL_cell_20 : decode cL_cell 20 = .ok (.bipush 11, 2) := by decide +kernel
theorem dL_cell_22 : decode cL_cell 22 = .ok (.iadd, 1) := by decide +kernel
theorem dL_cell_23 : decode cL_cell 23 = .ok (.imul, 1) := by decide +kernel
theorem dL_cell_24 : decode cL_cell 24 = .ok (.ireturn, 1) := by decide +kernel
theorem dL_low_0 : decode cL_low 0 = .ok (.iload_n 0, 1) := by decide +kernel
theorem dL_low_1 : decode cL_low 1 = .ok (.ldc 7, 2) := by decide +kernel
theorem dL_low_3 : decode cL_low 3 = .ok (.iand, 1) := by decide +kernel
theorem dL_low_4 : decode cL_low 4 = .ok (.iload_n 1, 1) := by decide +kernel
theorem dL_low_5 : decode cL_low 5 = .ok (.irem, 1) := by decide +kernel
theorem dL_low_6 : decode cL_low 6 = .ok (.ireturn, 1) := by decide +kernel
theorem dL_size_0 : decode cL_size 0 = .ok (.iload_n 0, 1) := by decide +kernel
theorem dL_size_1 : decode cL_size 1 = .ok (.ifCond .ge 8, 3) := by decide +kernel
theorem dL_size_4 : decode cL_size 4 = .ok (.iload_n 0, 1) := by decide +kernel
theorem dL_size_5 : decode cL_size 5 = .ok (.ineg, 1) := by decide +kernel
theorem dL_size_6 : decode cL_size 6 = .ok (.goto 4, 3) := by decide +kernel
theorem dL_size_9 : decode cL_size 9 = .ok (.iload_n 0, 1) := by decide +kernel
theorem dL_size_10 : decode cL_size 10 = .ok (.ireturn, 1) := by decide +kernel
theorem dL_areParts_0 : decode cL_areParts 0 = .ok (.aload_n 0, 1) := by decide +kernel
theorem dL_areParts_1 : decode cL_areParts 1 = .ok (.iconst 0, 1) := by decide +kernel
theorem dL_areParts_2 : decode cL_areParts 2 = .ok (.invokevirtual 8, 3) := by decide +kernel
theorem dL_areParts_5 : decode cL_areParts 5 = .ok (.istore_n 1, 1) := by decide +kernel
theorem dL_areParts_6 : decode cL_areParts 6 = .ok (.iconst 0, 1) := by decide +kernel
theorem dL_areParts_7 : decode cL_areParts 7 = .ok (.istore_n 2, 1) := by decide +kernel
theorem dL_areParts_8 : decode cL_areParts 8 = .ok (.iconst 0, 1) := by decide +kernel
theorem dL_areParts_9 : decode cL_areParts 9 = .ok (.istore_n 3, 1) := by decide +kernel
theorem dL_areParts_10 : decode cL_areParts 10 = .ok (.iconst 0, 1) := by decide +kernel
theorem dL_areParts_11 : decode cL_areParts 11 = .ok (.istore 4, 2) := by decide +kernel
theorem dL_areParts_13 : decode cL_areParts 13 = .ok (.iconst 0, 1) := by decide +kernel
theorem dL_areParts_14 : decode cL_areParts 14 = .ok (.istore 5, 2) := by decide +kernel
theorem dL_areParts_16 : decode cL_areParts 16 = .ok (.iload 5, 2) := by decide +kernel
theorem dL_areParts_18 : decode cL_areParts 18 = .ok (.iload_n 1, 1) := by decide +kernel
theorem dL_areParts_19 : decode cL_areParts 19 = .ok (.if_icmp .ge 178, 3) := by decide +kernel
theorem dL_areParts_22 : decode cL_areParts 22 = .ok (.iload 5, 2) := by decide +kernel
theorem dL_areParts_24 : decode cL_areParts 24 = .ok (.bipush 20, 2) := by decide +kernel
theorem dL_areParts_26 : decode cL_areParts 26 = .ok (.if_icmp .ge 171, 3) := by decide +kernel
theorem dL_areParts_29 : decode cL_areParts 29 = .ok (.aload_n 0, 1) := by decide +kernel
theorem dL_areParts_30 : decode cL_areParts 30 = .ok (.iload 5, 2) := by decide +kernel
theorem dL_areParts_32 : decode cL_areParts 32 = .ok (.iconst 0, 1) := by decide +kernel
theorem dL_areParts_33 : decode cL_areParts 33 = .ok (.invokevirtual 14, 3) := by decide +kernel
theorem dL_areParts_36 : decode cL_areParts 36 = .ok (.istore 6, 2) := by decide +kernel
theorem dL_areParts_38 : decode cL_areParts 38 = .ok (.aload_n 0, 1) := by decide +kernel
theorem dL_areParts_39 : decode cL_areParts 39 = .ok (.iload 5, 2) := by decide +kernel
theorem dL_areParts_41 : decode cL_areParts 41 = .ok (.iconst 1, 1) := by decide +kernel
theorem dL_areParts_42 : decode cL_areParts 42 = .ok (.invokevirtual 14, 3) := by decide +kernel
theorem dL_areParts_45 : decode cL_areParts 45 = .ok (.istore 7, 2) := by decide +kernel
theorem dL_areParts_47 : decode cL_areParts 47 = .ok (.iload 6, 2) := by decide +kernel
theorem dL_areParts_49 : decode cL_areParts 49 = .ok (.ifCond .lt 78, 3) := by decide +kernel
theorem dL_areParts_52 : decode cL_areParts 52 = .ok (.iload 6, 2) := by decide +kernel
theorem dL_areParts_54 : decode cL_areParts 54 = .ok (.iconst 3, 1) := by decide +kernel
theorem dL_areParts_55 : decode cL_areParts 55 = .ok (.if_icmp .ge 72, 3) := by decide +kernel
theorem dL_areParts_58 : decode cL_areParts 58 = .ok (.iload 7, 2) := by decide +kernel
theorem dL_areParts_60 : decode cL_areParts 60 = .ok (.ifCond .le 67, 3) := by decide +kernel
theorem dL_areParts_63 : decode cL_areParts 63 = .ok (.iload 7, 2) := by decide +kernel
theorem dL_areParts_65 : decode cL_areParts 65 = .ok (.iload 6, 2) := by decide +kernel
theorem dL_areParts_67 : decode cL_areParts 67 = .ok (.iconst 2, 1) := by decide +kernel
theorem dL_areParts_68 : decode cL_areParts 68 = .ok (.if_icmp .ne 8, 3) := by decide +kernel
theorem dL_areParts_71 : decode cL_areParts 71 = .ok (.bipush 100, 2) := by decide +kernel
theorem dL_areParts_73 : decode cL_areParts 73 = .ok (.goto 5, 3) := by decide +kernel
theorem dL_areParts_76 : decode cL_areParts 76 = .ok (.bipush 10, 2) := by decide +kernel
theorem dL_areParts_78 : decode cL_areParts 78 = .ok (.if_icmp .ge 49, 3) := by decide +kernel
theorem dL_areParts_81 : decode cL_areParts 81 = .ok (.aload_n 0, 1) := by decide +kernel
theorem dL_areParts_82 : decode cL_areParts 82 = .ok (.iload 5, 2) := by decide +kernel
theorem dL_areParts_84 : decode cL_areParts 84 = .ok (.iconst 3, 1) := by decide +kernel
theorem dL_areParts_85 : decode cL_areParts 85 = .ok (.invokevirtual 14, 3) := by decide +kernel
theorem dL_areParts_88 : decode cL_areParts 88 = .ok (.ifCond .eq 9, 3) := by decide +kernel
theorem dL_areParts_91 : decode cL_areParts 91 = .ok (.iload 6, 2) := by decide +kernel
theorem dL_areParts_93 : decode cL_areParts 93 = .ok (.iconst 2, 1) := by decide +kernel
theorem dL_areParts_94 : decode cL_areParts 94 = .ok (.if_icmp .ne 33, 3) := by decide +kernel
theorem dL_areParts_97 : decode cL_areParts 97 = .ok (.aload_n 0, 1) := by decide +kernel
theorem dL_areParts_98 : decode cL_areParts 98 = .ok (.iload 5, 2) := by decide +kernel
theorem dL_areParts_100 : decode cL_areParts 100 = .ok (.iconst 4, 1) := by decide +kernel
theorem dL_areParts_101 : decode cL_areParts 101 = .ok (.invokevirtual 14, 3) := by decide +kernel
theorem dL_areParts_104 : decode cL_areParts 104 = .ok (.ifCond .eq 9, 3) := by decide +kernel
theorem dL_areParts_107 : decode cL_areParts 107 = .ok (.iload 6, 2) := by decide +kernel
theorem dL_areParts_109 : decode cL_areParts 109 = .ok (.iconst 1, 1) := by decide +kernel
theorem dL_areParts_110 : decode cL_areParts 110 = .ok (.if_icmp .ne 17, 3) := by decide +kernel
theorem dL_areParts_113 : decode cL_areParts 113 = .ok (.aload_n 0, 1) := by decide +kernel
theorem dL_areParts_114 : decode cL_areParts 114 = .ok (.iload 5, 2) := by decide +kernel
theorem dL_areParts_116 : decode cL_areParts 116 = .ok (.iconst 2, 1) := by decide +kernel
theorem dL_areParts_117 : decode cL_areParts 117 = .ok (.invokevirtual 14, 3) := by decide +kernel
theorem dL_areParts_120 : decode cL_areParts 120 = .ok (.ifCond .lt 7, 3) := by decide +kernel
theorem dL_areParts_123 : decode cL_areParts 123 = .ok (.iconst 1, 1) := by decide +kernel
theorem dL_areParts_124 : decode cL_areParts 124 = .ok (.goto 4, 3) := by decide +kernel
theorem dL_areParts_127 : decode cL_areParts 127 = .ok (.iconst 0, 1) := by decide +kernel
theorem dL_areParts_128 : decode cL_areParts 128 = .ok (.istore 8, 2) := by decide +kernel
theorem dL_areParts_130 : decode cL_areParts 130 = .ok (.iload 8, 2) := by decide +kernel
theorem dL_areParts_132 : decode cL_areParts 132 = .ok (.ifCond .ne 5, 3) := by decide +kernel
theorem dL_areParts_135 : decode cL_areParts 135 = .ok (.iconst 0, 1) := by decide +kernel
theorem dL_areParts_136 : decode cL_areParts 136 = .ok (.ireturn, 1) := by decide +kernel
theorem dL_areParts_137 : decode cL_areParts 137 = .ok (.iload 6, 2) := by decide +kernel
theorem dL_areParts_139 : decode cL_areParts 139 = .ok (.iconst 2, 1) := by decide +kernel
theorem dL_areParts_140 : decode cL_areParts 140 = .ok (.if_icmp .ne 18, 3) := by decide +kernel
theorem dL_areParts_143 : decode cL_areParts 143 = .ok (.iload_n 2, 1) := by decide +kernel
theorem dL_areParts_144 : decode cL_areParts 144 = .ok (.ifCond .eq 9, 3) := by decide +kernel
theorem dL_areParts_147 : decode cL_areParts 147 = .ok (.iload 7, 2) := by decide +kernel
theorem dL_areParts_149 : decode cL_areParts 149 = .ok (.iload_n 2, 1) := by decide +kernel
theorem dL_areParts_150 : decode cL_areParts 150 = .ok (.if_icmp .ge 8, 3) := by decide +kernel
theorem dL_areParts_153 : decode cL_areParts 153 = .ok (.iload 7, 2) := by decide +kernel
theorem dL_areParts_155 : decode cL_areParts 155 = .ok (.goto 4, 3) := by decide +kernel
theorem dL_areParts_158 : decode cL_areParts 158 = .ok (.iload_n 2, 1) := by decide +kernel
theorem dL_areParts_159 : decode cL_areParts 159 = .ok (.istore_n 2, 1) := by decide +kernel
theorem dL_areParts_160 : decode cL_areParts 160 = .ok (.iload_n 3, 1) := by decide +kernel
theorem dL_areParts_161 : decode cL_areParts 161 = .ok (.iload 6, 2) := by decide +kernel
theorem dL_areParts_163 : decode cL_areParts 163 = .ok (.ifCond .ne 8, 3) := by decide +kernel
theorem dL_areParts_166 : decode cL_areParts 166 = .ok (.iload 7, 2) := by decide +kernel
theorem dL_areParts_168 : decode cL_areParts 168 = .ok (.goto 4, 3) := by decide +kernel
theorem dL_areParts_171 : decode cL_areParts 171 = .ok (.iconst 0, 1) := by decide +kernel
theorem dL_areParts_172 : decode cL_areParts 172 = .ok (.iadd, 1) := by decide +kernel
theorem dL_areParts_173 : decode cL_areParts 173 = .ok (.istore_n 3, 1) := by decide +kernel
theorem dL_areParts_174 : decode cL_areParts 174 = .ok (.iload 4, 2) := by decide +kernel
theorem dL_areParts_176 : decode cL_areParts 176 = .ok (.iload 6, 2) := by decide +kernel
theorem dL_areParts_178 : decode cL_areParts 178 = .ok (.iconst 1, 1) := by decide +kernel
theorem dL_areParts_179 : decode cL_areParts 179 = .ok (.if_icmp .ne 8, 3) := by decide +kernel
theorem dL_areParts_182 : decode cL_areParts 182 = .ok (.iload 7, 2) := by decide +kernel
theorem dL_areParts_184 : decode cL_areParts 184 = .ok (.goto 4, 3) := by decide +kernel
theorem dL_areParts_187 : decode cL_areParts 187 = .ok (.iconst 0, 1) := by decide +kernel
theorem dL_areParts_188 : decode cL_areParts 188 = .ok (.iadd, 1) := by decide +kernel
theorem dL_areParts_189 : decode cL_areParts 189 = .ok (.istore 4, 2) := by decide +kernel
theorem dL_areParts_191 : decode cL_areParts 191 = .ok (.iinc 5 1, 3) := by decide +kernel
theorem dL_areParts_194 : decode cL_areParts 194 = .ok (.goto (-178), 3) := by decide +kernel
theorem dL_areParts_197 : decode cL_areParts 197 = .ok (.aload_n 0, 1) := by decide +kernel
theorem dL_areParts_198 : decode cL_areParts 198 = .ok (.iconst 2, 1) := by decide +kernel
theorem dL_areParts_199 : decode cL_areParts 199 = .ok (.invokevirtual 8, 3) := by decide +kernel
theorem dL_areParts_202 : decode cL_areParts 202 = .ok (.aload_n 0, 1) := by decide +kernel
theorem dL_areParts_203 : decode cL_areParts 203 = .ok (.iconst 3, 1) := by decide +kernel
theorem dL_areParts_204 : decode cL_areParts 204 = .ok (.invokevirtual 8, 3) := by decide +kernel
theorem dL_areParts_207 : decode cL_areParts 207 = .ok (.iadd, 1) := by decide +kernel
theorem dL_areParts_208 : decode cL_areParts 208 = .ok (.aload_n 0, 1) := by decide +kernel
theorem dL_areParts_209 : decode cL_areParts 209 = .ok (.iconst 4, 1) := by decide +kernel
theorem dL_areParts_210 : decode cL_areParts 210 = .ok (.invokevirtual 8, 3) := by decide +kernel
theorem dL_areParts_213 : decode cL_areParts 213 = .ok (.iadd, 1) := by decide +kernel
theorem dL_areParts_214 : decode cL_areParts 214 = .ok (.aload_n 0, 1) := by decide +kernel
theorem dL_areParts_215 : decode cL_areParts 215 = .ok (.iconst 5, 1) := by decide +kernel
theorem dL_areParts_216 : decode cL_areParts 216 = .ok (.invokevirtual 8, 3) := by decide +kernel
theorem dL_areParts_219 : decode cL_areParts 219 = .ok (.iadd, 1) := by decide +kernel
theorem dL_areParts_220 : decode cL_areParts 220 = .ok (.istore 5, 2) := by decide +kernel
theorem dL_areParts_222 : decode cL_areParts 222 = .ok (.iload 5, 2) := by decide +kernel
theorem dL_areParts_224 : decode cL_areParts 224 = .ok (.aload_n 0, 1) := by decide +kernel
theorem dL_areParts_225 : decode cL_areParts 225 = .ok (.iconst 1, 1) := by decide +kernel
theorem dL_areParts_226 : decode cL_areParts 226 = .ok (.invokevirtual 8, 3) := by decide +kernel
theorem dL_areParts_229 : decode cL_areParts 229 = .ok (.if_icmp .gt 62, 3) := by decide +kernel
theorem dL_areParts_232 : decode cL_areParts 232 = .ok (.iload 5, 2) := by decide +kernel
theorem dL_areParts_234 : decode cL_areParts 234 = .ok (.bipush 10, 2) := by decide +kernel
theorem dL_areParts_236 : decode cL_areParts 236 = .ok (.if_icmp .ge 17, 3) := by decide +kernel
theorem dL_areParts_239 : decode cL_areParts 239 = .ok (.aload_n 0, 1) := by decide +kernel
theorem dL_areParts_240 : decode cL_areParts 240 = .ok (.iload 5, 2) := by decide +kernel
theorem dL_areParts_242 : decode cL_areParts 242 = .ok (.iconst 0, 1) := by decide +kernel
theorem dL_areParts_243 : decode cL_areParts 243 = .ok (.invokevirtual 18, 3) := by decide +kernel
theorem dL_areParts_246 : decode cL_areParts 246 = .ok (.iconst (-1), 1) := by decide +kernel
theorem dL_areParts_247 : decode cL_areParts 247 = .ok (.if_icmp .ne 44, 3) := by decide +kernel
theorem dL_areParts_250 : decode cL_areParts 250 = .ok (.goto 13, 3) := by decide +kernel
theorem dL_areParts_253 : decode cL_areParts 253 = .ok (.aload_n 0, 1) := by decide +kernel
theorem dL_areParts_254 : decode cL_areParts 254 = .ok (.bipush 9, 2) := by decide +kernel
theorem dL_areParts_256 : decode cL_areParts 256 = .ok (.iconst 0, 1) := by decide +kernel
theorem dL_areParts_257 : decode cL_areParts 257 = .ok (.invokevirtual 18, 3) := by decide +kernel
theorem dL_areParts_260 : decode cL_areParts 260 = .ok (.ifCond .le 31, 3) := by decide +kernel
theorem dL_areParts_263 : decode cL_areParts 263 = .ok (.iload 5, 2) := by decide +kernel
theorem dL_areParts_265 : decode cL_areParts 265 = .ok (.ifCond .eq 22, 3) := by decide +kernel
theorem dL_areParts_268 : decode cL_areParts 268 = .ok (.aload_n 0, 1) := by decide +kernel
theorem dL_areParts_269 : decode cL_areParts 269 = .ok (.iconst 0, 1) := by decide +kernel
theorem dL_areParts_270 : decode cL_areParts 270 = .ok (.iconst 1, 1) := by decide +kernel
theorem dL_areParts_271 : decode cL_areParts 271 = .ok (.invokevirtual 18, 3) := by decide +kernel
theorem dL_areParts_274 : decode cL_areParts 274 = .ok (.ifCond .le 17, 3) := by decide +kernel
theorem dL_areParts_277 : decode cL_areParts 277 = .ok (.aload_n 0, 1) := by decide +kernel
theorem dL_areParts_278 : decode cL_areParts 278 = .ok (.iconst 0, 1) := by decide +kernel
theorem dL_areParts_279 : decode cL_areParts 279 = .ok (.iconst 1, 1) := by decide +kernel
theorem dL_areParts_280 : decode cL_areParts 280 = .ok (.invokevirtual 18, 3) := by decide +kernel
theorem dL_areParts_283 : decode cL_areParts 283 = .ok (.iconst 5, 1) := by decide +kernel
theorem dL_areParts_284 : decode cL_areParts 284 = .ok (.if_icmp .ge 7, 3) := by decide +kernel
theorem dL_areParts_287 : decode cL_areParts 287 = .ok (.iconst 1, 1) := by decide +kernel
theorem dL_areParts_288 : decode cL_areParts 288 = .ok (.goto 4, 3) := by decide +kernel
theorem dL_areParts_291 : decode cL_areParts 291 = .ok (.iconst 0, 1) := by decide +kernel
theorem dL_areParts_292 : decode cL_areParts 292 = .ok (.istore 6, 2) := by decide +kernel
theorem dL_areParts_294 : decode cL_areParts 294 = .ok (.iload 6, 2) := by decide +kernel
theorem dL_areParts_296 : decode cL_areParts 296 = .ok (.ifCond .eq 54, 3) := by decide +kernel
theorem dL_areParts_299 : decode cL_areParts 299 = .ok (.iload_n 1, 1) := by decide +kernel
theorem dL_areParts_300 : decode cL_areParts 300 = .ok (.bipush 20, 2) := by decide +kernel
theorem dL_areParts_302 : decode cL_areParts 302 = .ok (.if_icmp .gt 48, 3) := by decide +kernel
theorem dL_areParts_305 : decode cL_areParts 305 = .ok (.aload_n 0, 1) := by decide +kernel
theorem dL_areParts_306 : decode cL_areParts 306 = .ok (.bipush 6, 2) := by decide +kernel
theorem dL_areParts_308 : decode cL_areParts 308 = .ok (.invokevirtual 8, 3) := by decide +kernel
theorem dL_areParts_311 : decode cL_areParts 311 = .ok (.iload_n 2, 1) := by decide +kernel
theorem dL_areParts_312 : decode cL_areParts 312 = .ok (.if_icmp .ne 38, 3) := by decide +kernel
theorem dL_areParts_315 : decode cL_areParts 315 = .ok (.aload_n 0, 1) := by decide +kernel
theorem dL_areParts_316 : decode cL_areParts 316 = .ok (.bipush 7, 2) := by decide +kernel
theorem dL_areParts_318 : decode cL_areParts 318 = .ok (.invokevirtual 8, 3) := by decide +kernel
theorem dL_areParts_321 : decode cL_areParts 321 = .ok (.iload_n 3, 1) := by decide +kernel
theorem dL_areParts_322 : decode cL_areParts 322 = .ok (.if_icmp .ne 28, 3) := by decide +kernel
theorem dL_areParts_325 : decode cL_areParts 325 = .ok (.aload_n 0, 1) := by decide +kernel
theorem dL_areParts_326 : decode cL_areParts 326 = .ok (.bipush 8, 2) := by decide +kernel
theorem dL_areParts_328 : decode cL_areParts 328 = .ok (.invokevirtual 8, 3) := by decide +kernel
theorem dL_areParts_331 : decode cL_areParts 331 = .ok (.iload 4, 2) := by decide +kernel
theorem dL_areParts_333 : decode cL_areParts 333 = .ok (.if_icmp .ne 17, 3) := by decide +kernel
theorem dL_areParts_336 : decode cL_areParts 336 = .ok (.aload_n 0, 1) := by decide +kernel
theorem dL_areParts_337 : decode cL_areParts 337 = .ok (.iload_n 1, 1) := by decide +kernel
theorem dL_areParts_338 : decode cL_areParts 338 = .ok (.iconst 0, 1) := by decide +kernel
theorem dL_areParts_339 : decode cL_areParts 339 = .ok (.invokevirtual 14, 3) := by decide +kernel
theorem dL_areParts_342 : decode cL_areParts 342 = .ok (.iconst (-1), 1) := by decide +kernel
theorem dL_areParts_343 : decode cL_areParts 343 = .ok (.if_icmp .ne 7, 3) := by decide +kernel
theorem dL_areParts_346 : decode cL_areParts 346 = .ok (.iconst 1, 1) := by decide +kernel
theorem dL_areParts_347 : decode cL_areParts 347 = .ok (.goto 4, 3) := by decide +kernel
theorem dL_areParts_350 : decode cL_areParts 350 = .ok (.iconst 0, 1) := by decide +kernel
theorem dL_areParts_351 : decode cL_areParts 351 = .ok (.ireturn, 1) := by decide +kernel
theorem dL_isPart_0 : decode cL_isPart 0 = .ok (.iconst 0, 1) := by decide +kernel
theorem dL_isPart_1 : decode cL_isPart 1 = .ok (.istore_n 2, 1) := by decide +kernel
theorem dL_isPart_2 : decode cL_isPart 2 = .ok (.iload_n 2, 1) := by decide +kernel
theorem dL_isPart_3 : decode cL_isPart 3 = .ok (.bipush 8, 2) := by decide +kernel
theorem dL_isPart_5 : decode cL_isPart 5 = .ok (.if_icmp .ge 17, 3) := by decide +kernel
theorem dL_isPart_8 : decode cL_isPart 8 = .ok (.aload_n 1, 1) := by decide +kernel
theorem dL_isPart_9 : decode cL_isPart 9 = .ok (.iload_n 2, 1) := by decide +kernel
theorem dL_isPart_10 : decode cL_isPart 10 = .ok (.aload_n 0, 1) := by decide +kernel
theorem dL_isPart_11 : decode cL_isPart 11 = .ok (.iload_n 2, 1) := by decide +kernel
theorem dL_isPart_12 : decode cL_isPart 12 = .ok (.invokevirtual 21, 3) := by decide +kernel
theorem dL_isPart_15 : decode cL_isPart 15 = .ok (.iastore, 1) := by decide +kernel
theorem dL_isPart_16 : decode cL_isPart 16 = .ok (.iinc 2 1, 3) := by decide +kernel
theorem dL_isPart_19 : decode cL_isPart 19 = .ok (.goto (-17), 3) := by decide +kernel
theorem dL_isPart_22 : decode cL_isPart 22 = .ok (.aload_n 1, 1) := by decide +kernel
theorem dL_isPart_23 : decode cL_isPart 23 = .ok (.iconst 2, 1) := by decide +kernel
theorem dL_isPart_24 : decode cL_isPart 24 = .ok (.iaload, 1) := by decide +kernel
theorem dL_isPart_25 : decode cL_isPart 25 = .ok (.sipush 500, 3) := by decide +kernel
theorem dL_isPart_28 : decode cL_isPart 28 = .ok (.isub, 1) := by decide +kernel
theorem dL_isPart_29 : decode cL_isPart 29 = .ok (.istore_n 2, 1) := by decide +kernel
theorem dL_isPart_30 : decode cL_isPart 30 = .ok (.aload_n 1, 1) := by decide +kernel
theorem dL_isPart_31 : decode cL_isPart 31 = .ok (.iconst 4, 1) := by decide +kernel
theorem dL_isPart_32 : decode cL_isPart 32 = .ok (.iaload, 1) := by decide +kernel
theorem dL_isPart_33 : decode cL_isPart 33 = .ok (.istore_n 3, 1) := by decide +kernel
theorem dL_isPart_34 : decode cL_isPart 34 = .ok (.aload_n 0, 1) := by decide +kernel
theorem dL_isPart_35 : decode cL_isPart 35 = .ok (.iload_n 3, 1) := by decide +kernel
theorem dL_isPart_36 : decode cL_isPart 36 = .ok (.iconst 0, 1) := by decide +kernel
theorem dL_isPart_37 : decode cL_isPart 37 = .ok (.invokevirtual 14, 3) := by decide +kernel
theorem dL_isPart_40 : decode cL_isPart 40 = .ok (.istore 4, 2) := by decide +kernel
theorem dL_isPart_42 : decode cL_isPart 42 = .ok (.aload_n 0, 1) := by decide +kernel
theorem dL_isPart_43 : decode cL_isPart 43 = .ok (.iload_n 3, 1) := by decide +kernel
theorem dL_isPart_44 : decode cL_isPart 44 = .ok (.iconst 1, 1) := by decide +kernel
theorem dL_isPart_45 : decode cL_isPart 45 = .ok (.invokevirtual 14, 3) := by decide +kernel
theorem dL_isPart_48 : decode cL_isPart 48 = .ok (.istore 5, 2) := by decide +kernel
theorem dL_isPart_50 : decode cL_isPart 50 = .ok (.iconst 0, 1) := by decide +kernel
theorem dL_isPart_51 : decode cL_isPart 51 = .ok (.istore 6, 2) := by decide +kernel
theorem dL_isPart_53 : decode cL_isPart 53 = .ok (.iload 4, 2) := by decide +kernel
theorem dL_isPart_55 : decode cL_isPart 55 = .ok (.ifCond .ne 94, 3) := by decide +kernel
theorem dL_isPart_58 : decode cL_isPart 58 = .ok (.aload_n 1, 1) := by decide +kernel
theorem dL_isPart_59 : decode cL_isPart 59 = .ok (.iconst 1, 1) := by decide +kernel
theorem dL_isPart_60 : decode cL_isPart 60 = .ok (.aload_n 1, 1) := by decide +kernel
theorem dL_isPart_61 : decode cL_isPart 61 = .ok (.iconst 1, 1) := by decide +kernel
theorem dL_isPart_62 : decode cL_isPart 62 = .ok (.iaload, 1) := by decide +kernel
theorem dL_isPart_63 : decode cL_isPart 63 = .ok (.iconst 4, 1) := by decide +kernel
theorem dL_isPart_64 : decode cL_isPart 64 = .ok (.iload 5, 2) := by decide +kernel
theorem dL_isPart_66 : decode cL_isPart 66 = .ok (.imul, 1) := by decide +kernel
theorem dL_isPart_67 : decode cL_isPart 67 = .ok (.iadd, 1) := by decide +kernel
theorem dL_isPart_68 : decode cL_isPart 68 = .ok (.bipush 99, 2) := by decide +kernel
theorem dL_isPart_70 : decode cL_isPart 70 = .ok (.if_icmp .le 8, 3) := by decide +kernel
theorem dL_isPart_73 : decode cL_isPart 73 = .ok (.bipush 99, 2) := by decide +kernel
theorem dL_isPart_75 : decode cL_isPart 75 = .ok (.goto 11, 3) := by decide +kernel
theorem dL_isPart_78 : decode cL_isPart 78 = .ok (.aload_n 1, 1) := by decide +kernel
theorem dL_isPart_79 : decode cL_isPart 79 = .ok (.iconst 1, 1) := by decide +kernel
theorem dL_isPart_80 : decode cL_isPart 80 = .ok (.iaload, 1) := by decide +kernel
theorem dL_isPart_81 : decode cL_isPart 81 = .ok (.iconst 4, 1) := by decide +kernel
theorem dL_isPart_82 : decode cL_isPart 82 = .ok (.iload 5, 2) := by decide +kernel
theorem dL_isPart_84 : decode cL_isPart 84 = .ok (.imul, 1) := by decide +kernel
theorem dL_isPart_85 : decode cL_isPart 85 = .ok (.iadd, 1) := by decide +kernel
theorem dL_isPart_86 : decode cL_isPart 86 = .ok (.iastore, 1) := by decide +kernel
theorem dL_isPart_87 : decode cL_isPart 87 = .ok (.aload_n 1, 1) := by decide +kernel
theorem dL_isPart_88 : decode cL_isPart 88 = .ok (.iconst 3, 1) := by decide +kernel
theorem dL_isPart_89 : decode cL_isPart 89 = .ok (.aload_n 1, 1) := by decide +kernel
theorem dL_isPart_90 : decode cL_isPart 90 = .ok (.iconst 3, 1) := by decide +kernel
theorem dL_isPart_91 : decode cL_isPart 91 = .ok (.iaload, 1) := by decide +kernel
theorem dL_isPart_92 : decode cL_isPart 92 = .ok (.aload_n 0, 1) := by decide +kernel
theorem dL_isPart_93 : decode cL_isPart 93 = .ok (.bipush 11, 2) := by decide +kernel
theorem dL_isPart_95 : decode cL_isPart 95 = .ok (.invokevirtual 8, 3) := by decide +kernel
theorem dL_isPart_98 : decode cL_isPart 98 = .ok (.iload 5, 2) := by decide +kernel
theorem dL_isPart_100 : decode cL_isPart 100 = .ok (.imul, 1) := by decide +kernel
theorem dL_isPart_101 : decode cL_isPart 101 = .ok (.iadd, 1) := by decide +kernel
theorem dL_isPart_102 : decode cL_isPart 102 = .ok (.bipush 99, 2) := by decide +kernel
theorem dL_isPart_104 : decode cL_isPart 104 = .ok (.if_icmp .le 8, 3) := by decide +kernel
theorem dL_isPart_107 : decode cL_isPart 107 = .ok (.bipush 99, 2) := by decide +kernel
theorem dL_isPart_109 : decode cL_isPart 109 = .ok (.goto 16, 3) := by decide +kernel
theorem dL_isPart_112 : decode cL_isPart 112 = .ok (.aload_n 1, 1) := by decide +kernel
theorem dL_isPart_113 : decode cL_isPart 113 = .ok (.iconst 3, 1) := by decide +kernel
theorem dL_isPart_114 : decode cL_isPart 114 = .ok (.iaload, 1) := by decide +kernel
theorem dL_isPart_115 : decode cL_isPart 115 = .ok (.aload_n 0, 1) := by decide +kernel
theorem dL_isPart_116 : decode cL_isPart 116 = .ok (.bipush 11, 2) := by decide +kernel
theorem dL_isPart_118 : decode cL_isPart 118 = .ok (.invokevirtual 8, 3) := by decide +kernel
theorem dL_isPart_121 : decode cL_isPart 121 = .ok (.iload 5, 2) := by decide +kernel
theorem dL_isPart_123 : decode cL_isPart 123 = .ok (.imul, 1) := by decide +kernel
theorem dL_isPart_124 : decode cL_isPart 124 = .ok (.iadd, 1) := by decide +kernel
theorem dL_isPart_125 : decode cL_isPart 125 = .ok (.iastore, 1) := by decide +kernel
theorem dL_isPart_126 : decode cL_isPart 126 = .ok (.iload_n 2, 1) := by decide +kernel
theorem dL_isPart_127 : decode cL_isPart 127 = .ok (.iload_n 3, 1) := by decide +kernel
theorem dL_isPart_128 : decode cL_isPart 128 = .ok (.iconst 2, 1) := by decide +kernel
theorem dL_isPart_129 : decode cL_isPart 129 = .ok (.irem, 1) := by decide +kernel
theorem dL_isPart_130 : decode cL_isPart 130 = .ok (.ifCond .ne 11, 3) := by decide +kernel
theorem dL_isPart_133 : decode cL_isPart 133 = .ok (.aload_n 1, 1) := by decide +kernel
theorem dL_isPart_134 : decode cL_isPart 134 = .ok (.iconst 3, 1) := by decide +kernel
theorem dL_isPart_135 : decode cL_isPart 135 = .ok (.iaload, 1) := by decide +kernel
theorem dL_isPart_136 : decode cL_isPart 136 = .ok (.iconst 4, 1) := by decide +kernel
theorem dL_isPart_137 : decode cL_isPart 137 = .ok (.idiv, 1) := by decide +kernel
theorem dL_isPart_138 : decode cL_isPart 138 = .ok (.goto 9, 3) := by decide +kernel
theorem dL_isPart_141 : decode cL_isPart 141 = .ok (.aload_n 1, 1) := by decide +kernel
theorem dL_isPart_142 : decode cL_isPart 142 = .ok (.iconst 3, 1) := by decide +kernel
theorem dL_isPart_143 : decode cL_isPart 143 = .ok (.iaload, 1) := by decide +kernel
theorem dL_isPart_144 : decode cL_isPart 144 = .ok (.iconst 4, 1) := by decide +kernel
theorem dL_isPart_145 : decode cL_isPart 145 = .ok (.idiv, 1) := by decide +kernel
theorem dL_isPart_146 : decode cL_isPart 146 = .ok (.ineg, 1) := by decide +kernel
theorem dL_isPart_147 : decode cL_isPart 147 = .ok (.iadd, 1) := by decide +kernel
theorem dL_isPart_148 : decode cL_isPart 148 = .ok (.istore_n 2, 1) := by decide +kernel
theorem dL_isPart_149 : decode cL_isPart 149 = .ok (.iconst 0, 1) := by decide +kernel
theorem dL_isPart_150 : decode cL_isPart 150 = .ok (.istore 7, 2) := by decide +kernel
theorem dL_isPart_152 : decode cL_isPart 152 = .ok (.iload 7, 2) := by decide +kernel
theorem dL_isPart_154 : decode cL_isPart 154 = .ok (.iload 5, 2) := by decide +kernel
theorem dL_isPart_156 : decode cL_isPart 156 = .ok (.if_icmp .ge 99, 3) := by decide +kernel
theorem dL_isPart_159 : decode cL_isPart 159 = .ok (.iload 4, 2) := by decide +kernel
theorem dL_isPart_161 : decode cL_isPart 161 = .ok (.iconst 1, 1) := by decide +kernel
theorem dL_isPart_162 : decode cL_isPart 162 = .ok (.if_icmp .ne 93, 3) := by decide +kernel
theorem dL_isPart_165 : decode cL_isPart 165 = .ok (.aload_n 1, 1) := by decide +kernel
theorem dL_isPart_166 : decode cL_isPart 166 = .ok (.iconst 1, 1) := by decide +kernel
theorem dL_isPart_167 : decode cL_isPart 167 = .ok (.aload_n 1, 1) := by decide +kernel
theorem dL_isPart_168 : decode cL_isPart 168 = .ok (.iconst 1, 1) := by decide +kernel
theorem dL_isPart_169 : decode cL_isPart 169 = .ok (.iaload, 1) := by decide +kernel
theorem dL_isPart_170 : decode cL_isPart 170 = .ok (.aload_n 0, 1) := by decide +kernel
theorem dL_isPart_171 : decode cL_isPart 171 = .ok (.bipush 12, 2) := by decide +kernel
theorem dL_isPart_173 : decode cL_isPart 173 = .ok (.invokevirtual 8, 3) := by decide +kernel
theorem dL_isPart_176 : decode cL_isPart 176 = .ok (.if_icmp .le 16, 3) := by decide +kernel
theorem dL_isPart_179 : decode cL_isPart 179 = .ok (.aload_n 1, 1) := by decide +kernel
theorem dL_isPart_180 : decode cL_isPart 180 = .ok (.iconst 1, 1) := by decide +kernel
theorem dL_isPart_181 : decode cL_isPart 181 = .ok (.iaload, 1) := by decide +kernel
theorem dL_isPart_182 : decode cL_isPart 182 = .ok (.aload_n 0, 1) := by decide +kernel
theorem dL_isPart_183 : decode cL_isPart 183 = .ok (.bipush 12, 2) := by decide +kernel
theorem dL_isPart_185 : decode cL_isPart 185 = .ok (.invokevirtual 8, 3) := by decide +kernel
theorem dL_isPart_188 : decode cL_isPart 188 = .ok (.isub, 1) := by decide +kernel
theorem dL_isPart_189 : decode cL_isPart 189 = .ok (.goto 4, 3) := by decide +kernel
theorem dL_isPart_192 : decode cL_isPart 192 = .ok (.iconst 0, 1) := by decide +kernel
theorem dL_isPart_193 : decode cL_isPart 193 = .ok (.iastore, 1) := by decide +kernel
theorem dL_isPart_194 : decode cL_isPart 194 = .ok (.aload_n 1, 1) := by decide +kernel
theorem dL_isPart_195 : decode cL_isPart 195 = .ok (.iconst 3, 1) := by decide +kernel
theorem dL_isPart_196 : decode cL_isPart 196 = .ok (.aload_n 1, 1) := by decide +kernel
theorem dL_isPart_197 : decode cL_isPart 197 = .ok (.iconst 3, 1) := by decide +kernel
theorem dL_isPart_198 : decode cL_isPart 198 = .ok (.iaload, 1) := by decide +kernel
theorem dL_isPart_199 : decode cL_isPart 199 = .ok (.aload_n 1, 1) := by decide +kernel
theorem dL_isPart_200 : decode cL_isPart 200 = .ok (.iconst 3, 1) := by decide +kernel
theorem dL_isPart_201 : decode cL_isPart 201 = .ok (.iaload, 1) := by decide +kernel
theorem dL_isPart_202 : decode cL_isPart 202 = .ok (.iconst 4, 1) := by decide +kernel
theorem dL_isPart_203 : decode cL_isPart 203 = .ok (.idiv, 1) := by decide +kernel
theorem dL_isPart_204 : decode cL_isPart 204 = .ok (.isub, 1) := by decide +kernel
theorem dL_isPart_205 : decode cL_isPart 205 = .ok (.iastore, 1) := by decide +kernel
theorem dL_isPart_206 : decode cL_isPart 206 = .ok (.aload_n 1, 1) := by decide +kernel
theorem dL_isPart_207 : decode cL_isPart 207 = .ok (.iconst 1, 1) := by decide +kernel
theorem dL_isPart_208 : decode cL_isPart 208 = .ok (.iaload, 1) := by decide +kernel
theorem dL_isPart_209 : decode cL_isPart 209 = .ok (.bipush 20, 2) := by decide +kernel
theorem dL_isPart_211 : decode cL_isPart 211 = .ok (.idiv, 1) := by decide +kernel
theorem dL_isPart_212 : decode cL_isPart 212 = .ok (.iload_n 2, 1) := by decide +kernel
theorem dL_isPart_213 : decode cL_isPart 213 = .ok (.invokestatic 24, 3) := by decide +kernel
theorem dL_isPart_216 : decode cL_isPart 216 = .ok (.if_icmp .ge 12, 3) := by decide +kernel
theorem dL_isPart_219 : decode cL_isPart 219 = .ok (.aload_n 1, 1) := by decide +kernel
theorem dL_isPart_220 : decode cL_isPart 220 = .ok (.iconst 1, 1) := by decide +kernel
theorem dL_isPart_221 : decode cL_isPart 221 = .ok (.iaload, 1) := by decide +kernel
theorem dL_isPart_222 : decode cL_isPart 222 = .ok (.bipush 20, 2) := by decide +kernel
theorem dL_isPart_224 : decode cL_isPart 224 = .ok (.idiv, 1) := by decide +kernel
theorem dL_isPart_225 : decode cL_isPart 225 = .ok (.goto 7, 3) := by decide +kernel
theorem dL_isPart_228 : decode cL_isPart 228 = .ok (.iload_n 2, 1) := by decide +kernel
theorem dL_isPart_229 : decode cL_isPart 229 = .ok (.invokestatic 24, 3) := by decide +kernel
theorem dL_isPart_232 : decode cL_isPart 232 = .ok (.istore 8, 2) := by decide +kernel
theorem dL_isPart_234 : decode cL_isPart 234 = .ok (.iload_n 2, 1) := by decide +kernel
theorem dL_isPart_235 : decode cL_isPart 235 = .ok (.iload_n 2, 1) := by decide +kernel
theorem dL_isPart_236 : decode cL_isPart 236 = .ok (.ifCond .ge 8, 3) := by decide +kernel
theorem dL_isPart_239 : decode cL_isPart 239 = .ok (.iload 8, 2) := by decide +kernel
theorem dL_isPart_241 : decode cL_isPart 241 = .ok (.goto 6, 3) := by decide +kernel
theorem dL_isPart_244 : decode cL_isPart 244 = .ok (.iload 8, 2) := by decide +kernel
theorem dL_isPart_246 : decode cL_isPart 246 = .ok (.ineg, 1) := by decide +kernel
theorem dL_isPart_247 : decode cL_isPart 247 = .ok (.iadd, 1) := by decide +kernel
theorem dL_isPart_248 : decode cL_isPart 248 = .ok (.istore_n 2, 1) := by decide +kernel
theorem dL_isPart_249 : decode cL_isPart 249 = .ok (.iinc 7 1, 3) := by decide +kernel
theorem dL_isPart_252 : decode cL_isPart 252 = .ok (.goto (-100), 3) := by decide +kernel
theorem dL_isPart_255 : decode cL_isPart 255 = .ok (.iload 4, 2) := by decide +kernel
theorem dL_isPart_257 : decode cL_isPart 257 = .ok (.iconst 1, 1) := by decide +kernel
theorem dL_isPart_258 : decode cL_isPart 258 = .ok (.if_icmp .ne 13, 3) := by decide +kernel
theorem dL_isPart_261 : decode cL_isPart 261 = .ok (.aload_n 1, 1) := by decide +kernel
theorem dL_isPart_262 : decode cL_isPart 262 = .ok (.iconst 1, 1) := by decide +kernel
theorem dL_isPart_263 : decode cL_isPart 263 = .ok (.iaload, 1) := by decide +kernel
theorem dL_isPart_264 : decode cL_isPart 264 = .ok (.ifCond .ne 7, 3) := by decide +kernel
theorem dL_isPart_267 : decode cL_isPart 267 = .ok (.iconst 3, 1) := by decide +kernel
theorem dL_isPart_268 : decode cL_isPart 268 = .ok (.goto 60, 3) := by decide +kernel
theorem dL_isPart_271 : decode cL_isPart 271 = .ok (.iload 4, 2) := by decide +kernel
theorem dL_isPart_273 : decode cL_isPart 273 = .ok (.iconst 2, 1) := by decide +kernel
theorem dL_isPart_274 : decode cL_isPart 274 = .ok (.if_icmp .ne 21, 3) := by decide +kernel
theorem dL_isPart_277 : decode cL_isPart 277 = .ok (.aload_n 1, 1) := by decide +kernel
theorem dL_isPart_278 : decode cL_isPart 278 = .ok (.iconst 0, 1) := by decide +kernel
theorem dL_isPart_279 : decode cL_isPart 279 = .ok (.iaload, 1) := by decide +kernel
theorem dL_isPart_280 : decode cL_isPart 280 = .ok (.aload_n 1, 1) := by decide +kernel
theorem dL_isPart_281 : decode cL_isPart 281 = .ok (.iconst 3, 1) := by decide +kernel
theorem dL_isPart_282 : decode cL_isPart 282 = .ok (.iaload, 1) := by decide +kernel
theorem dL_isPart_283 : decode cL_isPart 283 = .ok (.iconst 4, 1) := by decide +kernel
theorem dL_isPart_284 : decode cL_isPart 284 = .ok (.idiv, 1) := by decide +kernel
theorem dL_isPart_285 : decode cL_isPart 285 = .ok (.iadd, 1) := by decide +kernel
theorem dL_isPart_286 : decode cL_isPart 286 = .ok (.iload 5, 2) := by decide +kernel
theorem dL_isPart_288 : decode cL_isPart 288 = .ok (.if_icmp .le 7, 3) := by decide +kernel
theorem dL_isPart_291 : decode cL_isPart 291 = .ok (.iconst 2, 1) := by decide +kernel
theorem dL_isPart_292 : decode cL_isPart 292 = .ok (.goto 36, 3) := by decide +kernel
theorem dL_isPart_295 : decode cL_isPart 295 = .ok (.iload_n 2, 1) := by decide +kernel
theorem dL_isPart_296 : decode cL_isPart 296 = .ok (.invokestatic 24, 3) := by decide +kernel
theorem dL_isPart_299 : decode cL_isPart 299 = .ok (.aload_n 0, 1) := by decide +kernel
theorem dL_isPart_300 : decode cL_isPart 300 = .ok (.bipush 10, 2) := by decide +kernel
theorem dL_isPart_302 : decode cL_isPart 302 = .ok (.invokevirtual 8, 3) := by decide +kernel
theorem dL_isPart_305 : decode cL_isPart 305 = .ok (.if_icmp .lt 7, 3) := by decide +kernel
theorem dL_isPart_308 : decode cL_isPart 308 = .ok (.iconst 1, 1) := by decide +kernel
theorem dL_isPart_309 : decode cL_isPart 309 = .ok (.goto 19, 3) := by decide +kernel
theorem dL_isPart_312 : decode cL_isPart 312 = .ok (.iload_n 3, 1) := by decide +kernel
theorem dL_isPart_313 : decode cL_isPart 313 = .ok (.iconst 1, 1) := by decide +kernel
theorem dL_isPart_314 : decode cL_isPart 314 = .ok (.iadd, 1) := by decide +kernel
theorem dL_isPart_315 : decode cL_isPart 315 = .ok (.aload_n 0, 1) := by decide +kernel
theorem dL_isPart_316 : decode cL_isPart 316 = .ok (.iconst 0, 1) := by decide +kernel
theorem dL_isPart_317 : decode cL_isPart 317 = .ok (.invokevirtual 8, 3) := by decide +kernel
theorem dL_isPart_320 : decode cL_isPart 320 = .ok (.if_icmp .ne 7, 3) := by decide +kernel
theorem dL_isPart_323 : decode cL_isPart 323 = .ok (.iconst 4, 1) := by decide +kernel
theorem dL_isPart_324 : decode cL_isPart 324 = .ok (.goto 4, 3) := by decide +kernel
theorem dL_isPart_327 : decode cL_isPart 327 = .ok (.iconst 0, 1) := by decide +kernel
theorem dL_isPart_328 : decode cL_isPart 328 = .ok (.istore 6, 2) := by decide +kernel
theorem dL_isPart_330 : decode cL_isPart 330 = .ok (.iload 6, 2) := by decide +kernel
theorem dL_isPart_332 : decode cL_isPart 332 = .ok (.ifCond .le 13, 3) := by decide +kernel
theorem dL_isPart_335 : decode cL_isPart 335 = .ok (.iload 6, 2) := by decide +kernel
theorem dL_isPart_337 : decode cL_isPart 337 = .ok (.iconst 4, 1) := by decide +kernel
theorem dL_isPart_338 : decode cL_isPart 338 = .ok (.if_icmp .ge 7, 3) := by decide +kernel
theorem dL_isPart_341 : decode cL_isPart 341 = .ok (.iload_n 3, 1) := by decide +kernel
theorem dL_isPart_342 : decode cL_isPart 342 = .ok (.goto 6, 3) := by decide +kernel
theorem dL_isPart_345 : decode cL_isPart 345 = .ok (.iload_n 3, 1) := by decide +kernel
theorem dL_isPart_346 : decode cL_isPart 346 = .ok (.iconst 1, 1) := by decide +kernel
theorem dL_isPart_347 : decode cL_isPart 347 = .ok (.iadd, 1) := by decide +kernel
theorem dL_isPart_348 : decode cL_isPart 348 = .ok (.istore 7, 2) := by decide +kernel
theorem dL_isPart_350 : decode cL_isPart 350 = .ok (.iload 6, 2) := by decide +kernel
theorem dL_isPart_352 : decode cL_isPart 352 = .ok (.ifCond .ne 7, 3) := by decide +kernel
theorem dL_isPart_355 : decode cL_isPart 355 = .ok (.iconst 0, 1) := by decide +kernel
theorem dL_isPart_356 : decode cL_isPart 356 = .ok (.goto 11, 3) := by decide +kernel
theorem dL_isPart_359 : decode cL_isPart 359 = .ok (.aload_n 0, 1) := by decide +kernel
theorem dL_isPart_360 : decode cL_isPart 360 = .ok (.iconst 1, 1) := by decide +kernel
theorem dL_isPart_361 : decode cL_isPart 361 = .ok (.iload 6, 2) := by decide +kernel
theorem dL_isPart_363 : decode cL_isPart 363 = .ok (.iadd, 1) := by decide +kernel
theorem dL_isPart_364 : decode cL_isPart 364 = .ok (.invokevirtual 8, 3) := by decide +kernel
theorem dL_isPart_367 : decode cL_isPart 367 = .ok (.istore 8, 2) := by decide +kernel
theorem dL_isPart_369 : decode cL_isPart 369 = .ok (.iload 6, 2) := by decide +kernel
theorem dL_isPart_371 : decode cL_isPart 371 = .ok (.ifCond .eq 9, 3) := by decide +kernel
theorem dL_isPart_374 : decode cL_isPart 374 = .ok (.iload 6, 2) := by decide +kernel
theorem dL_isPart_376 : decode cL_isPart 376 = .ok (.iconst 4, 1) := by decide +kernel
theorem dL_isPart_377 : decode cL_isPart 377 = .ok (.if_icmp .ne 7, 3) := by decide +kernel
theorem dL_isPart_380 : decode cL_isPart 380 = .ok (.iconst 0, 1) := by decide +kernel
theorem dL_isPart_381 : decode cL_isPart 381 = .ok (.goto 12, 3) := by decide +kernel
theorem dL_isPart_384 : decode cL_isPart 384 = .ok (.aload_n 0, 1) := by decide +kernel
theorem dL_isPart_385 : decode cL_isPart 385 = .ok (.iload_n 3, 1) := by decide +kernel
theorem dL_isPart_386 : decode cL_isPart 386 = .ok (.iconst 1, 1) := by decide +kernel
theorem dL_isPart_387 : decode cL_isPart 387 = .ok (.iload 6, 2) := by decide +kernel
theorem dL_isPart_389 : decode cL_isPart 389 = .ok (.iadd, 1) := by decide +kernel
theorem dL_isPart_390 : decode cL_isPart 390 = .ok (.invokevirtual 14, 3) := by decide +kernel
theorem dL_isPart_393 : decode cL_isPart 393 = .ok (.istore 9, 2) := by decide +kernel
theorem dL_isPart_395 : decode cL_isPart 395 = .ok (.aload_n 0, 1) := by decide +kernel
theorem dL_isPart_396 : decode cL_isPart 396 = .ok (.iconst 1, 1) := by decide +kernel
theorem dL_isPart_397 : decode cL_isPart 397 = .ok (.invokevirtual 29, 3) := by decide +kernel
theorem dL_isPart_400 : decode cL_isPart 400 = .ok (.iload 6, 2) := by decide +kernel
theorem dL_isPart_402 : decode cL_isPart 402 = .ok (.if_icmp .ne 99, 3) := by decide +kernel
theorem dL_isPart_405 : decode cL_isPart 405 = .ok (.aload_n 0, 1) := by decide +kernel
theorem dL_isPart_406 : decode cL_isPart 406 = .ok (.iconst 0, 1) := by decide +kernel
theorem dL_isPart_407 : decode cL_isPart 407 = .ok (.invokevirtual 21, 3) := by decide +kernel
theorem dL_isPart_410 : decode cL_isPart 410 = .ok (.aload_n 1, 1) := by decide +kernel
theorem dL_isPart_411 : decode cL_isPart 411 = .ok (.iconst 0, 1) := by decide +kernel
theorem dL_isPart_412 : decode cL_isPart 412 = .ok (.iaload, 1) := by decide +kernel
theorem dL_isPart_413 : decode cL_isPart 413 = .ok (.if_icmp .ne 88, 3) := by decide +kernel
theorem dL_isPart_416 : decode cL_isPart 416 = .ok (.aload_n 0, 1) := by decide +kernel
theorem dL_isPart_417 : decode cL_isPart 417 = .ok (.iconst 1, 1) := by decide +kernel
theorem dL_isPart_418 : decode cL_isPart 418 = .ok (.invokevirtual 21, 3) := by decide +kernel
theorem dL_isPart_421 : decode cL_isPart 421 = .ok (.aload_n 1, 1) := by decide +kernel
theorem dL_isPart_422 : decode cL_isPart 422 = .ok (.iconst 1, 1) := by decide +kernel
theorem dL_isPart_423 : decode cL_isPart 423 = .ok (.iaload, 1) := by decide +kernel
theorem dL_isPart_424 : decode cL_isPart 424 = .ok (.if_icmp .ne 77, 3) := by decide +kernel
theorem dL_isPart_427 : decode cL_isPart 427 = .ok (.aload_n 0, 1) := by decide +kernel
theorem dL_isPart_428 : decode cL_isPart 428 = .ok (.iconst 2, 1) := by decide +kernel
theorem dL_isPart_429 : decode cL_isPart 429 = .ok (.invokevirtual 21, 3) := by decide +kernel
theorem dL_isPart_432 : decode cL_isPart 432 = .ok (.iload_n 2, 1) := by decide +kernel
theorem dL_isPart_433 : decode cL_isPart 433 = .ok (.sipush 500, 3) := by decide +kernel
theorem dL_isPart_436 : decode cL_isPart 436 = .ok (.iadd, 1) := by decide +kernel
theorem dL_isPart_437 : decode cL_isPart 437 = .ok (.if_icmp .ne 64, 3) := by decide +kernel
theorem dL_isPart_440 : decode cL_isPart 440 = .ok (.aload_n 0, 1) := by decide +kernel
theorem dL_isPart_441 : decode cL_isPart 441 = .ok (.iconst 3, 1) := by decide +kernel
theorem dL_isPart_442 : decode cL_isPart 442 = .ok (.invokevirtual 21, 3) := by decide +kernel
theorem dL_isPart_445 : decode cL_isPart 445 = .ok (.aload_n 1, 1) := by decide +kernel
theorem dL_isPart_446 : decode cL_isPart 446 = .ok (.iconst 3, 1) := by decide +kernel
theorem dL_isPart_447 : decode cL_isPart 447 = .ok (.iaload, 1) := by decide +kernel
theorem dL_isPart_448 : decode cL_isPart 448 = .ok (.if_icmp .ne 53, 3) := by decide +kernel
theorem dL_isPart_451 : decode cL_isPart 451 = .ok (.aload_n 0, 1) := by decide +kernel
theorem dL_isPart_452 : decode cL_isPart 452 = .ok (.iconst 4, 1) := by decide +kernel
theorem dL_isPart_453 : decode cL_isPart 453 = .ok (.invokevirtual 21, 3) := by decide +kernel
theorem dL_isPart_456 : decode cL_isPart 456 = .ok (.iload 7, 2) := by decide +kernel
theorem dL_isPart_458 : decode cL_isPart 458 = .ok (.if_icmp .ne 43, 3) := by decide +kernel
theorem dL_isPart_461 : decode cL_isPart 461 = .ok (.aload_n 0, 1) := by decide +kernel
theorem dL_isPart_462 : decode cL_isPart 462 = .ok (.iconst 5, 1) := by decide +kernel
theorem dL_isPart_463 : decode cL_isPart 463 = .ok (.invokevirtual 21, 3) := by decide +kernel
theorem dL_isPart_466 : decode cL_isPart 466 = .ok (.iload 6, 2) := by decide +kernel
theorem dL_isPart_468 : decode cL_isPart 468 = .ok (.if_icmp .ne 33, 3) := by decide +kernel
theorem dL_isPart_471 : decode cL_isPart 471 = .ok (.aload_n 0, 1) := by decide +kernel
theorem dL_isPart_472 : decode cL_isPart 472 = .ok (.bipush 6, 2) := by decide +kernel
theorem dL_isPart_474 : decode cL_isPart 474 = .ok (.invokevirtual 21, 3) := by decide +kernel
theorem dL_isPart_477 : decode cL_isPart 477 = .ok (.aload_n 1, 1) := by decide +kernel
theorem dL_isPart_478 : decode cL_isPart 478 = .ok (.bipush 6, 2) := by decide +kernel
theorem dL_isPart_480 : decode cL_isPart 480 = .ok (.iaload, 1) := by decide +kernel
theorem dL_isPart_481 : decode cL_isPart 481 = .ok (.if_icmp .ne 20, 3) := by decide +kernel
theorem dL_isPart_484 : decode cL_isPart 484 = .ok (.aload_n 0, 1) := by decide +kernel
theorem dL_isPart_485 : decode cL_isPart 485 = .ok (.bipush 7, 2) := by decide +kernel
theorem dL_isPart_487 : decode cL_isPart 487 = .ok (.invokevirtual 21, 3) := by decide +kernel
theorem dL_isPart_490 : decode cL_isPart 490 = .ok (.aload_n 1, 1) := by decide +kernel
theorem dL_isPart_491 : decode cL_isPart 491 = .ok (.bipush 7, 2) := by decide +kernel
theorem dL_isPart_493 : decode cL_isPart 493 = .ok (.iaload, 1) := by decide +kernel
theorem dL_isPart_494 : decode cL_isPart 494 = .ok (.if_icmp .ne 7, 3) := by decide +kernel
theorem dL_isPart_497 : decode cL_isPart 497 = .ok (.iconst 1, 1) := by decide +kernel
theorem dL_isPart_498 : decode cL_isPart 498 = .ok (.goto 4, 3) := by decide +kernel
theorem dL_isPart_501 : decode cL_isPart 501 = .ok (.iconst 0, 1) := by decide +kernel
theorem dL_isPart_502 : decode cL_isPart 502 = .ok (.istore 10, 2) := by decide +kernel
theorem dL_isPart_504 : decode cL_isPart 504 = .ok (.iload 6, 2) := by decide +kernel
theorem dL_isPart_506 : decode cL_isPart 506 = .ok (.ifCond .le 109, 3) := by decide +kernel
theorem dL_isPart_509 : decode cL_isPart 509 = .ok (.iload 10, 2) := by decide +kernel
theorem dL_isPart_511 : decode cL_isPart 511 = .ok (.ifCond .eq 101, 3) := by decide +kernel
theorem dL_isPart_514 : decode cL_isPart 514 = .ok (.aload_n 0, 1) := by decide +kernel
theorem dL_isPart_515 : decode cL_isPart 515 = .ok (.iconst 1, 1) := by decide +kernel
theorem dL_isPart_516 : decode cL_isPart 516 = .ok (.iload 6, 2) := by decide +kernel
theorem dL_isPart_518 : decode cL_isPart 518 = .ok (.iadd, 1) := by decide +kernel
theorem dL_isPart_519 : decode cL_isPart 519 = .ok (.invokevirtual 8, 3) := by decide +kernel
theorem dL_isPart_522 : decode cL_isPart 522 = .ok (.iload 8, 2) := by decide +kernel
theorem dL_isPart_524 : decode cL_isPart 524 = .ok (.iconst 1, 1) := by decide +kernel
theorem dL_isPart_525 : decode cL_isPart 525 = .ok (.iadd, 1) := by decide +kernel
theorem dL_isPart_526 : decode cL_isPart 526 = .ok (.if_icmp .ne 86, 3) := by decide +kernel
theorem dL_isPart_529 : decode cL_isPart 529 = .ok (.aload_n 0, 1) := by decide +kernel
theorem dL_isPart_530 : decode cL_isPart 530 = .ok (.iconst 0, 1) := by decide +kernel
theorem dL_isPart_531 : decode cL_isPart 531 = .ok (.iconst 0, 1) := by decide +kernel
theorem dL_isPart_532 : decode cL_isPart 532 = .ok (.invokevirtual 18, 3) := by decide +kernel
theorem dL_isPart_535 : decode cL_isPart 535 = .ok (.aload_n 1, 1) := by decide +kernel
theorem dL_isPart_536 : decode cL_isPart 536 = .ok (.iconst 0, 1) := by decide +kernel
theorem dL_isPart_537 : decode cL_isPart 537 = .ok (.iaload, 1) := by decide +kernel
theorem dL_isPart_538 : decode cL_isPart 538 = .ok (.if_icmp .ne 74, 3) := by decide +kernel
theorem dL_isPart_541 : decode cL_isPart 541 = .ok (.aload_n 0, 1) := by decide +kernel
theorem dL_isPart_542 : decode cL_isPart 542 = .ok (.iconst 0, 1) := by decide +kernel
theorem dL_isPart_543 : decode cL_isPart 543 = .ok (.iconst 1, 1) := by decide +kernel
theorem dL_isPart_544 : decode cL_isPart 544 = .ok (.invokevirtual 18, 3) := by decide +kernel
theorem dL_isPart_547 : decode cL_isPart 547 = .ok (.iload 6, 2) := by decide +kernel
theorem dL_isPart_549 : decode cL_isPart 549 = .ok (.if_icmp .ne 63, 3) := by decide +kernel
theorem dL_isPart_552 : decode cL_isPart 552 = .ok (.aload_n 0, 1) := by decide +kernel
theorem dL_isPart_553 : decode cL_isPart 553 = .ok (.iconst 0, 1) := by decide +kernel
theorem dL_isPart_554 : decode cL_isPart 554 = .ok (.iconst 2, 1) := by decide +kernel
theorem dL_isPart_555 : decode cL_isPart 555 = .ok (.invokevirtual 18, 3) := by decide +kernel
theorem dL_isPart_558 : decode cL_isPart 558 = .ok (.iload 7, 2) := by decide +kernel
theorem dL_isPart_560 : decode cL_isPart 560 = .ok (.if_icmp .ne 52, 3) := by decide +kernel
theorem dL_isPart_563 : decode cL_isPart 563 = .ok (.aload_n 0, 1) := by decide +kernel
theorem dL_isPart_564 : decode cL_isPart 564 = .ok (.iconst 0, 1) := by decide +kernel
theorem dL_isPart_565 : decode cL_isPart 565 = .ok (.iconst 3, 1) := by decide +kernel
theorem dL_isPart_566 : decode cL_isPart 566 = .ok (.invokevirtual 18, 3) := by decide +kernel
theorem dL_isPart_569 : decode cL_isPart 569 = .ok (.aload_n 1, 1) := by decide +kernel
theorem dL_isPart_570 : decode cL_isPart 570 = .ok (.bipush 6, 2) := by decide +kernel
theorem dL_isPart_572 : decode cL_isPart 572 = .ok (.iaload, 1) := by decide +kernel
theorem dL_isPart_573 : decode cL_isPart 573 = .ok (.if_icmp .ne 39, 3) := by decide +kernel
theorem dL_isPart_576 : decode cL_isPart 576 = .ok (.aload_n 0, 1) := by decide +kernel
theorem dL_isPart_577 : decode cL_isPart 577 = .ok (.iconst 1, 1) := by decide +kernel
theorem dL_isPart_578 : decode cL_isPart 578 = .ok (.invokevirtual 29, 3) := by decide +kernel
theorem dL_isPart_581 : decode cL_isPart 581 = .ok (.bipush (-5), 2) := by decide +kernel
theorem dL_isPart_583 : decode cL_isPart 583 = .ok (.if_icmp .ne 29, 3) := by decide +kernel
theorem dL_isPart_586 : decode cL_isPart 586 = .ok (.iload 6, 2) := by decide +kernel
theorem dL_isPart_588 : decode cL_isPart 588 = .ok (.iconst 4, 1) := by decide +kernel
theorem dL_isPart_589 : decode cL_isPart 589 = .ok (.if_icmp .eq 19, 3) := by decide +kernel
theorem dL_isPart_592 : decode cL_isPart 592 = .ok (.aload_n 0, 1) := by decide +kernel
theorem dL_isPart_593 : decode cL_isPart 593 = .ok (.iload_n 3, 1) := by decide +kernel
theorem dL_isPart_594 : decode cL_isPart 594 = .ok (.iconst 1, 1) := by decide +kernel
theorem dL_isPart_595 : decode cL_isPart 595 = .ok (.iload 6, 2) := by decide +kernel
theorem dL_isPart_597 : decode cL_isPart 597 = .ok (.iadd, 1) := by decide +kernel
theorem dL_isPart_598 : decode cL_isPart 598 = .ok (.invokevirtual 14, 3) := by decide +kernel
theorem dL_isPart_601 : decode cL_isPart 601 = .ok (.iload 9, 2) := by decide +kernel
theorem dL_isPart_603 : decode cL_isPart 603 = .ok (.iconst 1, 1) := by decide +kernel
theorem dL_isPart_604 : decode cL_isPart 604 = .ok (.iadd, 1) := by decide +kernel
theorem dL_isPart_605 : decode cL_isPart 605 = .ok (.if_icmp .ne 7, 3) := by decide +kernel
theorem dL_isPart_608 : decode cL_isPart 608 = .ok (.iconst 1, 1) := by decide +kernel
theorem dL_isPart_609 : decode cL_isPart 609 = .ok (.goto 4, 3) := by decide +kernel
theorem dL_isPart_612 : decode cL_isPart 612 = .ok (.iconst 0, 1) := by decide +kernel
theorem dL_isPart_613 : decode cL_isPart 613 = .ok (.istore 10, 2) := by decide +kernel
theorem dL_isPart_615 : decode cL_isPart 615 = .ok (.iload 10, 2) := by decide +kernel
theorem dL_isPart_617 : decode cL_isPart 617 = .ok (.ireturn, 1) := by decide +kernel
theorem dL_isRolled_0 : decode cL_isRolled 0 = .ok (.aload_n 0, 1) := by decide +kernel
theorem dL_isRolled_1 : decode cL_isRolled 1 = .ok (.iconst 0, 1) := by decide +kernel
theorem dL_isRolled_2 : decode cL_isRolled 2 = .ok (.invokevirtual 32, 3) := by decide +kernel
theorem dL_isRolled_5 : decode cL_isRolled 5 = .ok (.istore_n 2, 1) := by decide +kernel
theorem dL_isRolled_6 : decode cL_isRolled 6 = .ok (.aload_n 0, 1) := by decide +kernel
theorem dL_isRolled_7 : decode cL_isRolled 7 = .ok (.iconst 1, 1) := by decide +kernel
theorem dL_isRolled_8 : decode cL_isRolled 8 = .ok (.invokevirtual 32, 3) := by decide +kernel
theorem dL_isRolled_11 : decode cL_isRolled 11 = .ok (.istore_n 3, 1) := by decide +kernel
theorem dL_isRolled_12 : decode cL_isRolled 12 = .ok (.aload_n 0, 1) := by decide +kernel
theorem dL_isRolled_13 : decode cL_isRolled 13 = .ok (.iconst 2, 1) := by decide +kernel
theorem dL_isRolled_14 : decode cL_isRolled 14 = .ok (.invokevirtual 32, 3) := by decide +kernel
theorem dL_isRolled_17 : decode cL_isRolled 17 = .ok (.istore 4, 2) := by decide +kernel
theorem dL_isRolled_19 : decode cL_isRolled 19 = .ok (.aload_n 0, 1) := by decide +kernel
theorem dL_isRolled_20 : decode cL_isRolled 20 = .ok (.iconst 3, 1) := by decide +kernel
theorem dL_isRolled_21 : decode cL_isRolled 21 = .ok (.invokevirtual 32, 3) := by decide +kernel
theorem dL_isRolled_24 : decode cL_isRolled 24 = .ok (.istore 5, 2) := by decide +kernel
theorem dL_isRolled_26 : decode cL_isRolled 26 = .ok (.aload_n 0, 1) := by decide +kernel
theorem dL_isRolled_27 : decode cL_isRolled 27 = .ok (.iconst 0, 1) := by decide +kernel
theorem dL_isRolled_28 : decode cL_isRolled 28 = .ok (.invokevirtual 35, 3) := by decide +kernel
theorem dL_isRolled_31 : decode cL_isRolled 31 = .ok (.istore 6, 2) := by decide +kernel
theorem dL_isRolled_33 : decode cL_isRolled 33 = .ok (.iconst 0, 1) := by decide +kernel
theorem dL_isRolled_34 : decode cL_isRolled 34 = .ok (.istore 7, 2) := by decide +kernel
theorem dL_isRolled_36 : decode cL_isRolled 36 = .ok (.iload 6, 2) := by decide +kernel
theorem dL_isRolled_38 : decode cL_isRolled 38 = .ok (.aload_n 0, 1) := by decide +kernel
theorem dL_isRolled_39 : decode cL_isRolled 39 = .ok (.iconst 0, 1) := by decide +kernel
theorem dL_isRolled_40 : decode cL_isRolled 40 = .ok (.invokevirtual 8, 3) := by decide +kernel
theorem dL_isRolled_43 : decode cL_isRolled 43 = .ok (.if_icmp .ne 7, 3) := by decide +kernel
theorem dL_isRolled_46 : decode cL_isRolled 46 = .ok (.iconst 1, 1) := by decide +kernel
theorem dL_isRolled_47 : decode cL_isRolled 47 = .ok (.goto 4, 3) := by decide +kernel
theorem dL_isRolled_50 : decode cL_isRolled 50 = .ok (.iconst 0, 1) := by decide +kernel
theorem dL_isRolled_51 : decode cL_isRolled 51 = .ok (.istore 8, 2) := by decide +kernel
theorem dL_isRolled_53 : decode cL_isRolled 53 = .ok (.iconst 0, 1) := by decide +kernel
theorem dL_isRolled_54 : decode cL_isRolled 54 = .ok (.istore 9, 2) := by decide +kernel
theorem dL_isRolled_56 : decode cL_isRolled 56 = .ok (.iload 9, 2) := by decide +kernel
theorem dL_isRolled_58 : decode cL_isRolled 58 = .ok (.bipush 22, 2) := by decide +kernel
theorem dL_isRolled_60 : decode cL_isRolled 60 = .ok (.if_icmp .ge 122, 3) := by decide +kernel
theorem dL_isRolled_63 : decode cL_isRolled 63 = .ok (.iload 8, 2) := by decide +kernel
theorem dL_isRolled_65 : decode cL_isRolled 65 = .ok (.ifCond .eq 117, 3) := by decide +kernel
theorem dL_isRolled_68 : decode cL_isRolled 68 = .ok (.aload_n 0, 1) := by decide +kernel
theorem dL_isRolled_69 : decode cL_isRolled 69 = .ok (.iconst 5, 1) := by decide +kernel
theorem dL_isRolled_70 : decode cL_isRolled 70 = .ok (.invokevirtual 21, 3) := by decide +kernel
theorem dL_isRolled_73 : decode cL_isRolled 73 = .ok (.ifCond .ne 109, 3) := by decide +kernel
theorem dL_isRolled_76 : decode cL_isRolled 76 = .ok (.aload_n 0, 1) := by decide +kernel
theorem dL_isRolled_77 : decode cL_isRolled 77 = .ok (.iconst 4, 1) := by decide +kernel
theorem dL_isRolled_78 : decode cL_isRolled 78 = .ok (.invokevirtual 21, 3) := by decide +kernel
theorem dL_isRolled_81 : decode cL_isRolled 81 = .ok (.iload 6, 2) := by decide +kernel
theorem dL_isRolled_83 : decode cL_isRolled 83 = .ok (.if_icmp .ne 7, 3) := by decide +kernel
theorem dL_isRolled_86 : decode cL_isRolled 86 = .ok (.iconst 1, 1) := by decide +kernel
theorem dL_isRolled_87 : decode cL_isRolled 87 = .ok (.goto 4, 3) := by decide +kernel
theorem dL_isRolled_90 : decode cL_isRolled 90 = .ok (.iconst 0, 1) := by decide +kernel
theorem dL_isRolled_91 : decode cL_isRolled 91 = .ok (.istore 10, 2) := by decide +kernel
theorem dL_isRolled_93 : decode cL_isRolled 93 = .ok (.iload 10, 2) := by decide +kernel
theorem dL_isRolled_95 : decode cL_isRolled 95 = .ok (.ifCond .eq 20, 3) := by decide +kernel
theorem dL_isRolled_98 : decode cL_isRolled 98 = .ok (.aload_n 0, 1) := by decide +kernel
theorem dL_isRolled_99 : decode cL_isRolled 99 = .ok (.iconst 1, 1) := by decide +kernel
theorem dL_isRolled_100 : decode cL_isRolled 100 = .ok (.invokevirtual 29, 3) := by decide +kernel
theorem dL_isRolled_103 : decode cL_isRolled 103 = .ok (.iconst 4, 1) := by decide +kernel
theorem dL_isRolled_104 : decode cL_isRolled 104 = .ok (.if_icmp .ne 7, 3) := by decide +kernel
theorem dL_isRolled_107 : decode cL_isRolled 107 = .ok (.iconst 1, 1) := by decide +kernel
theorem dL_isRolled_108 : decode cL_isRolled 108 = .ok (.goto 12, 3) := by decide +kernel
theorem dL_isRolled_111 : decode cL_isRolled 111 = .ok (.iconst 0, 1) := by decide +kernel
theorem dL_isRolled_112 : decode cL_isRolled 112 = .ok (.goto 8, 3) := by decide +kernel
theorem dL_isRolled_115 : decode cL_isRolled 115 = .ok (.aload_n 0, 1) := by decide +kernel
theorem dL_isRolled_116 : decode cL_isRolled 116 = .ok (.aload_n 1, 1) := by decide +kernel
theorem dL_isRolled_117 : decode cL_isRolled 117 = .ok (.invokestatic 38, 3) := by decide +kernel
theorem dL_isRolled_120 : decode cL_isRolled 120 = .ok (.istore 8, 2) := by decide +kernel
theorem dL_isRolled_122 : decode cL_isRolled 122 = .ok (.aload_n 0, 1) := by decide +kernel
theorem dL_isRolled_123 : decode cL_isRolled 123 = .ok (.iconst 5, 1) := by decide +kernel
theorem dL_isRolled_124 : decode cL_isRolled 124 = .ok (.invokevirtual 21, 3) := by decide +kernel
theorem dL_isRolled_127 : decode cL_isRolled 127 = .ok (.istore 11, 2) := by decide +kernel
theorem dL_isRolled_129 : decode cL_isRolled 129 = .ok (.aload_n 0, 1) := by decide +kernel
theorem dL_isRolled_130 : decode cL_isRolled 130 = .ok (.iconst 2, 1) := by decide +kernel
theorem dL_isRolled_131 : decode cL_isRolled 131 = .ok (.invokevirtual 21, 3) := by decide +kernel
theorem dL_isRolled_134 : decode cL_isRolled 134 = .ok (.sipush 500, 3) := by decide +kernel
theorem dL_isRolled_137 : decode cL_isRolled 137 = .ok (.isub, 1) := by decide +kernel
theorem dL_isRolled_138 : decode cL_isRolled 138 = .ok (.invokestatic 24, 3) := by decide +kernel
theorem dL_isRolled_141 : decode cL_isRolled 141 = .ok (.istore 12, 2) := by decide +kernel
theorem dL_isRolled_143 : decode cL_isRolled 143 = .ok (.iload 10, 2) := by decide +kernel
theorem dL_isRolled_145 : decode cL_isRolled 145 = .ok (.ifCond .ne 27, 3) := by decide +kernel
theorem dL_isRolled_148 : decode cL_isRolled 148 = .ok (.iload 11, 2) := by decide +kernel
theorem dL_isRolled_150 : decode cL_isRolled 150 = .ok (.iconst 2, 1) := by decide +kernel
theorem dL_isRolled_151 : decode cL_isRolled 151 = .ok (.if_icmp .eq 21, 3) := by decide +kernel
theorem dL_isRolled_154 : decode cL_isRolled 154 = .ok (.iload 11, 2) := by decide +kernel
theorem dL_isRolled_156 : decode cL_isRolled 156 = .ok (.iconst 3, 1) := by decide +kernel
theorem dL_isRolled_157 : decode cL_isRolled 157 = .ok (.if_icmp .eq 15, 3) := by decide +kernel
theorem dL_isRolled_160 : decode cL_isRolled 160 = .ok (.iload 12, 2) := by decide +kernel
theorem dL_isRolled_162 : decode cL_isRolled 162 = .ok (.iload 7, 2) := by decide +kernel
theorem dL_isRolled_164 : decode cL_isRolled 164 = .ok (.if_icmp .le 8, 3) := by decide +kernel
theorem dL_isRolled_167 : decode cL_isRolled 167 = .ok (.iload 12, 2) := by decide +kernel
theorem dL_isRolled_169 : decode cL_isRolled 169 = .ok (.goto 5, 3) := by decide +kernel
theorem dL_isRolled_172 : decode cL_isRolled 172 = .ok (.iload 7, 2) := by decide +kernel
theorem dL_isRolled_174 : decode cL_isRolled 174 = .ok (.istore 7, 2) := by decide +kernel
theorem dL_isRolled_176 : decode cL_isRolled 176 = .ok (.iinc 9 1, 3) := by decide +kernel
theorem dL_isRolled_179 : decode cL_isRolled 179 = .ok (.goto (-123), 3) := by decide +kernel
theorem dL_isRolled_182 : decode cL_isRolled 182 = .ok (.iload 8, 2) := by decide +kernel
theorem dL_isRolled_184 : decode cL_isRolled 184 = .ok (.ifCond .eq 60, 3) := by decide +kernel
theorem dL_isRolled_187 : decode cL_isRolled 187 = .ok (.aload_n 0, 1) := by decide +kernel
theorem dL_isRolled_188 : decode cL_isRolled 188 = .ok (.iconst 5, 1) := by decide +kernel
theorem dL_isRolled_189 : decode cL_isRolled 189 = .ok (.invokevirtual 21, 3) := by decide +kernel
theorem dL_isRolled_192 : decode cL_isRolled 192 = .ok (.iload_n 2, 1) := by decide +kernel
theorem dL_isRolled_193 : decode cL_isRolled 193 = .ok (.if_icmp .ne 51, 3) := by decide +kernel
theorem dL_isRolled_196 : decode cL_isRolled 196 = .ok (.aload_n 0, 1) := by decide +kernel
theorem dL_isRolled_197 : decode cL_isRolled 197 = .ok (.iconst 4, 1) := by decide +kernel
theorem dL_isRolled_198 : decode cL_isRolled 198 = .ok (.invokevirtual 21, 3) := by decide +kernel
theorem dL_isRolled_201 : decode cL_isRolled 201 = .ok (.iload_n 3, 1) := by decide +kernel
theorem dL_isRolled_202 : decode cL_isRolled 202 = .ok (.if_icmp .ne 42, 3) := by decide +kernel
theorem dL_isRolled_205 : decode cL_isRolled 205 = .ok (.aload_n 0, 1) := by decide +kernel
theorem dL_isRolled_206 : decode cL_isRolled 206 = .ok (.iconst 1, 1) := by decide +kernel
theorem dL_isRolled_207 : decode cL_isRolled 207 = .ok (.invokevirtual 21, 3) := by decide +kernel
theorem dL_isRolled_210 : decode cL_isRolled 210 = .ok (.iload 4, 2) := by decide +kernel
theorem dL_isRolled_212 : decode cL_isRolled 212 = .ok (.if_icmp .ne 32, 3) := by decide +kernel
theorem dL_isRolled_215 : decode cL_isRolled 215 = .ok (.iload 7, 2) := by decide +kernel
theorem dL_isRolled_217 : decode cL_isRolled 217 = .ok (.iload 5, 2) := by decide +kernel
theorem dL_isRolled_219 : decode cL_isRolled 219 = .ok (.if_icmp .ne 25, 3) := by decide +kernel
theorem dL_isRolled_222 : decode cL_isRolled 222 = .ok (.aload_n 0, 1) := by decide +kernel
theorem dL_isRolled_223 : decode cL_isRolled 223 = .ok (.iconst 0, 1) := by decide +kernel
theorem dL_isRolled_224 : decode cL_isRolled 224 = .ok (.invokevirtual 42, 3) := by decide +kernel
theorem dL_isRolled_227 : decode cL_isRolled 227 = .ok (.iload 6, 2) := by decide +kernel
theorem dL_isRolled_229 : decode cL_isRolled 229 = .ok (.if_icmp .ne 15, 3) := by decide +kernel
theorem dL_isRolled_232 : decode cL_isRolled 232 = .ok (.aload_n 0, 1) := by decide +kernel
theorem dL_isRolled_233 : decode cL_isRolled 233 = .ok (.iconst 5, 1) := by decide +kernel
theorem dL_isRolled_234 : decode cL_isRolled 234 = .ok (.invokevirtual 21, 3) := by decide +kernel
theorem dL_isRolled_237 : decode cL_isRolled 237 = .ok (.ifCond .ne 7, 3) := by decide +kernel
theorem dL_isRolled_240 : decode cL_isRolled 240 = .ok (.iconst 1, 1) := by decide +kernel
theorem dL_isRolled_241 : decode cL_isRolled 241 = .ok (.goto 4, 3) := by decide +kernel
theorem dL_isRolled_244 : decode cL_isRolled 244 = .ok (.iconst 0, 1) := by decide +kernel
theorem dL_isRolled_245 : decode cL_isRolled 245 = .ok (.ireturn, 1) := by decide +kernel
theorem dL_isSaved_0 : decode cL_isSaved 0 = .ok (.aload_n 0, 1) := by decide +kernel
theorem dL_isSaved_1 : decode cL_isSaved 1 = .ok (.iload_n 1, 1) := by decide +kernel
theorem dL_isSaved_2 : decode cL_isSaved 2 = .ok (.invokevirtual 45, 3) := by decide +kernel
theorem dL_isSaved_5 : decode cL_isSaved 5 = .ok (.istore_n 2, 1) := by decide +kernel
theorem dL_isSaved_6 : decode cL_isSaved 6 = .ok (.bipush (-6), 2) := by decide +kernel
theorem dL_isSaved_8 : decode cL_isSaved 8 = .ok (.istore_n 3, 1) := by decide +kernel
theorem dL_isSaved_9 : decode cL_isSaved 9 = .ok (.aload_n 0, 1) := by decide +kernel
theorem dL_isSaved_10 : decode cL_isSaved 10 = .ok (.iconst 1, 1) := by decide +kernel
theorem dL_isSaved_11 : decode cL_isSaved 11 = .ok (.invokevirtual 35, 3) := by decide +kernel
theorem dL_isSaved_14 : decode cL_isSaved 14 = .ok (.istore 4, 2) := by decide +kernel
theorem dL_isSaved_16 : decode cL_isSaved 16 = .ok (.iconst 0, 1) := by decide +kernel
theorem dL_isSaved_17 : decode cL_isSaved 17 = .ok (.istore 5, 2) := by decide +kernel
theorem dL_isSaved_19 : decode cL_isSaved 19 = .ok (.iload 5, 2) := by decide +kernel
theorem dL_isSaved_21 : decode cL_isSaved 21 = .ok (.bipush 20, 2) := by decide +kernel
theorem dL_isSaved_23 : decode cL_isSaved 23 = .ok (.if_icmp .gt 104, 3) := by decide +kernel
theorem dL_isSaved_26 : decode cL_isSaved 26 = .ok (.iload_n 3, 1) := by decide +kernel
theorem dL_isSaved_27 : decode cL_isSaved 27 = .ok (.ifCond .ge 100, 3) := by decide +kernel
theorem dL_isSaved_30 : decode cL_isSaved 30 = .ok (.aload_n 0, 1) := by decide +kernel
theorem dL_isSaved_31 : decode cL_isSaved 31 = .ok (.iconst 0, 1) := by decide +kernel
theorem dL_isSaved_32 : decode cL_isSaved 32 = .ok (.invokevirtual 32, 3) := by decide +kernel
theorem dL_isSaved_35 : decode cL_isSaved 35 = .ok (.iconst 4, 1) := by decide +kernel
theorem dL_isSaved_36 : decode cL_isSaved 36 = .ok (.if_icmp .ne 8, 3) := by decide +kernel
theorem dL_isSaved_39 : decode cL_isSaved 39 = .ok (.iload 5, 2) := by decide +kernel
theorem dL_isSaved_41 : decode cL_isSaved 41 = .ok (.goto 4, 3) := by decide +kernel
theorem dL_isSaved_44 : decode cL_isSaved 44 = .ok (.iload_n 3, 1) := by decide +kernel
theorem dL_isSaved_45 : decode cL_isSaved 45 = .ok (.istore_n 3, 1) := by decide +kernel
theorem dL_isSaved_46 : decode cL_isSaved 46 = .ok (.aload_n 0, 1) := by decide +kernel
theorem dL_isSaved_47 : decode cL_isSaved 47 = .ok (.iconst 2, 1) := by decide +kernel
theorem dL_isSaved_48 : decode cL_isSaved 48 = .ok (.invokevirtual 21, 3) := by decide +kernel
theorem dL_isSaved_51 : decode cL_isSaved 51 = .ok (.istore 6, 2) := by decide +kernel
theorem dL_isSaved_53 : decode cL_isSaved 53 = .ok (.iload_n 1, 1) := by decide +kernel
theorem dL_isSaved_54 : decode cL_isSaved 54 = .ok (.ifCond .ne 12, 3) := by decide +kernel
theorem dL_isSaved_57 : decode cL_isSaved 57 = .ok (.aload_n 0, 1) := by decide +kernel
theorem dL_isSaved_58 : decode cL_isSaved 58 = .ok (.bipush 13, 2) := by decide +kernel
theorem dL_isSaved_60 : decode cL_isSaved 60 = .ok (.invokevirtual 8, 3) := by decide +kernel
theorem dL_isSaved_63 : decode cL_isSaved 63 = .ok (.goto 10, 3) := by decide +kernel
theorem dL_isSaved_66 : decode cL_isSaved 66 = .ok (.aload_n 0, 1) := by decide +kernel
theorem dL_isSaved_67 : decode cL_isSaved 67 = .ok (.bipush 13, 2) := by decide +kernel
theorem dL_isSaved_69 : decode cL_isSaved 69 = .ok (.invokevirtual 8, 3) := by decide +kernel
theorem dL_isSaved_72 : decode cL_isSaved 72 = .ok (.ineg, 1) := by decide +kernel
theorem dL_isSaved_73 : decode cL_isSaved 73 = .ok (.istore 7, 2) := by decide +kernel
theorem dL_isSaved_75 : decode cL_isSaved 75 = .ok (.aload_n 0, 1) := by decide +kernel
theorem dL_isSaved_76 : decode cL_isSaved 76 = .ok (.iconst 3, 1) := by decide +kernel
theorem dL_isSaved_77 : decode cL_isSaved 77 = .ok (.invokevirtual 21, 3) := by decide +kernel
theorem dL_isSaved_80 : decode cL_isSaved 80 = .ok (.istore 8, 2) := by decide +kernel
theorem dL_isSaved_82 : decode cL_isSaved 82 = .ok (.aload_n 0, 1) := by decide +kernel
theorem dL_isSaved_83 : decode cL_isSaved 83 = .ok (.iload_n 1, 1) := by decide +kernel
theorem dL_isSaved_84 : decode cL_isSaved 84 = .ok (.invokevirtual 48, 3) := by decide +kernel
theorem dL_isSaved_87 : decode cL_isSaved 87 = .ok (.iload 6, 2) := by decide +kernel
theorem dL_isSaved_89 : decode cL_isSaved 89 = .ok (.iload 7, 2) := by decide +kernel
theorem dL_isSaved_91 : decode cL_isSaved 91 = .ok (.iadd, 1) := by decide +kernel
theorem dL_isSaved_92 : decode cL_isSaved 92 = .ok (.if_icmp .ne 27, 3) := by decide +kernel
theorem dL_isSaved_95 : decode cL_isSaved 95 = .ok (.aload_n 0, 1) := by decide +kernel
theorem dL_isSaved_96 : decode cL_isSaved 96 = .ok (.iconst 3, 1) := by decide +kernel
theorem dL_isSaved_97 : decode cL_isSaved 97 = .ok (.invokevirtual 21, 3) := by decide +kernel
theorem dL_isSaved_100 : decode cL_isSaved 100 = .ok (.iload 8, 2) := by decide +kernel
theorem dL_isSaved_102 : decode cL_isSaved 102 = .ok (.bipush 96, 2) := by decide +kernel
theorem dL_isSaved_104 : decode cL_isSaved 104 = .ok (.if_icmp .le 8, 3) := by decide +kernel
theorem dL_isSaved_107 : decode cL_isSaved 107 = .ok (.bipush 99, 2) := by decide +kernel
theorem dL_isSaved_109 : decode cL_isSaved 109 = .ok (.goto 7, 3) := by decide +kernel
theorem dL_isSaved_112 : decode cL_isSaved 112 = .ok (.iload 8, 2) := by decide +kernel
theorem dL_isSaved_114 : decode cL_isSaved 114 = .ok (.iconst 2, 1) := by decide +kernel
theorem dL_isSaved_115 : decode cL_isSaved 115 = .ok (.iadd, 1) := by decide +kernel
theorem dL_isSaved_116 : decode cL_isSaved 116 = .ok (.if_icmp .eq 5, 3) := by decide +kernel
theorem dL_isSaved_119 : decode cL_isSaved 119 = .ok (.iconst 0, 1) := by decide +kernel
theorem dL_isSaved_120 : decode cL_isSaved 120 = .ok (.ireturn, 1) := by decide +kernel
theorem dL_isSaved_121 : decode cL_isSaved 121 = .ok (.iinc 5 1, 3) := by decide +kernel
theorem dL_isSaved_124 : decode cL_isSaved 124 = .ok (.goto (-105), 3) := by decide +kernel
theorem dL_isSaved_127 : decode cL_isSaved 127 = .ok (.iload_n 2, 1) := by decide +kernel
theorem dL_isSaved_128 : decode cL_isSaved 128 = .ok (.iload_n 3, 1) := by decide +kernel
theorem dL_isSaved_129 : decode cL_isSaved 129 = .ok (.if_icmp .ne 17, 3) := by decide +kernel
theorem dL_isSaved_132 : decode cL_isSaved 132 = .ok (.aload_n 0, 1) := by decide +kernel
theorem dL_isSaved_133 : decode cL_isSaved 133 = .ok (.iconst 1, 1) := by decide +kernel
theorem dL_isSaved_134 : decode cL_isSaved 134 = .ok (.invokevirtual 42, 3) := by decide +kernel
theorem dL_isSaved_137 : decode cL_isSaved 137 = .ok (.iload 4, 2) := by decide +kernel
theorem dL_isSaved_139 : decode cL_isSaved 139 = .ok (.if_icmp .ne 7, 3) := by decide +kernel
theorem dL_isSaved_142 : decode cL_isSaved 142 = .ok (.iconst 1, 1) := by decide +kernel
theorem dL_isSaved_143 : decode cL_isSaved 143 = .ok (.goto 4, 3) := by decide +kernel
theorem dL_isSaved_146 : decode cL_isSaved 146 = .ok (.iconst 0, 1) := by decide +kernel
theorem dL_isSaved_147 : decode cL_isSaved 147 = .ok (.ireturn, 1) := by decide +kernel
theorem dL_isWidest_0 : decode cL_isWidest 0 = .ok (.aload_n 0, 1) := by decide +kernel
theorem dL_isWidest_1 : decode cL_isWidest 1 = .ok (.invokevirtual 51, 3) := by decide +kernel
theorem dL_isWidest_4 : decode cL_isWidest 4 = .ok (.istore_n 3, 1) := by decide +kernel
theorem dL_isWidest_5 : decode cL_isWidest 5 = .ok (.aload_n 0, 1) := by decide +kernel
theorem dL_isWidest_6 : decode cL_isWidest 6 = .ok (.iconst 0, 1) := by decide +kernel
theorem dL_isWidest_7 : decode cL_isWidest 7 = .ok (.invokevirtual 35, 3) := by decide +kernel
theorem dL_isWidest_10 : decode cL_isWidest 10 = .ok (.istore 4, 2) := by decide +kernel
theorem dL_isWidest_12 : decode cL_isWidest 12 = .ok (.aload_n 0, 1) := by decide +kernel
theorem dL_isWidest_13 : decode cL_isWidest 13 = .ok (.iconst 1, 1) := by decide +kernel
theorem dL_isWidest_14 : decode cL_isWidest 14 = .ok (.invokevirtual 8, 3) := by decide +kernel
theorem dL_isWidest_17 : decode cL_isWidest 17 = .ok (.istore 5, 2) := by decide +kernel
theorem dL_isWidest_19 : decode cL_isWidest 19 = .ok (.bipush (-6), 2) := by decide +kernel
theorem dL_isWidest_21 : decode cL_isWidest 21 = .ok (.istore 6, 2) := by decide +kernel
theorem dL_isWidest_23 : decode cL_isWidest 23 = .ok (.bipush 60, 2) := by decide +kernel
theorem dL_isWidest_25 : decode cL_isWidest 25 = .ok (.istore 7, 2) := by decide +kernel
theorem dL_isWidest_27 : decode cL_isWidest 27 = .ok (.iload 7, 2) := by decide +kernel
theorem dL_isWidest_29 : decode cL_isWidest 29 = .ok (.ifCond .le 49, 3) := by decide +kernel
theorem dL_isWidest_32 : decode cL_isWidest 32 = .ok (.iload 6, 2) := by decide +kernel
theorem dL_isWidest_34 : decode cL_isWidest 34 = .ok (.ifCond .ge 44, 3) := by decide +kernel
theorem dL_isWidest_37 : decode cL_isWidest 37 = .ok (.aload_n 0, 1) := by decide +kernel
theorem dL_isWidest_38 : decode cL_isWidest 38 = .ok (.iload 7, 2) := by decide +kernel
theorem dL_isWidest_40 : decode cL_isWidest 40 = .ok (.invokevirtual 55, 3) := by decide +kernel
theorem dL_isWidest_43 : decode cL_isWidest 43 = .ok (.istore 8, 2) := by decide +kernel
theorem dL_isWidest_45 : decode cL_isWidest 45 = .ok (.aload_n 0, 1) := by decide +kernel
theorem dL_isWidest_46 : decode cL_isWidest 46 = .ok (.iconst 0, 1) := by decide +kernel
theorem dL_isWidest_47 : decode cL_isWidest 47 = .ok (.invokevirtual 32, 3) := by decide +kernel
theorem dL_isWidest_50 : decode cL_isWidest 50 = .ok (.iconst 4, 1) := by decide +kernel
theorem dL_isWidest_51 : decode cL_isWidest 51 = .ok (.if_icmp .ne 8, 3) := by decide +kernel
theorem dL_isWidest_54 : decode cL_isWidest 54 = .ok (.iload 7, 2) := by decide +kernel
theorem dL_isWidest_56 : decode cL_isWidest 56 = .ok (.goto 5, 3) := by decide +kernel
theorem dL_isWidest_59 : decode cL_isWidest 59 = .ok (.iload 6, 2) := by decide +kernel
theorem dL_isWidest_61 : decode cL_isWidest 61 = .ok (.istore 6, 2) := by decide +kernel
theorem dL_isWidest_63 : decode cL_isWidest 63 = .ok (.iload 8, 2) := by decide +kernel
theorem dL_isWidest_65 : decode cL_isWidest 65 = .ok (.iload 5, 2) := by decide +kernel
theorem dL_isWidest_67 : decode cL_isWidest 67 = .ok (.if_icmp .ge 5, 3) := by decide +kernel
theorem dL_isWidest_70 : decode cL_isWidest 70 = .ok (.iconst 0, 1) := by decide +kernel
theorem dL_isWidest_71 : decode cL_isWidest 71 = .ok (.ireturn, 1) := by decide +kernel
theorem dL_isWidest_72 : decode cL_isWidest 72 = .ok (.iinc 7 (-1), 3) := by decide +kernel
theorem dL_isWidest_75 : decode cL_isWidest 75 = .ok (.goto (-48), 3) := by decide +kernel
theorem dL_isWidest_78 : decode cL_isWidest 78 = .ok (.aload_n 0, 1) := by decide +kernel
theorem dL_isWidest_79 : decode cL_isWidest 79 = .ok (.iload_n 2, 1) := by decide +kernel
theorem dL_isWidest_80 : decode cL_isWidest 80 = .ok (.invokevirtual 55, 3) := by decide +kernel
theorem dL_isWidest_83 : decode cL_isWidest 83 = .ok (.istore 7, 2) := by decide +kernel
theorem dL_isWidest_85 : decode cL_isWidest 85 = .ok (.iload 7, 2) := by decide +kernel
theorem dL_isWidest_87 : decode cL_isWidest 87 = .ok (.ifCond .le 7, 3) := by decide +kernel
theorem dL_isWidest_90 : decode cL_isWidest 90 = .ok (.iconst 1, 1) := by decide +kernel
theorem dL_isWidest_91 : decode cL_isWidest 91 = .ok (.goto 4, 3) := by decide +kernel
theorem dL_isWidest_94 : decode cL_isWidest 94 = .ok (.iconst 0, 1) := by decide +kernel
theorem dL_isWidest_95 : decode cL_isWidest 95 = .ok (.istore 8, 2) := by decide +kernel
theorem dL_isWidest_97 : decode cL_isWidest 97 = .ok (.iconst 0, 1) := by decide +kernel
theorem dL_isWidest_98 : decode cL_isWidest 98 = .ok (.istore 9, 2) := by decide +kernel
theorem dL_isWidest_100 : decode cL_isWidest 100 = .ok (.iload 9, 2) := by decide +kernel
theorem dL_isWidest_102 : decode cL_isWidest 102 = .ok (.iload 4, 2) := by decide +kernel
theorem dL_isWidest_104 : decode cL_isWidest 104 = .ok (.if_icmp .ge 175, 3) := by decide +kernel
theorem dL_isWidest_107 : decode cL_isWidest 107 = .ok (.iload 8, 2) := by decide +kernel
theorem dL_isWidest_109 : decode cL_isWidest 109 = .ok (.ifCond .eq 170, 3) := by decide +kernel
theorem dL_isWidest_112 : decode cL_isWidest 112 = .ok (.aload_n 0, 1) := by decide +kernel
theorem dL_isWidest_113 : decode cL_isWidest 113 = .ok (.iload_n 2, 1) := by decide +kernel
theorem dL_isWidest_114 : decode cL_isWidest 114 = .ok (.iload 9, 2) := by decide +kernel
theorem dL_isWidest_116 : decode cL_isWidest 116 = .ok (.iconst 0, 1) := by decide +kernel
theorem dL_isWidest_117 : decode cL_isWidest 117 = .ok (.invokevirtual 58, 3) := by decide +kernel
theorem dL_isWidest_120 : decode cL_isWidest 120 = .ok (.istore 10, 2) := by decide +kernel
theorem dL_isWidest_122 : decode cL_isWidest 122 = .ok (.aload_n 0, 1) := by decide +kernel
theorem dL_isWidest_123 : decode cL_isWidest 123 = .ok (.iload_n 2, 1) := by decide +kernel
theorem dL_isWidest_124 : decode cL_isWidest 124 = .ok (.iload 9, 2) := by decide +kernel
theorem dL_isWidest_126 : decode cL_isWidest 126 = .ok (.iconst 1, 1) := by decide +kernel
theorem dL_isWidest_127 : decode cL_isWidest 127 = .ok (.invokevirtual 58, 3) := by decide +kernel
theorem dL_isWidest_130 : decode cL_isWidest 130 = .ok (.istore 11, 2) := by decide +kernel
theorem dL_isWidest_132 : decode cL_isWidest 132 = .ok (.aload_n 0, 1) := by decide +kernel
theorem dL_isWidest_133 : decode cL_isWidest 133 = .ok (.iload_n 2, 1) := by decide +kernel
theorem dL_isWidest_134 : decode cL_isWidest 134 = .ok (.iload 9, 2) := by decide +kernel
theorem dL_isWidest_136 : decode cL_isWidest 136 = .ok (.iconst 2, 1) := by decide +kernel
theorem dL_isWidest_137 : decode cL_isWidest 137 = .ok (.invokevirtual 58, 3) := by decide +kernel
theorem dL_isWidest_140 : decode cL_isWidest 140 = .ok (.istore 12, 2) := by decide +kernel
theorem dL_isWidest_142 : decode cL_isWidest 142 = .ok (.aload_n 0, 1) := by decide +kernel
theorem dL_isWidest_143 : decode cL_isWidest 143 = .ok (.iconst 5, 1) := by decide +kernel
theorem dL_isWidest_144 : decode cL_isWidest 144 = .ok (.invokevirtual 21, 3) := by decide +kernel
theorem dL_isWidest_147 : decode cL_isWidest 147 = .ok (.ifCond .ne 11, 3) := by decide +kernel
theorem dL_isWidest_150 : decode cL_isWidest 150 = .ok (.aload_n 0, 1) := by decide +kernel
theorem dL_isWidest_151 : decode cL_isWidest 151 = .ok (.iconst 1, 1) := by decide +kernel
theorem dL_isWidest_152 : decode cL_isWidest 152 = .ok (.invokevirtual 29, 3) := by decide +kernel
theorem dL_isWidest_155 : decode cL_isWidest 155 = .ok (.goto 8, 3) := by decide +kernel
theorem dL_isWidest_158 : decode cL_isWidest 158 = .ok (.aload_n 0, 1) := by decide +kernel
theorem dL_isWidest_159 : decode cL_isWidest 159 = .ok (.iconst 5, 1) := by decide +kernel
theorem dL_isWidest_160 : decode cL_isWidest 160 = .ok (.invokevirtual 21, 3) := by decide +kernel
theorem dL_isWidest_163 : decode cL_isWidest 163 = .ok (.istore 13, 2) := by decide +kernel
theorem dL_isWidest_165 : decode cL_isWidest 165 = .ok (.iload 13, 2) := by decide +kernel
theorem dL_isWidest_167 : decode cL_isWidest 167 = .ok (.ifCond .eq 28, 3) := by decide +kernel
theorem dL_isWidest_170 : decode cL_isWidest 170 = .ok (.iload 13, 2) := by decide +kernel
theorem dL_isWidest_172 : decode cL_isWidest 172 = .ok (.iconst 4, 1) := by decide +kernel
theorem dL_isWidest_173 : decode cL_isWidest 173 = .ok (.if_icmp .ne 26, 3) := by decide +kernel
theorem dL_isWidest_176 : decode cL_isWidest 176 = .ok (.aload_n 0, 1) := by decide +kernel
theorem dL_isWidest_177 : decode cL_isWidest 177 = .ok (.iconst 4, 1) := by decide +kernel
theorem dL_isWidest_178 : decode cL_isWidest 178 = .ok (.invokevirtual 21, 3) := by decide +kernel
theorem dL_isWidest_181 : decode cL_isWidest 181 = .ok (.iload 4, 2) := by decide +kernel
theorem dL_isWidest_183 : decode cL_isWidest 183 = .ok (.if_icmp .ne 16, 3) := by decide +kernel
theorem dL_isWidest_186 : decode cL_isWidest 186 = .ok (.iload 9, 2) := by decide +kernel
theorem dL_isWidest_188 : decode cL_isWidest 188 = .ok (.iload 4, 2) := by decide +kernel
theorem dL_isWidest_190 : decode cL_isWidest 190 = .ok (.iconst 1, 1) := by decide +kernel
theorem dL_isWidest_191 : decode cL_isWidest 191 = .ok (.isub, 1) := by decide +kernel
theorem dL_isWidest_192 : decode cL_isWidest 192 = .ok (.if_icmp .ne 7, 3) := by decide +kernel
theorem dL_isWidest_195 : decode cL_isWidest 195 = .ok (.iconst 1, 1) := by decide +kernel
theorem dL_isWidest_196 : decode cL_isWidest 196 = .ok (.goto 4, 3) := by decide +kernel
theorem dL_isWidest_199 : decode cL_isWidest 199 = .ok (.iconst 0, 1) := by decide +kernel
theorem dL_isWidest_200 : decode cL_isWidest 200 = .ok (.istore 14, 2) := by decide +kernel
theorem dL_isWidest_202 : decode cL_isWidest 202 = .ok (.iload 14, 2) := by decide +kernel
theorem dL_isWidest_204 : decode cL_isWidest 204 = .ok (.ifCond .eq 41, 3) := by decide +kernel
theorem dL_isWidest_207 : decode cL_isWidest 207 = .ok (.iload 10, 2) := by decide +kernel
theorem dL_isWidest_209 : decode cL_isWidest 209 = .ok (.aload_n 0, 1) := by decide +kernel
theorem dL_isWidest_210 : decode cL_isWidest 210 = .ok (.iconst 1, 1) := by decide +kernel
theorem dL_isWidest_211 : decode cL_isWidest 211 = .ok (.invokevirtual 21, 3) := by decide +kernel
theorem dL_isWidest_214 : decode cL_isWidest 214 = .ok (.if_icmp .ne 27, 3) := by decide +kernel
theorem dL_isWidest_217 : decode cL_isWidest 217 = .ok (.iload 11, 2) := by decide +kernel
theorem dL_isWidest_219 : decode cL_isWidest 219 = .ok (.aload_n 0, 1) := by decide +kernel
theorem dL_isWidest_220 : decode cL_isWidest 220 = .ok (.iconst 2, 1) := by decide +kernel
theorem dL_isWidest_221 : decode cL_isWidest 221 = .ok (.invokevirtual 21, 3) := by decide +kernel
theorem dL_isWidest_224 : decode cL_isWidest 224 = .ok (.if_icmp .ne 17, 3) := by decide +kernel
theorem dL_isWidest_227 : decode cL_isWidest 227 = .ok (.iload 12, 2) := by decide +kernel
theorem dL_isWidest_229 : decode cL_isWidest 229 = .ok (.aload_n 0, 1) := by decide +kernel
theorem dL_isWidest_230 : decode cL_isWidest 230 = .ok (.iconst 3, 1) := by decide +kernel
theorem dL_isWidest_231 : decode cL_isWidest 231 = .ok (.invokevirtual 21, 3) := by decide +kernel
theorem dL_isWidest_234 : decode cL_isWidest 234 = .ok (.if_icmp .ne 7, 3) := by decide +kernel
theorem dL_isWidest_237 : decode cL_isWidest 237 = .ok (.iconst 1, 1) := by decide +kernel
theorem dL_isWidest_238 : decode cL_isWidest 238 = .ok (.goto 33, 3) := by decide +kernel
theorem dL_isWidest_241 : decode cL_isWidest 241 = .ok (.iconst 0, 1) := by decide +kernel
theorem dL_isWidest_242 : decode cL_isWidest 242 = .ok (.goto 29, 3) := by decide +kernel
theorem dL_isWidest_245 : decode cL_isWidest 245 = .ok (.iload 10, 2) := by decide +kernel
theorem dL_isWidest_247 : decode cL_isWidest 247 = .ok (.bipush (-6), 2) := by decide +kernel
theorem dL_isWidest_249 : decode cL_isWidest 249 = .ok (.if_icmp .ne 21, 3) := by decide +kernel
theorem dL_isWidest_252 : decode cL_isWidest 252 = .ok (.iload 11, 2) := by decide +kernel
theorem dL_isWidest_254 : decode cL_isWidest 254 = .ok (.bipush (-6), 2) := by decide +kernel
theorem dL_isWidest_256 : decode cL_isWidest 256 = .ok (.if_icmp .ne 14, 3) := by decide +kernel
theorem dL_isWidest_259 : decode cL_isWidest 259 = .ok (.iload 12, 2) := by decide +kernel
theorem dL_isWidest_261 : decode cL_isWidest 261 = .ok (.bipush (-6), 2) := by decide +kernel
theorem dL_isWidest_263 : decode cL_isWidest 263 = .ok (.if_icmp .ne 7, 3) := by decide +kernel
theorem dL_isWidest_266 : decode cL_isWidest 266 = .ok (.iconst 1, 1) := by decide +kernel
theorem dL_isWidest_267 : decode cL_isWidest 267 = .ok (.goto 4, 3) := by decide +kernel
theorem dL_isWidest_270 : decode cL_isWidest 270 = .ok (.iconst 0, 1) := by decide +kernel
theorem dL_isWidest_271 : decode cL_isWidest 271 = .ok (.istore 8, 2) := by decide +kernel
theorem dL_isWidest_273 : decode cL_isWidest 273 = .ok (.iinc 9 1, 3) := by decide +kernel
theorem dL_isWidest_276 : decode cL_isWidest 276 = .ok (.goto (-176), 3) := by decide +kernel
theorem dL_isWidest_279 : decode cL_isWidest 279 = .ok (.iload 8, 2) := by decide +kernel
theorem dL_isWidest_281 : decode cL_isWidest 281 = .ok (.ifCond .eq 33, 3) := by decide +kernel
theorem dL_isWidest_284 : decode cL_isWidest 284 = .ok (.iload_n 3, 1) := by decide +kernel
theorem dL_isWidest_285 : decode cL_isWidest 285 = .ok (.iload 6, 2) := by decide +kernel
theorem dL_isWidest_287 : decode cL_isWidest 287 = .ok (.if_icmp .ne 27, 3) := by decide +kernel
theorem dL_isWidest_290 : decode cL_isWidest 290 = .ok (.aload_n 0, 1) := by decide +kernel
theorem dL_isWidest_291 : decode cL_isWidest 291 = .ok (.iconst 0, 1) := by decide +kernel
theorem dL_isWidest_292 : decode cL_isWidest 292 = .ok (.invokevirtual 42, 3) := by decide +kernel
theorem dL_isWidest_295 : decode cL_isWidest 295 = .ok (.iload 4, 2) := by decide +kernel
theorem dL_isWidest_297 : decode cL_isWidest 297 = .ok (.if_icmp .ne 17, 3) := by decide +kernel
theorem dL_isWidest_300 : decode cL_isWidest 300 = .ok (.aload_n 0, 1) := by decide +kernel
theorem dL_isWidest_301 : decode cL_isWidest 301 = .ok (.iconst 1, 1) := by decide +kernel
theorem dL_isWidest_302 : decode cL_isWidest 302 = .ok (.invokevirtual 8, 3) := by decide +kernel
theorem dL_isWidest_305 : decode cL_isWidest 305 = .ok (.iload 5, 2) := by decide +kernel
theorem dL_isWidest_307 : decode cL_isWidest 307 = .ok (.if_icmp .ne 7, 3) := by decide +kernel
theorem dL_isWidest_310 : decode cL_isWidest 310 = .ok (.iconst 1, 1) := by decide +kernel
theorem dL_isWidest_311 : decode cL_isWidest 311 = .ok (.goto 4, 3) := by decide +kernel
theorem dL_isWidest_314 : decode cL_isWidest 314 = .ok (.iconst 0, 1) := by decide +kernel
theorem dL_isWidest_315 : decode cL_isWidest 315 = .ok (.ireturn, 1) := by decide +kernel
theorem dL_does_0 : decode cL_does 0 = .ok (.aload_n 0, 1) := by decide +kernel
theorem dL_does_1 : decode cL_does 1 = .ok (.iconst 0, 1) := by decide +kernel
theorem dL_does_2 : decode cL_does 2 = .ok (.invokevirtual 8, 3) := by decide +kernel
theorem dL_does_5 : decode cL_does 5 = .ok (.istore 4, 2) := by decide +kernel
theorem dL_does_7 : decode cL_does 7 = .ok (.aload_n 0, 1) := by decide +kernel
theorem dL_does_8 : decode cL_does 8 = .ok (.iconst 5, 1) := by decide +kernel
theorem dL_does_9 : decode cL_does 9 = .ok (.invokevirtual 21, 3) := by decide +kernel
theorem dL_does_12 : decode cL_does 12 = .ok (.ifCond .ne 7, 3) := by decide +kernel
theorem dL_does_15 : decode cL_does 15 = .ok (.iconst 1, 1) := by decide +kernel
theorem dL_does_16 : decode cL_does 16 = .ok (.goto 4, 3) := by decide +kernel
theorem dL_does_19 : decode cL_does 19 = .ok (.iconst 0, 1) := by decide +kernel
theorem dL_does_20 : decode cL_does 20 = .ok (.istore 5, 2) := by decide +kernel
theorem dL_does_22 : decode cL_does 22 = .ok (.iload_n 2, 1) := by decide +kernel
theorem dL_does_23 : decode cL_does 23 = .ok (.bipush 20, 2) := by decide +kernel
theorem dL_does_25 : decode cL_does 25 = .ok (.invokestatic 62, 3) := by decide +kernel
theorem dL_does_28 : decode cL_does 28 = .ok (.tableswitch 741 0 15 #[80, 80, 80, 80, 235, 299, 299, 299, 406, 452, 452, 545, 651, 672, 702, 702], 80) := by decide +kernel
theorem dL_does_108 : decode cL_does 108 = .ok (.iload_n 3, 1) := by decide +kernel
theorem dL_does_109 : decode cL_does 109 = .ok (.iload 4, 2) := by decide +kernel
theorem dL_does_111 : decode cL_does 111 = .ok (.iconst 1, 1) := by decide +kernel
theorem dL_does_112 : decode cL_does 112 = .ok (.iadd, 1) := by decide +kernel
theorem dL_does_113 : decode cL_does 113 = .ok (.invokestatic 62, 3) := by decide +kernel
theorem dL_does_116 : decode cL_does 116 = .ok (.istore 6, 2) := by decide +kernel
theorem dL_does_118 : decode cL_does 118 = .ok (.iload_n 3, 1) := by decide +kernel
theorem dL_does_119 : decode cL_does 119 = .ok (.iconst 5, 1) := by decide +kernel
theorem dL_does_120 : decode cL_does 120 = .ok (.ishr, 1) := by decide +kernel
theorem dL_does_121 : decode cL_does 121 = .ok (.iconst 3, 1) := by decide +kernel
theorem dL_does_122 : decode cL_does 122 = .ok (.invokestatic 62, 3) := by decide +kernel
theorem dL_does_125 : decode cL_does 125 = .ok (.istore 7, 2) := by decide +kernel
theorem dL_does_127 : decode cL_does 127 = .ok (.iload 7, 2) := by decide +kernel
theorem dL_does_129 : decode cL_does 129 = .ok (.iconst 2, 1) := by decide +kernel
theorem dL_does_130 : decode cL_does 130 = .ok (.if_icmp .ne 18, 3) := by decide +kernel
theorem dL_does_133 : decode cL_does 133 = .ok (.bipush 20, 2) := by decide +kernel
theorem dL_does_135 : decode cL_does 135 = .ok (.iload_n 3, 1) := by decide +kernel
theorem dL_does_136 : decode cL_does 136 = .ok (.bipush 7, 2) := by decide +kernel
theorem dL_does_138 : decode cL_does 138 = .ok (.ishr, 1) := by decide +kernel
theorem dL_does_139 : decode cL_does 139 = .ok (.bipush 60, 2) := by decide +kernel
theorem dL_does_141 : decode cL_does 141 = .ok (.invokestatic 62, 3) := by decide +kernel
theorem dL_does_144 : decode cL_does 144 = .ok (.iadd, 1) := by decide +kernel
theorem dL_does_145 : decode cL_does 145 = .ok (.goto 23, 3) := by decide +kernel
theorem dL_does_148 : decode cL_does 148 = .ok (.iconst 1, 1) := by decide +kernel
theorem dL_does_149 : decode cL_does 149 = .ok (.iload_n 3, 1) := by decide +kernel
theorem dL_does_150 : decode cL_does 150 = .ok (.bipush 7, 2) := by decide +kernel
theorem dL_does_152 : decode cL_does 152 = .ok (.ishr, 1) := by decide +kernel
theorem dL_does_153 : decode cL_does 153 = .ok (.iload 7, 2) := by decide +kernel
theorem dL_does_155 : decode cL_does 155 = .ok (.ifCond .ne 7, 3) := by decide +kernel
theorem dL_does_158 : decode cL_does 158 = .ok (.iconst 4, 1) := by decide +kernel
theorem dL_does_159 : decode cL_does 159 = .ok (.goto 5, 3) := by decide +kernel
theorem dL_does_162 : decode cL_does 162 = .ok (.bipush 9, 2) := by decide +kernel
theorem dL_does_164 : decode cL_does 164 = .ok (.invokestatic 62, 3) := by decide +kernel
theorem dL_does_167 : decode cL_does 167 = .ok (.iadd, 1) := by decide +kernel
theorem dL_does_168 : decode cL_does 168 = .ok (.istore 8, 2) := by decide +kernel
theorem dL_does_170 : decode cL_does 170 = .ok (.aload_n 0, 1) := by decide +kernel
theorem dL_does_171 : decode cL_does 171 = .ok (.iload 6, 2) := by decide +kernel
theorem dL_does_173 : decode cL_does 173 = .ok (.iload 7, 2) := by decide +kernel
theorem dL_does_175 : decode cL_does 175 = .ok (.iload 8, 2) := by decide +kernel
theorem dL_does_177 : decode cL_does 177 = .ok (.invokevirtual 65, 3) := by decide +kernel
theorem dL_does_180 : decode cL_does 180 = .ok (.istore 9, 2) := by decide +kernel
theorem dL_does_182 : decode cL_does 182 = .ok (.iload 4, 2) := by decide +kernel
theorem dL_does_184 : decode cL_does 184 = .ok (.bipush 20, 2) := by decide +kernel
theorem dL_does_186 : decode cL_does 186 = .ok (.if_icmp .ne 18, 3) := by decide +kernel
theorem dL_does_189 : decode cL_does 189 = .ok (.iload 9, 2) := by decide +kernel
theorem dL_does_191 : decode cL_does 191 = .ok (.bipush (-4), 2) := by decide +kernel
theorem dL_does_193 : decode cL_does 193 = .ok (.if_icmp .ne 7, 3) := by decide +kernel
theorem dL_does_196 : decode cL_does 196 = .ok (.iconst 1, 1) := by decide +kernel
theorem dL_does_197 : decode cL_does 197 = .ok (.goto 65, 3) := by decide +kernel
theorem dL_does_200 : decode cL_does 200 = .ok (.iconst 0, 1) := by decide +kernel
theorem dL_does_201 : decode cL_does 201 = .ok (.goto 61, 3) := by decide +kernel
theorem dL_does_204 : decode cL_does 204 = .ok (.iload 9, 2) := by decide +kernel
theorem dL_does_206 : decode cL_does 206 = .ok (.iload 4, 2) := by decide +kernel
theorem dL_does_208 : decode cL_does 208 = .ok (.iconst 1, 1) := by decide +kernel
theorem dL_does_209 : decode cL_does 209 = .ok (.iadd, 1) := by decide +kernel
theorem dL_does_210 : decode cL_does 210 = .ok (.if_icmp .ne 51, 3) := by decide +kernel
theorem dL_does_213 : decode cL_does 213 = .ok (.aload_n 0, 1) := by decide +kernel
theorem dL_does_214 : decode cL_does 214 = .ok (.iload 6, 2) := by decide +kernel
theorem dL_does_216 : decode cL_does 216 = .ok (.iconst 0, 1) := by decide +kernel
theorem dL_does_217 : decode cL_does 217 = .ok (.invokevirtual 14, 3) := by decide +kernel
theorem dL_does_220 : decode cL_does 220 = .ok (.iload 7, 2) := by decide +kernel
theorem dL_does_222 : decode cL_does 222 = .ok (.if_icmp .ne 39, 3) := by decide +kernel
theorem dL_does_225 : decode cL_does 225 = .ok (.aload_n 0, 1) := by decide +kernel
theorem dL_does_226 : decode cL_does 226 = .ok (.iload 6, 2) := by decide +kernel
theorem dL_does_228 : decode cL_does 228 = .ok (.iconst 1, 1) := by decide +kernel
theorem dL_does_229 : decode cL_does 229 = .ok (.invokevirtual 14, 3) := by decide +kernel
theorem dL_does_232 : decode cL_does 232 = .ok (.iload 8, 2) := by decide +kernel
theorem dL_does_234 : decode cL_does 234 = .ok (.if_icmp .ne 27, 3) := by decide +kernel
theorem dL_does_237 : decode cL_does 237 = .ok (.aload_n 0, 1) := by decide +kernel
theorem dL_does_238 : decode cL_does 238 = .ok (.iload 6, 2) := by decide +kernel
theorem dL_does_240 : decode cL_does 240 = .ok (.iconst 2, 1) := by decide +kernel
theorem dL_does_241 : decode cL_does 241 = .ok (.invokevirtual 14, 3) := by decide +kernel
theorem dL_does_244 : decode cL_does 244 = .ok (.ifCond .ne 17, 3) := by decide +kernel
theorem dL_does_247 : decode cL_does 247 = .ok (.aload_n 0, 1) := by decide +kernel
theorem dL_does_248 : decode cL_does 248 = .ok (.iconst 0, 1) := by decide +kernel
theorem dL_does_249 : decode cL_does 249 = .ok (.invokevirtual 21, 3) := by decide +kernel
theorem dL_does_252 : decode cL_does 252 = .ok (.bipush (-6), 2) := by decide +kernel
theorem dL_does_254 : decode cL_does 254 = .ok (.if_icmp .ne 7, 3) := by decide +kernel
theorem dL_does_257 : decode cL_does 257 = .ok (.iconst 1, 1) := by decide +kernel
theorem dL_does_258 : decode cL_does 258 = .ok (.goto 4, 3) := by decide +kernel
theorem dL_does_261 : decode cL_does 261 = .ok (.iconst 0, 1) := by decide +kernel
theorem dL_does_262 : decode cL_does 262 = .ok (.ireturn, 1) := by decide +kernel
theorem dL_does_263 : decode cL_does 263 = .ok (.iload_n 3, 1) := by decide +kernel
theorem dL_does_264 : decode cL_does 264 = .ok (.bipush 21, 2) := by decide +kernel
theorem dL_does_266 : decode cL_does 266 = .ok (.invokestatic 62, 3) := by decide +kernel
theorem dL_does_269 : decode cL_does 269 = .ok (.istore 10, 2) := by decide +kernel
theorem dL_does_271 : decode cL_does 271 = .ok (.iload_n 3, 1) := by decide +kernel
theorem dL_does_272 : decode cL_does 272 = .ok (.bipush 8, 2) := by decide +kernel
theorem dL_does_274 : decode cL_does 274 = .ok (.ishr, 1) := by decide +kernel
theorem dL_does_275 : decode cL_does 275 = .ok (.iconst 1, 1) := by decide +kernel
theorem dL_does_276 : decode cL_does 276 = .ok (.iand, 1) := by decide +kernel
theorem dL_does_277 : decode cL_does 277 = .ok (.ifCond .eq 44, 3) := by decide +kernel
theorem dL_does_280 : decode cL_does 280 = .ok (.aload_n 0, 1) := by decide +kernel
theorem dL_does_281 : decode cL_does 281 = .ok (.iload 10, 2) := by decide +kernel
theorem dL_does_283 : decode cL_does 283 = .ok (.invokevirtual 68, 3) := by decide +kernel
theorem dL_does_286 : decode cL_does 286 = .ok (.iload 10, 2) := by decide +kernel
theorem dL_does_288 : decode cL_does 288 = .ok (.iload 4, 2) := by decide +kernel
theorem dL_does_290 : decode cL_does 290 = .ok (.if_icmp .ge 10, 3) := by decide +kernel
theorem dL_does_293 : decode cL_does 293 = .ok (.iload 4, 2) := by decide +kernel
theorem dL_does_295 : decode cL_does 295 = .ok (.iconst 1, 1) := by decide +kernel
theorem dL_does_296 : decode cL_does 296 = .ok (.isub, 1) := by decide +kernel
theorem dL_does_297 : decode cL_does 297 = .ok (.goto 4, 3) := by decide +kernel
theorem dL_does_300 : decode cL_does 300 = .ok (.iconst (-1), 1) := by decide +kernel
theorem dL_does_301 : decode cL_does 301 = .ok (.if_icmp .ne 24, 3) := by decide +kernel
theorem dL_does_304 : decode cL_does 304 = .ok (.iload 10, 2) := by decide +kernel
theorem dL_does_306 : decode cL_does 306 = .ok (.iload 4, 2) := by decide +kernel
theorem dL_does_308 : decode cL_does 308 = .ok (.if_icmp .ge 13, 3) := by decide +kernel
theorem dL_does_311 : decode cL_does 311 = .ok (.aload_n 0, 1) := by decide +kernel
theorem dL_does_312 : decode cL_does 312 = .ok (.iconst 5, 1) := by decide +kernel
theorem dL_does_313 : decode cL_does 313 = .ok (.invokevirtual 21, 3) := by decide +kernel
theorem dL_does_316 : decode cL_does 316 = .ok (.bipush (-6), 2) := by decide +kernel
theorem dL_does_318 : decode cL_does 318 = .ok (.if_icmp .ne 7, 3) := by decide +kernel
theorem dL_does_321 : decode cL_does 321 = .ok (.iconst 1, 1) := by decide +kernel
theorem dL_does_322 : decode cL_does 322 = .ok (.goto 4, 3) := by decide +kernel
theorem dL_does_325 : decode cL_does 325 = .ok (.iconst 0, 1) := by decide +kernel
theorem dL_does_326 : decode cL_does 326 = .ok (.ireturn, 1) := by decide +kernel
theorem dL_does_327 : decode cL_does 327 = .ok (.aload_n 0, 1) := by decide +kernel
theorem dL_does_328 : decode cL_does 328 = .ok (.iconst 1, 1) := by decide +kernel
theorem dL_does_329 : decode cL_does 329 = .ok (.invokevirtual 8, 3) := by decide +kernel
theorem dL_does_332 : decode cL_does 332 = .ok (.istore 11, 2) := by decide +kernel
theorem dL_does_334 : decode cL_does 334 = .ok (.iconst 1, 1) := by decide +kernel
theorem dL_does_335 : decode cL_does 335 = .ok (.iload_n 3, 1) := by decide +kernel
theorem dL_does_336 : decode cL_does 336 = .ok (.bipush 60, 2) := by decide +kernel
theorem dL_does_338 : decode cL_does 338 = .ok (.invokestatic 62, 3) := by decide +kernel
theorem dL_does_341 : decode cL_does 341 = .ok (.iadd, 1) := by decide +kernel
theorem dL_does_342 : decode cL_does 342 = .ok (.istore 12, 2) := by decide +kernel
theorem dL_does_344 : decode cL_does 344 = .ok (.aload_n 0, 1) := by decide +kernel
theorem dL_does_345 : decode cL_does 345 = .ok (.iload 12, 2) := by decide +kernel
theorem dL_does_347 : decode cL_does 347 = .ok (.invokevirtual 55, 3) := by decide +kernel
theorem dL_does_350 : decode cL_does 350 = .ok (.iload 11, 2) := by decide +kernel
theorem dL_does_352 : decode cL_does 352 = .ok (.iconst 1, 1) := by decide +kernel
theorem dL_does_353 : decode cL_does 353 = .ok (.iadd, 1) := by decide +kernel
theorem dL_does_354 : decode cL_does 354 = .ok (.if_icmp .ne 78, 3) := by decide +kernel
theorem dL_does_357 : decode cL_does 357 = .ok (.aload_n 0, 1) := by decide +kernel
theorem dL_does_358 : decode cL_does 358 = .ok (.iconst 0, 1) := by decide +kernel
theorem dL_does_359 : decode cL_does 359 = .ok (.invokevirtual 21, 3) := by decide +kernel
theorem dL_does_362 : decode cL_does 362 = .ok (.iload 12, 2) := by decide +kernel
theorem dL_does_364 : decode cL_does 364 = .ok (.if_icmp .ne 68, 3) := by decide +kernel
theorem dL_does_367 : decode cL_does 367 = .ok (.aload_n 0, 1) := by decide +kernel
theorem dL_does_368 : decode cL_does 368 = .ok (.iconst 1, 1) := by decide +kernel
theorem dL_does_369 : decode cL_does 369 = .ok (.invokevirtual 21, 3) := by decide +kernel
theorem dL_does_372 : decode cL_does 372 = .ok (.bipush 10, 2) := by decide +kernel
theorem dL_does_374 : decode cL_does 374 = .ok (.if_icmp .ne 58, 3) := by decide +kernel
theorem dL_does_377 : decode cL_does 377 = .ok (.aload_n 0, 1) := by decide +kernel
theorem dL_does_378 : decode cL_does 378 = .ok (.iconst 2, 1) := by decide +kernel
theorem dL_does_379 : decode cL_does 379 = .ok (.invokevirtual 21, 3) := by decide +kernel
theorem dL_does_382 : decode cL_does 382 = .ok (.sipush 500, 3) := by decide +kernel
theorem dL_does_385 : decode cL_does 385 = .ok (.if_icmp .ne 47, 3) := by decide +kernel
theorem dL_does_388 : decode cL_does 388 = .ok (.aload_n 0, 1) := by decide +kernel
theorem dL_does_389 : decode cL_does 389 = .ok (.iconst 3, 1) := by decide +kernel
theorem dL_does_390 : decode cL_does 390 = .ok (.invokevirtual 21, 3) := by decide +kernel
theorem dL_does_393 : decode cL_does 393 = .ok (.ifCond .ne 39, 3) := by decide +kernel
theorem dL_does_396 : decode cL_does 396 = .ok (.aload_n 0, 1) := by decide +kernel
theorem dL_does_397 : decode cL_does 397 = .ok (.iconst 4, 1) := by decide +kernel
theorem dL_does_398 : decode cL_does 398 = .ok (.invokevirtual 21, 3) := by decide +kernel
theorem dL_does_401 : decode cL_does 401 = .ok (.ifCond .ne 31, 3) := by decide +kernel
theorem dL_does_404 : decode cL_does 404 = .ok (.aload_n 0, 1) := by decide +kernel
theorem dL_does_405 : decode cL_does 405 = .ok (.iconst 5, 1) := by decide +kernel
theorem dL_does_406 : decode cL_does 406 = .ok (.invokevirtual 21, 3) := by decide +kernel
theorem dL_does_409 : decode cL_does 409 = .ok (.ifCond .ne 23, 3) := by decide +kernel
theorem dL_does_412 : decode cL_does 412 = .ok (.aload_n 0, 1) := by decide +kernel
theorem dL_does_413 : decode cL_does 413 = .ok (.bipush 6, 2) := by decide +kernel
theorem dL_does_415 : decode cL_does 415 = .ok (.invokevirtual 21, 3) := by decide +kernel
theorem dL_does_418 : decode cL_does 418 = .ok (.aload_n 0, 1) := by decide +kernel
theorem dL_does_419 : decode cL_does 419 = .ok (.bipush 7, 2) := by decide +kernel
theorem dL_does_421 : decode cL_does 421 = .ok (.invokevirtual 21, 3) := by decide +kernel
theorem dL_does_424 : decode cL_does 424 = .ok (.iadd, 1) := by decide +kernel
theorem dL_does_425 : decode cL_does 425 = .ok (.ifCond .ne 7, 3) := by decide +kernel
theorem dL_does_428 : decode cL_does 428 = .ok (.iconst 1, 1) := by decide +kernel
theorem dL_does_429 : decode cL_does 429 = .ok (.goto 4, 3) := by decide +kernel
theorem dL_does_432 : decode cL_does 432 = .ok (.iconst 0, 1) := by decide +kernel
theorem dL_does_433 : decode cL_does 433 = .ok (.ireturn, 1) := by decide +kernel
theorem dL_does_434 : decode cL_does 434 = .ok (.aload_n 0, 1) := by decide +kernel
theorem dL_does_435 : decode cL_does 435 = .ok (.iconst 1, 1) := by decide +kernel
theorem dL_does_436 : decode cL_does 436 = .ok (.invokevirtual 21, 3) := by decide +kernel
theorem dL_does_439 : decode cL_does 439 = .ok (.istore 13, 2) := by decide +kernel
theorem dL_does_441 : decode cL_does 441 = .ok (.aload_n 0, 1) := by decide +kernel
theorem dL_does_442 : decode cL_does 442 = .ok (.invokevirtual 71, 3) := by decide +kernel
theorem dL_does_445 : decode cL_does 445 = .ok (.iload 5, 2) := by decide +kernel
theorem dL_does_447 : decode cL_does 447 = .ok (.ifCond .ne 8, 3) := by decide +kernel
theorem dL_does_450 : decode cL_does 450 = .ok (.bipush (-5), 2) := by decide +kernel
theorem dL_does_452 : decode cL_does 452 = .ok (.goto 19, 3) := by decide +kernel
theorem dL_does_455 : decode cL_does 455 = .ok (.iload 13, 2) := by decide +kernel
theorem dL_does_457 : decode cL_does 457 = .ok (.bipush 94, 2) := by decide +kernel
theorem dL_does_459 : decode cL_does 459 = .ok (.if_icmp .le 8, 3) := by decide +kernel
theorem dL_does_462 : decode cL_does 462 = .ok (.bipush 99, 2) := by decide +kernel
theorem dL_does_464 : decode cL_does 464 = .ok (.goto 7, 3) := by decide +kernel
theorem dL_does_467 : decode cL_does 467 = .ok (.iload 13, 2) := by decide +kernel
theorem dL_does_469 : decode cL_does 469 = .ok (.iconst 5, 1) := by decide +kernel
theorem dL_does_470 : decode cL_does 470 = .ok (.iadd, 1) := by decide +kernel
theorem dL_does_471 : decode cL_does 471 = .ok (.if_icmp .ne 7, 3) := by decide +kernel
theorem dL_does_474 : decode cL_does 474 = .ok (.iconst 1, 1) := by decide +kernel
theorem dL_does_475 : decode cL_does 475 = .ok (.goto 4, 3) := by decide +kernel
theorem dL_does_478 : decode cL_does 478 = .ok (.iconst 0, 1) := by decide +kernel
theorem dL_does_479 : decode cL_does 479 = .ok (.ireturn, 1) := by decide +kernel
theorem dL_does_480 : decode cL_does 480 = .ok (.aload_n 0, 1) := by decide +kernel
theorem dL_does_481 : decode cL_does 481 = .ok (.iconst 2, 1) := by decide +kernel
theorem dL_does_482 : decode cL_does 482 = .ok (.invokevirtual 21, 3) := by decide +kernel
theorem dL_does_485 : decode cL_does 485 = .ok (.istore 14, 2) := by decide +kernel
theorem dL_does_487 : decode cL_does 487 = .ok (.aload_n 0, 1) := by decide +kernel
theorem dL_does_488 : decode cL_does 488 = .ok (.bipush 9, 2) := by decide +kernel
theorem dL_does_490 : decode cL_does 490 = .ok (.invokevirtual 8, 3) := by decide +kernel
theorem dL_does_493 : decode cL_does 493 = .ok (.istore 15, 2) := by decide +kernel
theorem dL_does_495 : decode cL_does 495 = .ok (.iload_n 3, 1) := by decide +kernel
theorem dL_does_496 : decode cL_does 496 = .ok (.iconst 1, 1) := by decide +kernel
theorem dL_does_497 : decode cL_does 497 = .ok (.iand, 1) := by decide +kernel
theorem dL_does_498 : decode cL_does 498 = .ok (.ifCond .ne 12, 3) := by decide +kernel
theorem dL_does_501 : decode cL_does 501 = .ok (.aload_n 0, 1) := by decide +kernel
theorem dL_does_502 : decode cL_does 502 = .ok (.bipush 13, 2) := by decide +kernel
theorem dL_does_504 : decode cL_does 504 = .ok (.invokevirtual 8, 3) := by decide +kernel
theorem dL_does_507 : decode cL_does 507 = .ok (.goto 10, 3) := by decide +kernel
theorem dL_does_510 : decode cL_does 510 = .ok (.aload_n 0, 1) := by decide +kernel
theorem dL_does_511 : decode cL_does 511 = .ok (.bipush 13, 2) := by decide +kernel
theorem dL_does_513 : decode cL_does 513 = .ok (.invokevirtual 8, 3) := by decide +kernel
theorem dL_does_516 : decode cL_does 516 = .ok (.ineg, 1) := by decide +kernel
theorem dL_does_517 : decode cL_does 517 = .ok (.istore 16, 2) := by decide +kernel
theorem dL_does_519 : decode cL_does 519 = .ok (.aload_n 0, 1) := by decide +kernel
theorem dL_does_520 : decode cL_does 520 = .ok (.iload_n 3, 1) := by decide +kernel
theorem dL_does_521 : decode cL_does 521 = .ok (.iconst 1, 1) := by decide +kernel
theorem dL_does_522 : decode cL_does 522 = .ok (.iand, 1) := by decide +kernel
theorem dL_does_523 : decode cL_does 523 = .ok (.invokevirtual 48, 3) := by decide +kernel
theorem dL_does_526 : decode cL_does 526 = .ok (.iload 5, 2) := by decide +kernel
theorem dL_does_528 : decode cL_does 528 = .ok (.ifCond .eq 11, 3) := by decide +kernel
theorem dL_does_531 : decode cL_does 531 = .ok (.iload 14, 2) := by decide +kernel
theorem dL_does_533 : decode cL_does 533 = .ok (.iload 16, 2) := by decide +kernel
theorem dL_does_535 : decode cL_does 535 = .ok (.iadd, 1) := by decide +kernel
theorem dL_does_536 : decode cL_does 536 = .ok (.goto 5, 3) := by decide +kernel
theorem dL_does_539 : decode cL_does 539 = .ok (.bipush (-5), 2) := by decide +kernel
theorem dL_does_541 : decode cL_does 541 = .ok (.if_icmp .ne 30, 3) := by decide +kernel
theorem dL_does_544 : decode cL_does 544 = .ok (.aload_n 0, 1) := by decide +kernel
theorem dL_does_545 : decode cL_does 545 = .ok (.bipush 9, 2) := by decide +kernel
theorem dL_does_547 : decode cL_does 547 = .ok (.invokevirtual 8, 3) := by decide +kernel
theorem dL_does_550 : decode cL_does 550 = .ok (.iload 5, 2) := by decide +kernel
theorem dL_does_552 : decode cL_does 552 = .ok (.ifCond .eq 10, 3) := by decide +kernel
theorem dL_does_555 : decode cL_does 555 = .ok (.iload 15, 2) := by decide +kernel
theorem dL_does_557 : decode cL_does 557 = .ok (.iconst 1, 1) := by decide +kernel
theorem dL_does_558 : decode cL_does 558 = .ok (.iadd, 1) := by decide +kernel
theorem dL_does_559 : decode cL_does 559 = .ok (.goto 5, 3) := by decide +kernel
theorem dL_does_562 : decode cL_does 562 = .ok (.iload 15, 2) := by decide +kernel
theorem dL_does_564 : decode cL_does 564 = .ok (.if_icmp .ne 7, 3) := by decide +kernel
theorem dL_does_567 : decode cL_does 567 = .ok (.iconst 1, 1) := by decide +kernel
theorem dL_does_568 : decode cL_does 568 = .ok (.goto 4, 3) := by decide +kernel
theorem dL_does_571 : decode cL_does 571 = .ok (.iconst 0, 1) := by decide +kernel
theorem dL_does_572 : decode cL_does 572 = .ok (.ireturn, 1) := by decide +kernel
theorem dL_does_573 : decode cL_does 573 = .ok (.iload_n 2, 1) := by decide +kernel
theorem dL_does_574 : decode cL_does 574 = .ok (.iconst 5, 1) := by decide +kernel
theorem dL_does_575 : decode cL_does 575 = .ok (.ishr, 1) := by decide +kernel
theorem dL_does_576 : decode cL_does 576 = .ok (.iconst 4, 1) := by decide +kernel
theorem dL_does_577 : decode cL_does 577 = .ok (.invokestatic 62, 3) := by decide +kernel
theorem dL_does_580 : decode cL_does 580 = .ok (.istore 17, 2) := by decide +kernel
theorem dL_does_582 : decode cL_does 582 = .ok (.iload 17, 2) := by decide +kernel
theorem dL_does_584 : decode cL_does 584 = .ok (.ifCond .ne 15, 3) := by decide +kernel
theorem dL_does_587 : decode cL_does 587 = .ok (.bipush 10, 2) := by decide +kernel
theorem dL_does_589 : decode cL_does 589 = .ok (.iload_n 3, 1) := by decide +kernel
theorem dL_does_590 : decode cL_does 590 = .ok (.bipush 90, 2) := by decide +kernel
theorem dL_does_592 : decode cL_does 592 = .ok (.invokestatic 62, 3) := by decide +kernel
theorem dL_does_595 : decode cL_does 595 = .ok (.iadd, 1) := by decide +kernel
theorem dL_does_596 : decode cL_does 596 = .ok (.goto 37, 3) := by decide +kernel
theorem dL_does_599 : decode cL_does 599 = .ok (.iload 17, 2) := by decide +kernel
theorem dL_does_601 : decode cL_does 601 = .ok (.iconst 3, 1) := by decide +kernel
theorem dL_does_602 : decode cL_does 602 = .ok (.if_icmp .ne 14, 3) := by decide +kernel
theorem dL_does_605 : decode cL_does 605 = .ok (.iconst 1, 1) := by decide +kernel
theorem dL_does_606 : decode cL_does 606 = .ok (.iload_n 3, 1) := by decide +kernel
theorem dL_does_607 : decode cL_does 607 = .ok (.bipush 30, 2) := by decide +kernel
theorem dL_does_609 : decode cL_does 609 = .ok (.invokestatic 62, 3) := by decide +kernel
theorem dL_does_612 : decode cL_does 612 = .ok (.iadd, 1) := by decide +kernel
theorem dL_does_613 : decode cL_does 613 = .ok (.goto 20, 3) := by decide +kernel
theorem dL_does_616 : decode cL_does 616 = .ok (.iload_n 3, 1) := by decide +kernel
theorem dL_does_617 : decode cL_does 617 = .ok (.iload 17, 2) := by decide +kernel
theorem dL_does_619 : decode cL_does 619 = .ok (.iconst 1, 1) := by decide +kernel
theorem dL_does_620 : decode cL_does 620 = .ok (.if_icmp .ne 8, 3) := by decide +kernel
theorem dL_does_623 : decode cL_does 623 = .ok (.bipush 10, 2) := by decide +kernel
theorem dL_does_625 : decode cL_does 625 = .ok (.goto 5, 3) := by decide +kernel
theorem dL_does_628 : decode cL_does 628 = .ok (.bipush 6, 2) := by decide +kernel
theorem dL_does_630 : decode cL_does 630 = .ok (.invokestatic 62, 3) := by decide +kernel
theorem dL_does_633 : decode cL_does 633 = .ok (.istore 18, 2) := by decide +kernel
theorem dL_does_635 : decode cL_does 635 = .ok (.aload_n 0, 1) := by decide +kernel
theorem dL_does_636 : decode cL_does 636 = .ok (.bipush 10, 2) := by decide +kernel
theorem dL_does_638 : decode cL_does 638 = .ok (.iload 17, 2) := by decide +kernel
theorem dL_does_640 : decode cL_does 640 = .ok (.iadd, 1) := by decide +kernel
theorem dL_does_641 : decode cL_does 641 = .ok (.invokevirtual 8, 3) := by decide +kernel
theorem dL_does_644 : decode cL_does 644 = .ok (.istore 19, 2) := by decide +kernel
theorem dL_does_646 : decode cL_does 646 = .ok (.aload_n 0, 1) := by decide +kernel
theorem dL_does_647 : decode cL_does 647 = .ok (.iload 17, 2) := by decide +kernel
theorem dL_does_649 : decode cL_does 649 = .ok (.iload 18, 2) := by decide +kernel
theorem dL_does_651 : decode cL_does 651 = .ok (.invokevirtual 74, 3) := by decide +kernel
theorem dL_does_654 : decode cL_does 654 = .ok (.iload 19, 2) := by decide +kernel
theorem dL_does_656 : decode cL_does 656 = .ok (.if_icmp .ne 21, 3) := by decide +kernel
theorem dL_does_659 : decode cL_does 659 = .ok (.aload_n 0, 1) := by decide +kernel
theorem dL_does_660 : decode cL_does 660 = .ok (.bipush 10, 2) := by decide +kernel
theorem dL_does_662 : decode cL_does 662 = .ok (.iload 17, 2) := by decide +kernel
theorem dL_does_664 : decode cL_does 664 = .ok (.iadd, 1) := by decide +kernel
theorem dL_does_665 : decode cL_does 665 = .ok (.invokevirtual 8, 3) := by decide +kernel
theorem dL_does_668 : decode cL_does 668 = .ok (.iload 18, 2) := by decide +kernel
theorem dL_does_670 : decode cL_does 670 = .ok (.if_icmp .ne 7, 3) := by decide +kernel
theorem dL_does_673 : decode cL_does 673 = .ok (.iconst 1, 1) := by decide +kernel
theorem dL_does_674 : decode cL_does 674 = .ok (.goto 4, 3) := by decide +kernel
theorem dL_does_677 : decode cL_does 677 = .ok (.iconst 0, 1) := by decide +kernel
theorem dL_does_678 : decode cL_does 678 = .ok (.ireturn, 1) := by decide +kernel
theorem dL_does_679 : decode cL_does 679 = .ok (.iload 5, 2) := by decide +kernel
theorem dL_does_681 : decode cL_does 681 = .ok (.ifCond .eq 13, 3) := by decide +kernel
theorem dL_does_684 : decode cL_does 684 = .ok (.aload_n 0, 1) := by decide +kernel
theorem dL_does_685 : decode cL_does 685 = .ok (.iload_n 3, 1) := by decide +kernel
theorem dL_does_686 : decode cL_does 686 = .ok (.iconst 1, 1) := by decide +kernel
theorem dL_does_687 : decode cL_does 687 = .ok (.iand, 1) := by decide +kernel
theorem dL_does_688 : decode cL_does 688 = .ok (.invokestatic 77, 3) := by decide +kernel
theorem dL_does_691 : decode cL_does 691 = .ok (.ifCond .eq 7, 3) := by decide +kernel
theorem dL_does_694 : decode cL_does 694 = .ok (.iconst 1, 1) := by decide +kernel
theorem dL_does_695 : decode cL_does 695 = .ok (.goto 4, 3) := by decide +kernel
theorem dL_does_698 : decode cL_does 698 = .ok (.iconst 0, 1) := by decide +kernel
theorem dL_does_699 : decode cL_does 699 = .ok (.ireturn, 1) := by decide +kernel
theorem dL_does_700 : decode cL_does 700 = .ok (.iload_n 2, 1) := by decide +kernel
theorem dL_does_701 : decode cL_does 701 = .ok (.iconst 5, 1) := by decide +kernel
theorem dL_does_702 : decode cL_does 702 = .ok (.ishr, 1) := by decide +kernel
theorem dL_does_703 : decode cL_does 703 = .ok (.iconst 1, 1) := by decide +kernel
theorem dL_does_704 : decode cL_does 704 = .ok (.iand, 1) := by decide +kernel
theorem dL_does_705 : decode cL_does 705 = .ok (.ifCond .eq 19, 3) := by decide +kernel
theorem dL_does_708 : decode cL_does 708 = .ok (.aload_n 0, 1) := by decide +kernel
theorem dL_does_709 : decode cL_does 709 = .ok (.aload_n 1, 1) := by decide +kernel
theorem dL_does_710 : decode cL_does 710 = .ok (.iconst 1, 1) := by decide +kernel
theorem dL_does_711 : decode cL_does 711 = .ok (.iload_n 3, 1) := by decide +kernel
theorem dL_does_712 : decode cL_does 712 = .ok (.bipush 60, 2) := by decide +kernel
theorem dL_does_714 : decode cL_does 714 = .ok (.invokestatic 62, 3) := by decide +kernel
theorem dL_does_717 : decode cL_does 717 = .ok (.iadd, 1) := by decide +kernel
theorem dL_does_718 : decode cL_does 718 = .ok (.invokestatic 81, 3) := by decide +kernel
theorem dL_does_721 : decode cL_does 721 = .ok (.ifCond .eq 7, 3) := by decide +kernel
theorem dL_does_724 : decode cL_does 724 = .ok (.iconst 1, 1) := by decide +kernel
theorem dL_does_725 : decode cL_does 725 = .ok (.goto 4, 3) := by decide +kernel
theorem dL_does_728 : decode cL_does 728 = .ok (.iconst 0, 1) := by decide +kernel
theorem dL_does_729 : decode cL_does 729 = .ok (.ireturn, 1) := by decide +kernel
theorem dL_does_730 : decode cL_does 730 = .ok (.iload 5, 2) := by decide +kernel
theorem dL_does_732 : decode cL_does 732 = .ok (.ifCond .eq 11, 3) := by decide +kernel
theorem dL_does_735 : decode cL_does 735 = .ok (.aload_n 0, 1) := by decide +kernel
theorem dL_does_736 : decode cL_does 736 = .ok (.aload_n 1, 1) := by decide +kernel
theorem dL_does_737 : decode cL_does 737 = .ok (.invokestatic 85, 3) := by decide +kernel
theorem dL_does_740 : decode cL_does 740 = .ok (.goto 28, 3) := by decide +kernel
theorem dL_does_743 : decode cL_does 743 = .ok (.aload_n 0, 1) := by decide +kernel
theorem dL_does_744 : decode cL_does 744 = .ok (.iconst 0, 1) := by decide +kernel
theorem dL_does_745 : decode cL_does 745 = .ok (.invokevirtual 32, 3) := by decide +kernel
theorem dL_does_748 : decode cL_does 748 = .ok (.bipush (-5), 2) := by decide +kernel
theorem dL_does_750 : decode cL_does 750 = .ok (.if_icmp .ne 17, 3) := by decide +kernel
theorem dL_does_753 : decode cL_does 753 = .ok (.aload_n 0, 1) := by decide +kernel
theorem dL_does_754 : decode cL_does 754 = .ok (.iconst 0, 1) := by decide +kernel
theorem dL_does_755 : decode cL_does 755 = .ok (.invokevirtual 45, 3) := by decide +kernel
theorem dL_does_758 : decode cL_does 758 = .ok (.bipush (-5), 2) := by decide +kernel
theorem dL_does_760 : decode cL_does 760 = .ok (.if_icmp .ne 7, 3) := by decide +kernel
theorem dL_does_763 : decode cL_does 763 = .ok (.iconst 1, 1) := by decide +kernel
theorem dL_does_764 : decode cL_does 764 = .ok (.goto 4, 3) := by decide +kernel
theorem dL_does_767 : decode cL_does 767 = .ok (.iconst 0, 1) := by decide +kernel
theorem dL_does_768 : decode cL_does 768 = .ok (.ireturn, 1) := by decide +kernel
theorem dL_does_769 : decode cL_does 769 = .ok (.iload 5, 2) := by decide +kernel
theorem dL_does_771 : decode cL_does 771 = .ok (.ifCond .eq 21, 3) := by decide +kernel
theorem dL_does_774 : decode cL_does 774 = .ok (.aload_n 0, 1) := by decide +kernel
theorem dL_does_775 : decode cL_does 775 = .ok (.iconst 4, 1) := by decide +kernel
theorem dL_does_776 : decode cL_does 776 = .ok (.invokevirtual 21, 3) := by decide +kernel
theorem dL_does_779 : decode cL_does 779 = .ok (.iload 4, 2) := by decide +kernel
theorem dL_does_781 : decode cL_does 781 = .ok (.if_icmp .eq 11, 3) := by decide +kernel
theorem dL_does_784 : decode cL_does 784 = .ok (.aload_n 0, 1) := by decide +kernel
theorem dL_does_785 : decode cL_does 785 = .ok (.aload_n 1, 1) := by decide +kernel
theorem dL_does_786 : decode cL_does 786 = .ok (.invokestatic 38, 3) := by decide +kernel
theorem dL_does_789 : decode cL_does 789 = .ok (.ifCond .eq 7, 3) := by decide +kernel
theorem dL_does_792 : decode cL_does 792 = .ok (.iconst 1, 1) := by decide +kernel
theorem dL_does_793 : decode cL_does 793 = .ok (.goto 4, 3) := by decide +kernel
theorem dL_does_796 : decode cL_does 796 = .ok (.iconst 0, 1) := by decide +kernel
theorem dL_does_797 : decode cL_does 797 = .ok (.ireturn, 1) := by decide +kernel
theorem dL_law_0 : decode cL_law 0 = .ok (.new 9, 3) := by decide +kernel
theorem dL_law_3 : decode cL_law 3 = .ok (.dup, 1) := by decide +kernel
theorem dL_law_4 : decode cL_law 4 = .ok (.invokespecial 88, 3) := by decide +kernel
theorem dL_law_7 : decode cL_law 7 = .ok (.astore_n 1, 1) := by decide +kernel
theorem dL_law_8 : decode cL_law 8 = .ok (.bipush 8, 2) := by decide +kernel
theorem dL_law_10 : decode cL_law 10 = .ok (.newarray .int, 2) := by decide +kernel
theorem dL_law_12 : decode cL_law 12 = .ok (.astore_n 2, 1) := by decide +kernel
theorem dL_law_13 : decode cL_law 13 = .ok (.aload_n 1, 1) := by decide +kernel
theorem dL_law_14 : decode cL_law 14 = .ok (.invokestatic 89, 3) := by decide +kernel
theorem dL_law_17 : decode cL_law 17 = .ok (.ifCond .eq 42, 3) := by decide +kernel
theorem dL_law_20 : decode cL_law 20 = .ok (.aload_n 1, 1) := by decide +kernel
theorem dL_law_21 : decode cL_law 21 = .ok (.iconst 0, 1) := by decide +kernel
theorem dL_law_22 : decode cL_law 22 = .ok (.invokevirtual 21, 3) := by decide +kernel
theorem dL_law_25 : decode cL_law 25 = .ok (.bipush (-6), 2) := by decide +kernel
theorem dL_law_27 : decode cL_law 27 = .ok (.if_icmp .ne 32, 3) := by decide +kernel
theorem dL_law_30 : decode cL_law 30 = .ok (.aload_n 1, 1) := by decide +kernel
theorem dL_law_31 : decode cL_law 31 = .ok (.iconst 1, 1) := by decide +kernel
theorem dL_law_32 : decode cL_law 32 = .ok (.invokevirtual 29, 3) := by decide +kernel
theorem dL_law_35 : decode cL_law 35 = .ok (.bipush (-5), 2) := by decide +kernel
theorem dL_law_37 : decode cL_law 37 = .ok (.if_icmp .ne 22, 3) := by decide +kernel
theorem dL_law_40 : decode cL_law 40 = .ok (.aload_n 1, 1) := by decide +kernel
theorem dL_law_41 : decode cL_law 41 = .ok (.iconst 0, 1) := by decide +kernel
theorem dL_law_42 : decode cL_law 42 = .ok (.invokevirtual 48, 3) := by decide +kernel
theorem dL_law_45 : decode cL_law 45 = .ok (.bipush (-5), 2) := by decide +kernel
theorem dL_law_47 : decode cL_law 47 = .ok (.if_icmp .ne 12, 3) := by decide +kernel
theorem dL_law_50 : decode cL_law 50 = .ok (.aload_n 1, 1) := by decide +kernel
theorem dL_law_51 : decode cL_law 51 = .ok (.invokevirtual 93, 3) := by decide +kernel
theorem dL_law_54 : decode cL_law 54 = .ok (.bipush (-5), 2) := by decide +kernel
theorem dL_law_56 : decode cL_law 56 = .ok (.if_icmp .eq 5, 3) := by decide +kernel
theorem dL_law_59 : decode cL_law 59 = .ok (.iconst 0, 1) := by decide +kernel
theorem dL_law_60 : decode cL_law 60 = .ok (.ireturn, 1) := by decide +kernel
theorem dL_law_61 : decode cL_law 61 = .ok (.iconst 0, 1) := by decide +kernel
theorem dL_law_62 : decode cL_law 62 = .ok (.istore_n 3, 1) := by decide +kernel
theorem dL_law_63 : decode cL_law 63 = .ok (.iload_n 3, 1) := by decide +kernel
theorem dL_law_64 : decode cL_law 64 = .ok (.bipush 110, 2) := by decide +kernel
theorem dL_law_66 : decode cL_law 66 = .ok (.if_icmp .ge 42, 3) := by decide +kernel
theorem dL_law_69 : decode cL_law 69 = .ok (.aload_n 1, 1) := by decide +kernel
theorem dL_law_70 : decode cL_law 70 = .ok (.aload_n 2, 1) := by decide +kernel
theorem dL_law_71 : decode cL_law 71 = .ok (.aload_n 0, 1) := by decide +kernel
theorem dL_law_72 : decode cL_law 72 = .ok (.iconst 2, 1) := by decide +kernel
theorem dL_law_73 : decode cL_law 73 = .ok (.iload_n 3, 1) := by decide +kernel
theorem dL_law_74 : decode cL_law 74 = .ok (.imul, 1) := by decide +kernel
theorem dL_law_75 : decode cL_law 75 = .ok (.invokestatic 96, 3) := by decide +kernel
theorem dL_law_78 : decode cL_law 78 = .ok (.aload_n 0, 1) := by decide +kernel
theorem dL_law_79 : decode cL_law 79 = .ok (.iconst 2, 1) := by decide +kernel
theorem dL_law_80 : decode cL_law 80 = .ok (.iload_n 3, 1) := by decide +kernel
theorem dL_law_81 : decode cL_law 81 = .ok (.imul, 1) := by decide +kernel
theorem dL_law_82 : decode cL_law 82 = .ok (.iconst 1, 1) := by decide +kernel
theorem dL_law_83 : decode cL_law 83 = .ok (.iadd, 1) := by decide +kernel
theorem dL_law_84 : decode cL_law 84 = .ok (.invokestatic 96, 3) := by decide +kernel
theorem dL_law_87 : decode cL_law 87 = .ok (.invokestatic 100, 3) := by decide +kernel
theorem dL_law_90 : decode cL_law 90 = .ok (.ifCond .eq 10, 3) := by decide +kernel
theorem dL_law_93 : decode cL_law 93 = .ok (.aload_n 1, 1) := by decide +kernel
