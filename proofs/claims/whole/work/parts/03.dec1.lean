theorem dX9_borrow_71 : decode cX9_borrow 71 = .ok (.getfield 103, 3) := by decide +kernel
theorem dX9_borrow_74 : decode cX9_borrow 74 = .ok (.ireturn, 1) := by decide +kernel
theorem dX9_breakTie_0 : decode cX9_breakTie 0 = .ok (.iload_n 1, 1) := by decide +kernel
theorem dX9_breakTie_1 : decode cX9_breakTie 1 = .ok (.invokestatic 142, 3) := by decide +kernel
theorem dX9_breakTie_4 : decode cX9_breakTie 4 = .ok (.ifCond .ne 6, 3) := by decide +kernel
theorem dX9_breakTie_7 : decode cX9_breakTie 7 = .ok (.bipush (-2), 2) := by decide +kernel
theorem dX9_breakTie_9 : decode cX9_breakTie 9 = .ok (.ireturn, 1) := by decide +kernel
theorem dX9_breakTie_10 : decode cX9_breakTie 10 = .ok (.aload_n 0, 1) := by decide +kernel
theorem dX9_breakTie_11 : decode cX9_breakTie 11 = .ok (.invokevirtual 145, 3) := by decide +kernel
theorem dX9_breakTie_14 : decode cX9_breakTie 14 = .ok (.ifCond .eq 14, 3) := by decide +kernel
theorem dX9_breakTie_17 : decode cX9_breakTie 17 = .ok (.aload_n 0, 1) := by decide +kernel
theorem dX9_breakTie_18 : decode cX9_breakTie 18 = .ok (.getfield 19, 3) := by decide +kernel
theorem dX9_breakTie_21 : decode cX9_breakTie 21 = .ok (.getfield 97, 3) := by decide +kernel
theorem dX9_breakTie_24 : decode cX9_breakTie 24 = .ok (.iload_n 1, 1) := by decide +kernel
theorem dX9_breakTie_25 : decode cX9_breakTie 25 = .ok (.if_icmp .ne 6, 3) := by decide +kernel
theorem dX9_breakTie_28 : decode cX9_breakTie 28 = .ok (.bipush (-3), 2) := by decide +kernel
theorem dX9_breakTie_30 : decode cX9_breakTie 30 = .ok (.ireturn, 1) := by decide +kernel
theorem dX9_breakTie_31 : decode cX9_breakTie 31 = .ok (.aload_n 0, 1) := by decide +kernel
theorem dX9_breakTie_32 : decode cX9_breakTie 32 = .ok (.getfield 29, 3) := by decide +kernel
theorem dX9_breakTie_35 : decode cX9_breakTie 35 = .ok (.aload_n 0, 1) := by decide +kernel
theorem dX9_breakTie_36 : decode cX9_breakTie 36 = .ok (.getfield 19, 3) := by decide +kernel
theorem dX9_breakTie_39 : decode cX9_breakTie 39 = .ok (.invokevirtual 131, 3) := by decide +kernel
theorem dX9_breakTie_42 : decode cX9_breakTie 42 = .ok (.aload_n 0, 1) := by decide +kernel
theorem dX9_breakTie_43 : decode cX9_breakTie 43 = .ok (.getfield 19, 3) := by decide +kernel
theorem dX9_breakTie_46 : decode cX9_breakTie 46 = .ok (.getfield 97, 3) := by decide +kernel
theorem dX9_breakTie_49 : decode cX9_breakTie 49 = .ok (.istore_n 2, 1) := by decide +kernel
theorem dX9_breakTie_50 : decode cX9_breakTie 50 = .ok (.aload_n 0, 1) := by decide +kernel
theorem dX9_breakTie_51 : decode cX9_breakTie 51 = .ok (.getfield 19, 3) := by decide +kernel
theorem dX9_breakTie_54 : decode cX9_breakTie 54 = .ok (.iload_n 1, 1) := by decide +kernel
theorem dX9_breakTie_55 : decode cX9_breakTie 55 = .ok (.putfield 97, 3) := by decide +kernel
theorem dX9_breakTie_58 : decode cX9_breakTie 58 = .ok (.iload_n 2, 1) := by decide +kernel
theorem dX9_breakTie_59 : decode cX9_breakTie 59 = .ok (.ireturn, 1) := by decide +kernel
theorem dX9_tens_0 : decode cX9_tens 0 = .ok (.aload_n 0, 1) := by decide +kernel
theorem dX9_tens_1 : decode cX9_tens 1 = .ok (.getfield 29, 3) := by decide +kernel
theorem dX9_tens_4 : decode cX9_tens 4 = .ok (.aload_n 0, 1) := by decide +kernel
theorem dX9_tens_5 : decode cX9_tens 5 = .ok (.getfield 19, 3) := by decide +kernel
theorem dX9_tens_8 : decode cX9_tens 8 = .ok (.invokevirtual 131, 3) := by decide +kernel
theorem dX9_tens_11 : decode cX9_tens 11 = .ok (.aload_n 0, 1) := by decide +kernel
theorem dX9_tens_12 : decode cX9_tens 12 = .ok (.getfield 19, 3) := by decide +kernel
theorem dX9_tens_15 : decode cX9_tens 15 = .ok (.invokevirtual 149, 3) := by decide +kernel
theorem dX9_tens_18 : decode cX9_tens 18 = .ok (.aload_n 0, 1) := by decide +kernel
theorem dX9_tens_19 : decode cX9_tens 19 = .ok (.getfield 19, 3) := by decide +kernel
theorem dX9_tens_22 : decode cX9_tens 22 = .ok (.getfield 106, 3) := by decide +kernel
theorem dX9_tens_25 : decode cX9_tens 25 = .ok (.ireturn, 1) := by decide +kernel
theorem dX9_undo_0 : decode cX9_undo 0 = .ok (.aload_n 0, 1) := by decide +kernel
theorem dX9_undo_1 : decode cX9_undo 1 = .ok (.getfield 29, 3) := by decide +kernel
theorem dX9_undo_4 : decode cX9_undo 4 = .ok (.aload_n 0, 1) := by decide +kernel
theorem dX9_undo_5 : decode cX9_undo 5 = .ok (.getfield 19, 3) := by decide +kernel
theorem dX9_undo_8 : decode cX9_undo 8 = .ok (.invokevirtual 152, 3) := by decide +kernel
theorem dX9_undo_11 : decode cX9_undo 11 = .ok (.ifCond .eq 13, 3) := by decide +kernel
theorem dX9_undo_14 : decode cX9_undo 14 = .ok (.aload_n 0, 1) := by decide +kernel
theorem dX9_undo_15 : decode cX9_undo 15 = .ok (.getfield 29, 3) := by decide +kernel
theorem dX9_undo_18 : decode cX9_undo 18 = .ok (.getfield 109, 3) := by decide +kernel
theorem dX9_undo_21 : decode cX9_undo 21 = .ok (.goto 5, 3) := by decide +kernel
theorem dX9_undo_24 : decode cX9_undo 24 = .ok (.bipush (-3), 2) := by decide +kernel
theorem dX9_undo_26 : decode cX9_undo 26 = .ok (.ireturn, 1) := by decide +kernel
theorem dX9_heir_0 : decode cX9_heir 0 = .ok (.aload_n 0, 1) := by decide +kernel
theorem dX9_heir_1 : decode cX9_heir 1 = .ok (.getfield 19, 3) := by decide +kernel
theorem dX9_heir_4 : decode cX9_heir 4 = .ok (.iload_n 1, 1) := by decide +kernel
theorem dX9_heir_5 : decode cX9_heir 5 = .ok (.invokevirtual 112, 3) := by decide +kernel
theorem dX9_heir_8 : decode cX9_heir 8 = .ok (.ifCond .ne 5, 3) := by decide +kernel
theorem dX9_heir_11 : decode cX9_heir 11 = .ok (.iconst (-1), 1) := by decide +kernel
theorem dX9_heir_12 : decode cX9_heir 12 = .ok (.ireturn, 1) := by decide +kernel
theorem dX9_heir_13 : decode cX9_heir 13 = .ok (.iload_n 2, 1) := by decide +kernel
theorem dX9_heir_14 : decode cX9_heir 14 = .ok (.invokestatic 142, 3) := by decide +kernel
theorem dX9_heir_17 : decode cX9_heir 17 = .ok (.ifCond .ne 6, 3) := by decide +kernel
theorem dX9_heir_20 : decode cX9_heir 20 = .ok (.bipush (-2), 2) := by decide +kernel
theorem dX9_heir_22 : decode cX9_heir 22 = .ok (.ireturn, 1) := by decide +kernel
theorem dX9_heir_23 : decode cX9_heir 23 = .ok (.aload_n 0, 1) := by decide +kernel
theorem dX9_heir_24 : decode cX9_heir 24 = .ok (.getfield 44, 3) := by decide +kernel
theorem dX9_heir_27 : decode cX9_heir 27 = .ok (.aload_n 0, 1) := by decide +kernel
theorem dX9_heir_28 : decode cX9_heir 28 = .ok (.getfield 19, 3) := by decide +kernel
theorem dX9_heir_31 : decode cX9_heir 31 = .ok (.iload_n 1, 1) := by decide +kernel
theorem dX9_heir_32 : decode cX9_heir 32 = .ok (.iload_n 2, 1) := by decide +kernel
theorem dX9_heir_33 : decode cX9_heir 33 = .ok (.invokevirtual 156, 3) := by decide +kernel
theorem dX9_heir_36 : decode cX9_heir 36 = .ok (.aload_n 0, 1) := by decide +kernel
theorem dX9_heir_37 : decode cX9_heir 37 = .ok (.getfield 44, 3) := by decide +kernel
theorem dX9_heir_40 : decode cX9_heir 40 = .ok (.aload_n 0, 1) := by decide +kernel
theorem dX9_heir_41 : decode cX9_heir 41 = .ok (.getfield 19, 3) := by decide +kernel
theorem dX9_heir_44 : decode cX9_heir 44 = .ok (.getfield 91, 3) := by decide +kernel
theorem dX9_heir_47 : decode cX9_heir 47 = .ok (.invokevirtual 160, 3) := by decide +kernel
theorem dX9_heir_50 : decode cX9_heir 50 = .ok (.ireturn, 1) := by decide +kernel
theorem dX9_line_0 : decode cX9_line 0 = .ok (.aload_n 0, 1) := by decide +kernel
theorem dX9_line_1 : decode cX9_line 1 = .ok (.getfield 19, 3) := by decide +kernel
theorem dX9_line_4 : decode cX9_line 4 = .ok (.iload_n 1, 1) := by decide +kernel
theorem dX9_line_5 : decode cX9_line 5 = .ok (.invokevirtual 112, 3) := by decide +kernel
theorem dX9_line_8 : decode cX9_line 8 = .ok (.ifCond .eq 14, 3) := by decide +kernel
theorem dX9_line_11 : decode cX9_line 11 = .ok (.aload_n 0, 1) := by decide +kernel
theorem dX9_line_12 : decode cX9_line 12 = .ok (.getfield 19, 3) := by decide +kernel
theorem dX9_line_15 : decode cX9_line 15 = .ok (.iload_n 2, 1) := by decide +kernel
theorem dX9_line_16 : decode cX9_line 16 = .ok (.invokevirtual 112, 3) := by decide +kernel
theorem dX9_line_19 : decode cX9_line 19 = .ok (.ifCond .ne 5, 3) := by decide +kernel
theorem dX9_line_22 : decode cX9_line 22 = .ok (.iconst (-1), 1) := by decide +kernel
theorem dX9_line_23 : decode cX9_line 23 = .ok (.ireturn, 1) := by decide +kernel
theorem dX9_line_24 : decode cX9_line 24 = .ok (.iload_n 3, 1) := by decide +kernel
theorem dX9_line_25 : decode cX9_line 25 = .ok (.invokestatic 142, 3) := by decide +kernel
theorem dX9_line_28 : decode cX9_line 28 = .ok (.ifCond .ne 6, 3) := by decide +kernel
theorem dX9_line_31 : decode cX9_line 31 = .ok (.bipush (-2), 2) := by decide +kernel
theorem dX9_line_33 : decode cX9_line 33 = .ok (.ireturn, 1) := by decide +kernel
theorem dX9_line_34 : decode cX9_line 34 = .ok (.aload_n 0, 1) := by decide +kernel
theorem dX9_line_35 : decode cX9_line 35 = .ok (.getfield 44, 3) := by decide +kernel
theorem dX9_line_38 : decode cX9_line 38 = .ok (.aload_n 0, 1) := by decide +kernel
theorem dX9_line_39 : decode cX9_line 39 = .ok (.getfield 19, 3) := by decide +kernel
theorem dX9_line_42 : decode cX9_line 42 = .ok (.iload_n 1, 1) := by decide +kernel
theorem dX9_line_43 : decode cX9_line 43 = .ok (.iload_n 3, 1) := by decide +kernel
theorem dX9_line_44 : decode cX9_line 44 = .ok (.invokevirtual 163, 3) := by decide +kernel
theorem dX9_line_47 : decode cX9_line 47 = .ok (.aload_n 0, 1) := by decide +kernel
theorem dX9_line_48 : decode cX9_line 48 = .ok (.getfield 44, 3) := by decide +kernel
theorem dX9_line_51 : decode cX9_line 51 = .ok (.iload_n 2, 1) := by decide +kernel
theorem dX9_line_52 : decode cX9_line 52 = .ok (.invokevirtual 166, 3) := by decide +kernel
theorem dX9_line_55 : decode cX9_line 55 = .ok (.ireturn, 1) := by decide +kernel
theorem dX9_next_0 : decode cX9_next 0 = .ok (.iload_n 1, 1) := by decide +kernel
theorem dX9_next_1 : decode cX9_next 1 = .ok (.invokestatic 142, 3) := by decide +kernel
theorem dX9_next_4 : decode cX9_next 4 = .ok (.ifCond .ne 6, 3) := by decide +kernel
theorem dX9_next_7 : decode cX9_next 7 = .ok (.bipush (-2), 2) := by decide +kernel
theorem dX9_next_9 : decode cX9_next 9 = .ok (.ireturn, 1) := by decide +kernel
theorem dX9_next_10 : decode cX9_next 10 = .ok (.aload_n 0, 1) := by decide +kernel
theorem dX9_next_11 : decode cX9_next 11 = .ok (.getfield 23, 3) := by decide +kernel
theorem dX9_next_14 : decode cX9_next 14 = .ok (.aload_n 0, 1) := by decide +kernel
theorem dX9_next_15 : decode cX9_next 15 = .ok (.getfield 19, 3) := by decide +kernel
theorem dX9_next_18 : decode cX9_next 18 = .ok (.invokevirtual 169, 3) := by decide +kernel
theorem dX9_next_21 : decode cX9_next 21 = .ok (.aload_n 0, 1) := by decide +kernel
theorem dX9_next_22 : decode cX9_next 22 = .ok (.getfield 23, 3) := by decide +kernel
theorem dX9_next_25 : decode cX9_next 25 = .ok (.iload_n 1, 1) := by decide +kernel
theorem dX9_next_26 : decode cX9_next 26 = .ok (.putfield 97, 3) := by decide +kernel
theorem dX9_next_29 : decode cX9_next 29 = .ok (.iconst 0, 1) := by decide +kernel
theorem dX9_next_30 : decode cX9_next 30 = .ok (.istore_n 2, 1) := by decide +kernel
theorem dX9_next_31 : decode cX9_next 31 = .ok (.iconst 0, 1) := by decide +kernel
theorem dX9_next_32 : decode cX9_next 32 = .ok (.istore_n 3, 1) := by decide +kernel
theorem dX9_next_33 : decode cX9_next 33 = .ok (.iload_n 3, 1) := by decide +kernel
theorem dX9_next_34 : decode cX9_next 34 = .ok (.bipush 7, 2) := by decide +kernel
theorem dX9_next_36 : decode cX9_next 36 = .ok (.if_icmp .ge 54, 3) := by decide +kernel
theorem dX9_next_39 : decode cX9_next 39 = .ok (.aload_n 0, 1) := by decide +kernel
theorem dX9_next_40 : decode cX9_next 40 = .ok (.getfield 23, 3) := by decide +kernel
theorem dX9_next_43 : decode cX9_next 43 = .ok (.getfield 94, 3) := by decide +kernel
theorem dX9_next_46 : decode cX9_next 46 = .ok (.bipush (-9), 2) := by decide +kernel
theorem dX9_next_48 : decode cX9_next 48 = .ok (.if_icmp .eq 42, 3) := by decide +kernel
theorem dX9_next_51 : decode cX9_next 51 = .ok (.iload_n 2, 1) := by decide +kernel
theorem dX9_next_52 : decode cX9_next 52 = .ok (.bipush 10, 2) := by decide +kernel
theorem dX9_next_54 : decode cX9_next 54 = .ok (.imul, 1) := by decide +kernel
theorem dX9_next_55 : decode cX9_next 55 = .ok (.aload_n 0, 1) := by decide +kernel
theorem dX9_next_56 : decode cX9_next 56 = .ok (.getfield 23, 3) := by decide +kernel
theorem dX9_next_59 : decode cX9_next 59 = .ok (.getfield 94, 3) := by decide +kernel
theorem dX9_next_62 : decode cX9_next 62 = .ok (.iadd, 1) := by decide +kernel
theorem dX9_next_63 : decode cX9_next 63 = .ok (.iconst 1, 1) := by decide +kernel
theorem dX9_next_64 : decode cX9_next 64 = .ok (.iadd, 1) := by decide +kernel
theorem dX9_next_65 : decode cX9_next 65 = .ok (.istore_n 2, 1) := by decide +kernel
theorem dX9_next_66 : decode cX9_next 66 = .ok (.aload_n 0, 1) := by decide +kernel
theorem dX9_next_67 : decode cX9_next 67 = .ok (.getfield 23, 3) := by decide +kernel
theorem dX9_next_70 : decode cX9_next 70 = .ok (.aload_n 0, 1) := by decide +kernel
theorem dX9_next_71 : decode cX9_next 71 = .ok (.getfield 23, 3) := by decide +kernel
theorem dX9_next_74 : decode cX9_next 74 = .ok (.getfield 94, 3) := by decide +kernel
theorem dX9_next_77 : decode cX9_next 77 = .ok (.aload_n 0, 1) := by decide +kernel
theorem dX9_next_78 : decode cX9_next 78 = .ok (.getfield 44, 3) := by decide +kernel
theorem dX9_next_81 : decode cX9_next 81 = .ok (.invokevirtual 134, 3) := by decide +kernel
theorem dX9_next_84 : decode cX9_next 84 = .ok (.iinc 3 1, 3) := by decide +kernel
theorem dX9_next_87 : decode cX9_next 87 = .ok (.goto (-54), 3) := by decide +kernel
theorem dX9_next_90 : decode cX9_next 90 = .ok (.iload_n 2, 1) := by decide +kernel
theorem dX9_next_91 : decode cX9_next 91 = .ok (.ireturn, 1) := by decide +kernel
theorem dX9_ever_0 : decode cX9_ever 0 = .ok (.iload_n 1, 1) := by decide +kernel
theorem dX9_ever_1 : decode cX9_ever 1 = .ok (.invokestatic 142, 3) := by decide +kernel
theorem dX9_ever_4 : decode cX9_ever 4 = .ok (.ifCond .ne 6, 3) := by decide +kernel
theorem dX9_ever_7 : decode cX9_ever 7 = .ok (.bipush (-2), 2) := by decide +kernel
theorem dX9_ever_9 : decode cX9_ever 9 = .ok (.ireturn, 1) := by decide +kernel
theorem dX9_ever_10 : decode cX9_ever 10 = .ok (.aload_n 0, 1) := by decide +kernel
theorem dX9_ever_11 : decode cX9_ever 11 = .ok (.getfield 19, 3) := by decide +kernel
theorem dX9_ever_14 : decode cX9_ever 14 = .ok (.getfield 94, 3) := by decide +kernel
theorem dX9_ever_17 : decode cX9_ever 17 = .ok (.bipush (-9), 2) := by decide +kernel
theorem dX9_ever_19 : decode cX9_ever 19 = .ok (.if_icmp .ne 5, 3) := by decide +kernel
theorem dX9_ever_22 : decode cX9_ever 22 = .ok (.iconst 0, 1) := by decide +kernel
theorem dX9_ever_23 : decode cX9_ever 23 = .ok (.ireturn, 1) := by decide +kernel
theorem dX9_ever_24 : decode cX9_ever 24 = .ok (.aload_n 0, 1) := by decide +kernel
theorem dX9_ever_25 : decode cX9_ever 25 = .ok (.getfield 44, 3) := by decide +kernel
theorem dX9_ever_28 : decode cX9_ever 28 = .ok (.aload_n 0, 1) := by decide +kernel
theorem dX9_ever_29 : decode cX9_ever 29 = .ok (.getfield 19, 3) := by decide +kernel
theorem dX9_ever_32 : decode cX9_ever 32 = .ok (.aload_n 0, 1) := by decide +kernel
theorem dX9_ever_33 : decode cX9_ever 33 = .ok (.getfield 19, 3) := by decide +kernel
theorem dX9_ever_36 : decode cX9_ever 36 = .ok (.getfield 94, 3) := by decide +kernel
theorem dX9_ever_39 : decode cX9_ever 39 = .ok (.iload_n 1, 1) := by decide +kernel
theorem dX9_ever_40 : decode cX9_ever 40 = .ok (.invokevirtual 156, 3) := by decide +kernel
theorem dX9_ever_43 : decode cX9_ever 43 = .ok (.iconst 1, 1) := by decide +kernel
theorem dX9_ever_44 : decode cX9_ever 44 = .ok (.aload_n 0, 1) := by decide +kernel
theorem dX9_ever_45 : decode cX9_ever 45 = .ok (.getfield 19, 3) := by decide +kernel
theorem dX9_ever_48 : decode cX9_ever 48 = .ok (.getfield 94, 3) := by decide +kernel
theorem dX9_ever_51 : decode cX9_ever 51 = .ok (.ishl, 1) := by decide +kernel
theorem dX9_ever_52 : decode cX9_ever 52 = .ok (.aload_n 0, 1) := by decide +kernel
theorem dX9_ever_53 : decode cX9_ever 53 = .ok (.getfield 44, 3) := by decide +kernel
theorem dX9_ever_56 : decode cX9_ever 56 = .ok (.aload_n 0, 1) := by decide +kernel
theorem dX9_ever_57 : decode cX9_ever 57 = .ok (.getfield 19, 3) := by decide +kernel
theorem dX9_ever_60 : decode cX9_ever 60 = .ok (.getfield 91, 3) := by decide +kernel
theorem dX9_ever_63 : decode cX9_ever 63 = .ok (.invokevirtual 172, 3) := by decide +kernel
theorem dX9_ever_66 : decode cX9_ever 66 = .ok (.ior, 1) := by decide +kernel
theorem dX9_ever_67 : decode cX9_ever 67 = .ok (.ireturn, 1) := by decide +kernel
theorem dX9_best_0 : decode cX9_best 0 = .ok (.iload_n 1, 1) := by decide +kernel
theorem dX9_best_1 : decode cX9_best 1 = .ok (.iconst 1, 1) := by decide +kernel
theorem dX9_best_2 : decode cX9_best 2 = .ok (.if_icmp .lt 8, 3) := by decide +kernel
theorem dX9_best_5 : decode cX9_best 5 = .ok (.iload_n 1, 1) := by decide +kernel
theorem dX9_best_6 : decode cX9_best 6 = .ok (.iconst 4, 1) := by decide +kernel
theorem dX9_best_7 : decode cX9_best 7 = .ok (.if_icmp .le 6, 3) := by decide +kernel
theorem dX9_best_10 : decode cX9_best 10 = .ok (.bipush (-2), 2) := by decide +kernel
theorem dX9_best_12 : decode cX9_best 12 = .ok (.ireturn, 1) := by decide +kernel
theorem dX9_best_13 : decode cX9_best 13 = .ok (.aload_n 0, 1) := by decide +kernel
theorem dX9_best_14 : decode cX9_best 14 = .ok (.getfield 19, 3) := by decide +kernel
theorem dX9_best_17 : decode cX9_best 17 = .ok (.getfield 94, 3) := by decide +kernel
theorem dX9_best_20 : decode cX9_best 20 = .ok (.bipush (-9), 2) := by decide +kernel
theorem dX9_best_22 : decode cX9_best 22 = .ok (.if_icmp .ne 6, 3) := by decide +kernel
theorem dX9_best_25 : decode cX9_best 25 = .ok (.bipush (-3), 2) := by decide +kernel
theorem dX9_best_27 : decode cX9_best 27 = .ok (.ireturn, 1) := by decide +kernel
theorem dX9_best_28 : decode cX9_best 28 = .ok (.aload_n 0, 1) := by decide +kernel
theorem dX9_best_29 : decode cX9_best 29 = .ok (.getfield 51, 3) := by decide +kernel
theorem dX9_best_32 : decode cX9_best 32 = .ok (.iload_n 1, 1) := by decide +kernel
theorem dX9_best_33 : decode cX9_best 33 = .ok (.iload_n 2, 1) := by decide +kernel
theorem dX9_best_34 : decode cX9_best 34 = .ok (.invokevirtual 175, 3) := by decide +kernel
theorem dX9_best_37 : decode cX9_best 37 = .ok (.iload_n 3, 1) := by decide +kernel
theorem dX9_best_38 : decode cX9_best 38 = .ok (.ifCond .eq 21, 3) := by decide +kernel
theorem dX9_best_41 : decode cX9_best 41 = .ok (.aload_n 0, 1) := by decide +kernel
theorem dX9_best_42 : decode cX9_best 42 = .ok (.getfield 51, 3) := by decide +kernel
theorem dX9_best_45 : decode cX9_best 45 = .ok (.iload_n 1, 1) := by decide +kernel
theorem dX9_best_46 : decode cX9_best 46 = .ok (.aload_n 0, 1) := by decide +kernel
theorem dX9_best_47 : decode cX9_best 47 = .ok (.getfield 19, 3) := by decide +kernel
theorem dX9_best_50 : decode cX9_best 50 = .ok (.getfield 100, 3) := by decide +kernel
theorem dX9_best_53 : decode cX9_best 53 = .ok (.invokevirtual 179, 3) := by decide +kernel
theorem dX9_best_56 : decode cX9_best 56 = .ok (.goto 18, 3) := by decide +kernel
theorem dX9_best_59 : decode cX9_best 59 = .ok (.aload_n 0, 1) := by decide +kernel
theorem dX9_best_60 : decode cX9_best 60 = .ok (.getfield 51, 3) := by decide +kernel
theorem dX9_best_63 : decode cX9_best 63 = .ok (.iload_n 1, 1) := by decide +kernel
theorem dX9_best_64 : decode cX9_best 64 = .ok (.aload_n 0, 1) := by decide +kernel
theorem dX9_best_65 : decode cX9_best 65 = .ok (.getfield 19, 3) := by decide +kernel
theorem dX9_best_68 : decode cX9_best 68 = .ok (.getfield 100, 3) := by decide +kernel
theorem dX9_best_71 : decode cX9_best 71 = .ok (.invokevirtual 183, 3) := by decide +kernel
theorem dX9_best_74 : decode cX9_best 74 = .ok (.ireturn, 1) := by decide +kernel
theorem dX9_ties_0 : decode cX9_ties 0 = .ok (.iload_n 1, 1) := by decide +kernel
theorem dX9_ties_1 : decode cX9_ties 1 = .ok (.iconst 1, 1) := by decide +kernel
theorem dX9_ties_2 : decode cX9_ties 2 = .ok (.if_icmp .lt 24, 3) := by decide +kernel
theorem dX9_ties_5 : decode cX9_ties 5 = .ok (.iload_n 1, 1) := by decide +kernel
theorem dX9_ties_6 : decode cX9_ties 6 = .ok (.iconst 4, 1) := by decide +kernel
theorem dX9_ties_7 : decode cX9_ties 7 = .ok (.if_icmp .gt 19, 3) := by decide +kernel
theorem dX9_ties_10 : decode cX9_ties 10 = .ok (.aload_n 0, 1) := by decide +kernel
theorem dX9_ties_11 : decode cX9_ties 11 = .ok (.getfield 58, 3) := by decide +kernel
theorem dX9_ties_14 : decode cX9_ties 14 = .ok (.iload_n 1, 1) := by decide +kernel
theorem dX9_ties_15 : decode cX9_ties 15 = .ok (.iload_n 2, 1) := by decide +kernel
theorem dX9_ties_16 : decode cX9_ties 16 = .ok (.aload_n 0, 1) := by decide +kernel
theorem dX9_ties_17 : decode cX9_ties 17 = .ok (.getfield 19, 3) := by decide +kernel
theorem dX9_ties_20 : decode cX9_ties 20 = .ok (.invokevirtual 186, 3) := by decide +kernel
theorem dX9_ties_23 : decode cX9_ties 23 = .ok (.ifCond .ne 6, 3) := by decide +kernel
theorem dX9_ties_26 : decode cX9_ties 26 = .ok (.bipush (-2), 2) := by decide +kernel
theorem dX9_ties_28 : decode cX9_ties 28 = .ok (.ireturn, 1) := by decide +kernel
theorem dX9_ties_29 : decode cX9_ties 29 = .ok (.aload_n 0, 1) := by decide +kernel
theorem dX9_ties_30 : decode cX9_ties 30 = .ok (.getfield 19, 3) := by decide +kernel
theorem dX9_ties_33 : decode cX9_ties 33 = .ok (.iload_n 3, 1) := by decide +kernel
theorem dX9_ties_34 : decode cX9_ties 34 = .ok (.invokevirtual 112, 3) := by decide +kernel
theorem dX9_ties_37 : decode cX9_ties 37 = .ok (.ifCond .ne 5, 3) := by decide +kernel
theorem dX9_ties_40 : decode cX9_ties 40 = .ok (.iconst (-1), 1) := by decide +kernel
theorem dX9_ties_41 : decode cX9_ties 41 = .ok (.ireturn, 1) := by decide +kernel
theorem dX9_ties_42 : decode cX9_ties 42 = .ok (.iconst 0, 1) := by decide +kernel
theorem dX9_ties_43 : decode cX9_ties 43 = .ok (.istore 4, 2) := by decide +kernel
theorem dX9_ties_45 : decode cX9_ties 45 = .ok (.iconst 0, 1) := by decide +kernel
theorem dX9_ties_46 : decode cX9_ties 46 = .ok (.istore 5, 2) := by decide +kernel
theorem dX9_ties_48 : decode cX9_ties 48 = .ok (.iload 5, 2) := by decide +kernel
theorem dX9_ties_50 : decode cX9_ties 50 = .ok (.iconst 4, 1) := by decide +kernel
theorem dX9_ties_51 : decode cX9_ties 51 = .ok (.if_icmp .ge 64, 3) := by decide +kernel
theorem dX9_ties_54 : decode cX9_ties 54 = .ok (.aload_n 0, 1) := by decide +kernel
theorem dX9_ties_55 : decode cX9_ties 55 = .ok (.getfield 23, 3) := by decide +kernel
theorem dX9_ties_58 : decode cX9_ties 58 = .ok (.aload_n 0, 1) := by decide +kernel
theorem dX9_ties_59 : decode cX9_ties 59 = .ok (.getfield 19, 3) := by decide +kernel
theorem dX9_ties_62 : decode cX9_ties 62 = .ok (.invokevirtual 169, 3) := by decide +kernel
theorem dX9_ties_65 : decode cX9_ties 65 = .ok (.aload_n 0, 1) := by decide +kernel
theorem dX9_ties_66 : decode cX9_ties 66 = .ok (.getfield 23, 3) := by decide +kernel
theorem dX9_ties_69 : decode cX9_ties 69 = .ok (.iload 5, 2) := by decide +kernel
theorem dX9_ties_71 : decode cX9_ties 71 = .ok (.putfield 97, 3) := by decide +kernel
theorem dX9_ties_74 : decode cX9_ties 74 = .ok (.aload_n 0, 1) := by decide +kernel
theorem dX9_ties_75 : decode cX9_ties 75 = .ok (.getfield 58, 3) := by decide +kernel
theorem dX9_ties_78 : decode cX9_ties 78 = .ok (.aload_n 0, 1) := by decide +kernel
theorem dX9_ties_79 : decode cX9_ties 79 = .ok (.getfield 23, 3) := by decide +kernel
theorem dX9_ties_82 : decode cX9_ties 82 = .ok (.aload_n 0, 1) := by decide +kernel
theorem dX9_ties_83 : decode cX9_ties 83 = .ok (.getfield 44, 3) := by decide +kernel
theorem dX9_ties_86 : decode cX9_ties 86 = .ok (.invokevirtual 190, 3) := by decide +kernel
theorem dX9_ties_89 : decode cX9_ties 89 = .ok (.aload_n 0, 1) := by decide +kernel
theorem dX9_ties_90 : decode cX9_ties 90 = .ok (.getfield 23, 3) := by decide +kernel
theorem dX9_ties_93 : decode cX9_ties 93 = .ok (.getfield 94, 3) := by decide +kernel
theorem dX9_ties_96 : decode cX9_ties 96 = .ok (.iload_n 3, 1) := by decide +kernel
theorem dX9_ties_97 : decode cX9_ties 97 = .ok (.if_icmp .ne 12, 3) := by decide +kernel
theorem dX9_ties_100 : decode cX9_ties 100 = .ok (.iload 4, 2) := by decide +kernel
theorem dX9_ties_102 : decode cX9_ties 102 = .ok (.iconst 1, 1) := by decide +kernel
theorem dX9_ties_103 : decode cX9_ties 103 = .ok (.iload 5, 2) := by decide +kernel
theorem dX9_ties_105 : decode cX9_ties 105 = .ok (.ishl, 1) := by decide +kernel
theorem dX9_ties_106 : decode cX9_ties 106 = .ok (.ior, 1) := by decide +kernel
theorem dX9_ties_107 : decode cX9_ties 107 = .ok (.istore 4, 2) := by decide +kernel
theorem dX9_ties_109 : decode cX9_ties 109 = .ok (.iinc 5 1, 3) := by decide +kernel
theorem dX9_ties_112 : decode cX9_ties 112 = .ok (.goto (-64), 3) := by decide +kernel
theorem dX9_ties_115 : decode cX9_ties 115 = .ok (.iload 4, 2) := by decide +kernel
theorem dX9_ties_117 : decode cX9_ties 117 = .ok (.ireturn, 1) := by decide +kernel
theorem dX9_rests_0 : decode cX9_rests 0 = .ok (.iload_n 1, 1) := by decide +kernel
theorem dX9_rests_1 : decode cX9_rests 1 = .ok (.ifCond .lt 18, 3) := by decide +kernel
theorem dX9_rests_4 : decode cX9_rests 4 = .ok (.iload_n 1, 1) := by decide +kernel
theorem dX9_rests_5 : decode cX9_rests 5 = .ok (.bipush 9, 2) := by decide +kernel
theorem dX9_rests_7 : decode cX9_rests 7 = .ok (.if_icmp .gt 12, 3) := by decide +kernel
theorem dX9_rests_10 : decode cX9_rests 10 = .ok (.iload_n 2, 1) := by decide +kernel
theorem dX9_rests_11 : decode cX9_rests 11 = .ok (.ifCond .lt 8, 3) := by decide +kernel
theorem dX9_rests_14 : decode cX9_rests 14 = .ok (.iload_n 2, 1) := by decide +kernel
theorem dX9_rests_15 : decode cX9_rests 15 = .ok (.iconst 1, 1) := by decide +kernel
theorem dX9_rests_16 : decode cX9_rests 16 = .ok (.if_icmp .le 6, 3) := by decide +kernel
theorem dX9_rests_19 : decode cX9_rests 19 = .ok (.bipush (-2), 2) := by decide +kernel
theorem dX9_rests_21 : decode cX9_rests 21 = .ok (.ireturn, 1) := by decide +kernel
theorem dX9_rests_22 : decode cX9_rests 22 = .ok (.aload_n 0, 1) := by decide +kernel
theorem dX9_rests_23 : decode cX9_rests 23 = .ok (.invokevirtual 145, 3) := by decide +kernel
theorem dX9_rests_26 : decode cX9_rests 26 = .ok (.ifCond .ne 6, 3) := by decide +kernel
theorem dX9_rests_29 : decode cX9_rests 29 = .ok (.bipush (-3), 2) := by decide +kernel
theorem dX9_rests_31 : decode cX9_rests 31 = .ok (.ireturn, 1) := by decide +kernel
theorem dX9_rests_32 : decode cX9_rests 32 = .ok (.iload_n 2, 1) := by decide +kernel
theorem dX9_rests_33 : decode cX9_rests 33 = .ok (.ifCond .ne 10, 3) := by decide +kernel
theorem dX9_rests_36 : decode cX9_rests 36 = .ok (.iload_n 1, 1) := by decide +kernel
theorem dX9_rests_37 : decode cX9_rests 37 = .ok (.invokestatic 194, 3) := by decide +kernel
theorem dX9_rests_40 : decode cX9_rests 40 = .ok (.goto 7, 3) := by decide +kernel
theorem dX9_rests_43 : decode cX9_rests 43 = .ok (.iload_n 1, 1) := by decide +kernel
theorem dX9_rests_44 : decode cX9_rests 44 = .ok (.invokestatic 199, 3) := by decide +kernel
theorem dX9_rests_47 : decode cX9_rests 47 = .ok (.ireturn, 1) := by decide +kernel
theorem dX9_odds_0 : decode cX9_odds 0 = .ok (.aload_n 0, 1) := by decide +kernel
theorem dX9_odds_1 : decode cX9_odds 1 = .ok (.getfield 19, 3) := by decide +kernel
theorem dX9_odds_4 : decode cX9_odds 4 = .ok (.iload_n 1, 1) := by decide +kernel
theorem dX9_odds_5 : decode cX9_odds 5 = .ok (.invokevirtual 112, 3) := by decide +kernel
theorem dX9_odds_8 : decode cX9_odds 8 = .ok (.ifCond .ne 5, 3) := by decide +kernel
theorem dX9_odds_11 : decode cX9_odds 11 = .ok (.iconst (-1), 1) := by decide +kernel
theorem dX9_odds_12 : decode cX9_odds 12 = .ok (.ireturn, 1) := by decide +kernel
theorem dX9_odds_13 : decode cX9_odds 13 = .ok (.aload_n 0, 1) := by decide +kernel
theorem dX9_odds_14 : decode cX9_odds 14 = .ok (.getfield 19, 3) := by decide +kernel
theorem dX9_odds_17 : decode cX9_odds 17 = .ok (.iload_n 1, 1) := by decide +kernel
theorem dX9_odds_18 : decode cX9_odds 18 = .ok (.invokevirtual 125, 3) := by decide +kernel
theorem dX9_odds_21 : decode cX9_odds 21 = .ok (.ifCond .eq 15, 3) := by decide +kernel
theorem dX9_odds_24 : decode cX9_odds 24 = .ok (.aload_n 0, 1) := by decide +kernel
theorem dX9_odds_25 : decode cX9_odds 25 = .ok (.getfield 19, 3) := by decide +kernel
theorem dX9_odds_28 : decode cX9_odds 28 = .ok (.getfield 94, 3) := by decide +kernel
theorem dX9_odds_31 : decode cX9_odds 31 = .ok (.bipush (-9), 2) := by decide +kernel
theorem dX9_odds_33 : decode cX9_odds 33 = .ok (.if_icmp .ne 10, 3) := by decide +kernel
theorem dX9_odds_36 : decode cX9_odds 36 = .ok (.iconst 0, 1) := by decide +kernel
theorem dX9_odds_37 : decode cX9_odds 37 = .ok (.iconst 1, 1) := by decide +kernel
theorem dX9_odds_38 : decode cX9_odds 38 = .ok (.iload_n 2, 1) := by decide +kernel
theorem dX9_odds_39 : decode cX9_odds 39 = .ok (.invokestatic 202, 3) := by decide +kernel
theorem dX9_odds_42 : decode cX9_odds 42 = .ok (.ireturn, 1) := by decide +kernel
theorem dX9_odds_43 : decode cX9_odds 43 = .ok (.aload_n 0, 1) := by decide +kernel
theorem dX9_odds_44 : decode cX9_odds 44 = .ok (.getfield 19, 3) := by decide +kernel
theorem dX9_odds_47 : decode cX9_odds 47 = .ok (.getfield 91, 3) := by decide +kernel
theorem dX9_odds_50 : decode cX9_odds 50 = .ok (.invokestatic 208, 3) := by decide +kernel
theorem dX9_odds_53 : decode cX9_odds 53 = .ok (.invokestatic 213, 3) := by decide +kernel
theorem dX9_odds_56 : decode cX9_odds 56 = .ok (.istore_n 3, 1) := by decide +kernel
theorem dX9_odds_57 : decode cX9_odds 57 = .ok (.aload_n 0, 1) := by decide +kernel
theorem dX9_odds_58 : decode cX9_odds 58 = .ok (.getfield 65, 3) := by decide +kernel
theorem dX9_odds_61 : decode cX9_odds 61 = .ok (.aload_n 0, 1) := by decide +kernel
theorem dX9_odds_62 : decode cX9_odds 62 = .ok (.getfield 19, 3) := by decide +kernel
theorem dX9_odds_65 : decode cX9_odds 65 = .ok (.iload_n 1, 1) := by decide +kernel
theorem dX9_odds_66 : decode cX9_odds 66 = .ok (.invokevirtual 216, 3) := by decide +kernel
theorem dX9_odds_69 : decode cX9_odds 69 = .ok (.iload_n 3, 1) := by decide +kernel
theorem dX9_odds_70 : decode cX9_odds 70 = .ok (.iload_n 2, 1) := by decide +kernel
theorem dX9_odds_71 : decode cX9_odds 71 = .ok (.invokestatic 202, 3) := by decide +kernel
theorem dX9_odds_74 : decode cX9_odds 74 = .ok (.ireturn, 1) := by decide +kernel
theorem dX9_lender_0 : decode cX9_lender 0 = .ok (.iload_n 1, 1) := by decide +kernel
theorem dX9_lender_1 : decode cX9_lender 1 = .ok (.iconst 1, 1) := by decide +kernel
theorem dX9_lender_2 : decode cX9_lender 2 = .ok (.if_icmp .lt 18, 3) := by decide +kernel
theorem dX9_lender_5 : decode cX9_lender 5 = .ok (.iload_n 1, 1) := by decide +kernel
theorem dX9_lender_6 : decode cX9_lender 6 = .ok (.iconst 5, 1) := by decide +kernel
theorem dX9_lender_7 : decode cX9_lender 7 = .ok (.if_icmp .gt 13, 3) := by decide +kernel
theorem dX9_lender_10 : decode cX9_lender 10 = .ok (.iload_n 2, 1) := by decide +kernel
theorem dX9_lender_11 : decode cX9_lender 11 = .ok (.ifCond .lt 9, 3) := by decide +kernel
theorem dX9_lender_14 : decode cX9_lender 14 = .ok (.iload_n 2, 1) := by decide +kernel
theorem dX9_lender_15 : decode cX9_lender 15 = .ok (.bipush 9, 2) := by decide +kernel
theorem dX9_lender_17 : decode cX9_lender 17 = .ok (.if_icmp .le 6, 3) := by decide +kernel
theorem dX9_lender_20 : decode cX9_lender 20 = .ok (.bipush (-2), 2) := by decide +kernel
theorem dX9_lender_22 : decode cX9_lender 22 = .ok (.ireturn, 1) := by decide +kernel
theorem dX9_lender_23 : decode cX9_lender 23 = .ok (.aload_n 0, 1) := by decide +kernel
theorem dX9_lender_24 : decode cX9_lender 24 = .ok (.getfield 19, 3) := by decide +kernel
theorem dX9_lender_27 : decode cX9_lender 27 = .ok (.getfield 94, 3) := by decide +kernel
theorem dX9_lender_30 : decode cX9_lender 30 = .ok (.bipush (-9), 2) := by decide +kernel
theorem dX9_lender_32 : decode cX9_lender 32 = .ok (.if_icmp .ne 10, 3) := by decide +kernel
theorem dX9_lender_35 : decode cX9_lender 35 = .ok (.iconst 0, 1) := by decide +kernel
theorem dX9_lender_36 : decode cX9_lender 36 = .ok (.iconst 1, 1) := by decide +kernel
theorem dX9_lender_37 : decode cX9_lender 37 = .ok (.iload_n 3, 1) := by decide +kernel
theorem dX9_lender_38 : decode cX9_lender 38 = .ok (.invokestatic 202, 3) := by decide +kernel
theorem dX9_lender_41 : decode cX9_lender 41 = .ok (.ireturn, 1) := by decide +kernel
theorem dX9_lender_42 : decode cX9_lender 42 = .ok (.iconst 1, 1) := by decide +kernel
theorem dX9_lender_43 : decode cX9_lender 43 = .ok (.istore 4, 2) := by decide +kernel
theorem dX9_lender_45 : decode cX9_lender 45 = .ok (.iconst 1, 1) := by decide +kernel
theorem dX9_lender_46 : decode cX9_lender 46 = .ok (.istore 5, 2) := by decide +kernel
theorem dX9_lender_48 : decode cX9_lender 48 = .ok (.iload_n 2, 1) := by decide +kernel
theorem dX9_lender_49 : decode cX9_lender 49 = .ok (.aload_n 0, 1) := by decide +kernel
theorem dX9_lender_50 : decode cX9_lender 50 = .ok (.getfield 19, 3) := by decide +kernel
theorem dX9_lender_53 : decode cX9_lender 53 = .ok (.aload_n 0, 1) := by decide +kernel
theorem dX9_lender_54 : decode cX9_lender 54 = .ok (.getfield 19, 3) := by decide +kernel
theorem dX9_lender_57 : decode cX9_lender 57 = .ok (.getfield 94, 3) := by decide +kernel
theorem dX9_lender_60 : decode cX9_lender 60 = .ok (.invokevirtual 122, 3) := by decide +kernel
theorem dX9_lender_63 : decode cX9_lender 63 = .ok (.iadd, 1) := by decide +kernel
theorem dX9_lender_64 : decode cX9_lender 64 = .ok (.istore 6, 2) := by decide +kernel
theorem dX9_lender_66 : decode cX9_lender 66 = .ok (.iconst 0, 1) := by decide +kernel
theorem dX9_lender_67 : decode cX9_lender 67 = .ok (.istore 7, 2) := by decide +kernel
theorem dX9_lender_69 : decode cX9_lender 69 = .ok (.iload 7, 2) := by decide +kernel
theorem dX9_lender_71 : decode cX9_lender 71 = .ok (.iload_n 1, 1) := by decide +kernel
theorem dX9_lender_72 : decode cX9_lender 72 = .ok (.if_icmp .ge 34, 3) := by decide +kernel
theorem dX9_lender_75 : decode cX9_lender 75 = .ok (.iload 4, 2) := by decide +kernel
theorem dX9_lender_77 : decode cX9_lender 77 = .ok (.bipush 10, 2) := by decide +kernel
theorem dX9_lender_79 : decode cX9_lender 79 = .ok (.bipush 10, 2) := by decide +kernel
theorem dX9_lender_81 : decode cX9_lender 81 = .ok (.iload 6, 2) := by decide +kernel
theorem dX9_lender_83 : decode cX9_lender 83 = .ok (.iload 7, 2) := by decide +kernel
theorem dX9_lender_85 : decode cX9_lender 85 = .ok (.iadd, 1) := by decide +kernel
theorem dX9_lender_86 : decode cX9_lender 86 = .ok (.invokestatic 220, 3) := by decide +kernel
theorem dX9_lender_89 : decode cX9_lender 89 = .ok (.isub, 1) := by decide +kernel
theorem dX9_lender_90 : decode cX9_lender 90 = .ok (.imul, 1) := by decide +kernel
theorem dX9_lender_91 : decode cX9_lender 91 = .ok (.istore 4, 2) := by decide +kernel
theorem dX9_lender_93 : decode cX9_lender 93 = .ok (.iload 5, 2) := by decide +kernel
theorem dX9_lender_95 : decode cX9_lender 95 = .ok (.bipush 10, 2) := by decide +kernel
theorem dX9_lender_97 : decode cX9_lender 97 = .ok (.imul, 1) := by decide +kernel
theorem dX9_lender_98 : decode cX9_lender 98 = .ok (.istore 5, 2) := by decide +kernel
theorem dX9_lender_100 : decode cX9_lender 100 = .ok (.iinc 7 1, 3) := by decide +kernel
theorem dX9_lender_103 : decode cX9_lender 103 = .ok (.goto (-34), 3) := by decide +kernel
theorem dX9_lender_106 : decode cX9_lender 106 = .ok (.iload 4, 2) := by decide +kernel
theorem dX9_lender_108 : decode cX9_lender 108 = .ok (.iload 5, 2) := by decide +kernel
theorem dX9_lender_110 : decode cX9_lender 110 = .ok (.iload_n 3, 1) := by decide +kernel
theorem dX9_lender_111 : decode cX9_lender 111 = .ok (.invokestatic 202, 3) := by decide +kernel
theorem dX9_lender_114 : decode cX9_lender 114 = .ok (.ireturn, 1) := by decide +kernel
theorem dX9_seed_0 : decode cX9_seed 0 = .ok (.aload_n 0, 1) := by decide +kernel
theorem dX9_seed_1 : decode cX9_seed 1 = .ok (.getfield 225, 3) := by decide +kernel
theorem dX9_seed_4 : decode cX9_seed 4 = .ok (.lstore_n 3, 1) := by decide +kernel
theorem dX9_seed_5 : decode cX9_seed 5 = .ok (.aload_n 0, 1) := by decide +kernel
theorem dX9_seed_6 : decode cX9_seed 6 = .ok (.lload_n 1, 1) := by decide +kernel
theorem dX9_seed_7 : decode cX9_seed 7 = .ok (.putfield 225, 3) := by decide +kernel
theorem dX9_seed_10 : decode cX9_seed 10 = .ok (.lload_n 3, 1) := by decide +kernel
theorem dX9_seed_11 : decode cX9_seed 11 = .ok (.lreturn, 1) := by decide +kernel
theorem dX9_families_0 : decode cX9_families 0 = .ok (.iload_n 1, 1) := by decide +kernel
theorem dX9_families_1 : decode cX9_families 1 = .ok (.iconst 1, 1) := by decide +kernel
theorem dX9_families_2 : decode cX9_families 2 = .ok (.if_icmp .lt 9, 3) := by decide +kernel
theorem dX9_families_5 : decode cX9_families 5 = .ok (.iload_n 1, 1) := by decide +kernel
theorem dX9_families_6 : decode cX9_families 6 = .ok (.bipush 20, 2) := by decide +kernel
theorem dX9_families_8 : decode cX9_families 8 = .ok (.if_icmp .le 6, 3) := by decide +kernel
theorem dX9_families_11 : decode cX9_families 11 = .ok (.bipush (-2), 2) := by decide +kernel
theorem dX9_families_13 : decode cX9_families 13 = .ok (.ireturn, 1) := by decide +kernel
theorem dX9_families_14 : decode cX9_families 14 = .ok (.aload_n 0, 1) := by decide +kernel
theorem dX9_families_15 : decode cX9_families 15 = .ok (.getfield 23, 3) := by decide +kernel
theorem dX9_families_18 : decode cX9_families 18 = .ok (.aload_n 0, 1) := by decide +kernel
theorem dX9_families_19 : decode cX9_families 19 = .ok (.getfield 19, 3) := by decide +kernel
theorem dX9_families_22 : decode cX9_families 22 = .ok (.invokevirtual 169, 3) := by decide +kernel
theorem dX9_families_25 : decode cX9_families 25 = .ok (.iconst 0, 1) := by decide +kernel
theorem dX9_families_26 : decode cX9_families 26 = .ok (.istore_n 2, 1) := by decide +kernel
theorem dX9_families_27 : decode cX9_families 27 = .ok (.iconst 0, 1) := by decide +kernel
theorem dX9_families_28 : decode cX9_families 28 = .ok (.istore_n 3, 1) := by decide +kernel
theorem dX9_families_29 : decode cX9_families 29 = .ok (.iload_n 3, 1) := by decide +kernel
theorem dX9_families_30 : decode cX9_families 30 = .ok (.iload_n 1, 1) := by decide +kernel
theorem dX9_families_31 : decode cX9_families 31 = .ok (.if_icmp .ge 88, 3) := by decide +kernel
theorem dX9_families_34 : decode cX9_families 34 = .ok (.aload_n 0, 1) := by decide +kernel
theorem dX9_families_35 : decode cX9_families 35 = .ok (.aload_n 0, 1) := by decide +kernel
theorem dX9_families_36 : decode cX9_families 36 = .ok (.getfield 225, 3) := by decide +kernel
theorem dX9_families_39 : decode cX9_families 39 = .ok (.ldc2_w 229, 3) := by decide +kernel
theorem dX9_families_42 : decode cX9_families 42 = .ok (.lmul, 1) := by decide +kernel
theorem dX9_families_43 : decode cX9_families 43 = .ok (.ldc2_w 231, 3) := by decide +kernel
theorem dX9_families_46 : decode cX9_families 46 = .ok (.ladd, 1) := by decide +kernel
theorem dX9_families_47 : decode cX9_families 47 = .ok (.putfield 225, 3) := by decide +kernel
theorem dX9_families_50 : decode cX9_families 50 = .ok (.aload_n 0, 1) := by decide +kernel
theorem dX9_families_51 : decode cX9_families 51 = .ok (.getfield 225, 3) := by decide +kernel
theorem dX9_families_54 : decode cX9_families 54 = .ok (.bipush 33, 2) := by decide +kernel
theorem dX9_families_56 : decode cX9_families 56 = .ok (.lushr, 1) := by decide +kernel
theorem dX9_families_57 : decode cX9_families 57 = .ok (.ldc2_w 233, 3) := by decide +kernel
theorem dX9_families_60 : decode cX9_families 60 = .ok (.lrem, 1) := by decide +kernel
theorem dX9_families_61 : decode cX9_families 61 = .ok (.l2i, 1) := by decide +kernel
theorem dX9_families_62 : decode cX9_families 62 = .ok (.istore 4, 2) := by decide +kernel
theorem dX9_families_64 : decode cX9_families 64 = .ok (.aload_n 0, 1) := by decide +kernel
theorem dX9_families_65 : decode cX9_families 65 = .ok (.getfield 23, 3) := by decide +kernel
theorem dX9_families_68 : decode cX9_families 68 = .ok (.getfield 94, 3) := by decide +kernel
theorem dX9_families_71 : decode cX9_families 71 = .ok (.istore 5, 2) := by decide +kernel
theorem dX9_families_73 : decode cX9_families 73 = .ok (.aload_n 0, 1) := by decide +kernel
theorem dX9_families_74 : decode cX9_families 74 = .ok (.getfield 23, 3) := by decide +kernel
theorem dX9_families_77 : decode cX9_families 77 = .ok (.iload 4, 2) := by decide +kernel
theorem dX9_families_79 : decode cX9_families 79 = .ok (.invokevirtual 125, 3) := by decide +kernel
theorem dX9_families_82 : decode cX9_families 82 = .ok (.ifCond .eq 16, 3) := by decide +kernel
theorem dX9_families_85 : decode cX9_families 85 = .ok (.aload_n 0, 1) := by decide +kernel
theorem dX9_families_86 : decode cX9_families 86 = .ok (.getfield 23, 3) := by decide +kernel
theorem dX9_families_89 : decode cX9_families 89 = .ok (.iload 4, 2) := by decide +kernel
theorem dX9_families_91 : decode cX9_families 91 = .ok (.aload_n 0, 1) := by decide +kernel
theorem dX9_families_92 : decode cX9_families 92 = .ok (.getfield 44, 3) := by decide +kernel
theorem dX9_families_95 : decode cX9_families 95 = .ok (.invokevirtual 134, 3) := by decide +kernel
theorem dX9_families_98 : decode cX9_families 98 = .ok (.aload_n 0, 1) := by decide +kernel
theorem dX9_families_99 : decode cX9_families 99 = .ok (.getfield 23, 3) := by decide +kernel
theorem dX9_families_102 : decode cX9_families 102 = .ok (.getfield 94, 3) := by decide +kernel
theorem dX9_families_105 : decode cX9_families 105 = .ok (.iload 5, 2) := by decide +kernel
theorem dX9_families_107 : decode cX9_families 107 = .ok (.if_icmp .eq 6, 3) := by decide +kernel
theorem dX9_families_110 : decode cX9_families 110 = .ok (.iinc 2 1, 3) := by decide +kernel
theorem dX9_families_113 : decode cX9_families 113 = .ok (.iinc 3 1, 3) := by decide +kernel
theorem dX9_families_116 : decode cX9_families 116 = .ok (.goto (-87), 3) := by decide +kernel
theorem dX9_families_119 : decode cX9_families 119 = .ok (.iload_n 2, 1) := by decide +kernel
theorem dX9_families_120 : decode cX9_families 120 = .ok (.ireturn, 1) := by decide +kernel
theorem dX9_keep_0 : decode cX9_keep 0 = .ok (.iload_n 1, 1) := by decide +kernel
theorem dX9_keep_1 : decode cX9_keep 1 = .ok (.invokestatic 235, 3) := by decide +kernel
theorem dX9_keep_4 : decode cX9_keep 4 = .ok (.ifCond .ne 5, 3) := by decide +kernel
theorem dX9_keep_7 : decode cX9_keep 7 = .ok (.iconst (-1), 1) := by decide +kernel
theorem dX9_keep_8 : decode cX9_keep 8 = .ok (.ireturn, 1) := by decide +kernel
theorem dX9_keep_9 : decode cX9_keep 9 = .ok (.aload_n 0, 1) := by decide +kernel
theorem dX9_keep_10 : decode cX9_keep 10 = .ok (.getfield 33, 3) := by decide +kernel
theorem dX9_keep_13 : decode cX9_keep 13 = .ok (.iload_n 1, 1) := by decide +kernel
theorem dX9_keep_14 : decode cX9_keep 14 = .ok (.aaload, 1) := by decide +kernel
theorem dX9_keep_15 : decode cX9_keep 15 = .ok (.aload_n 0, 1) := by decide +kernel
theorem dX9_keep_16 : decode cX9_keep 16 = .ok (.getfield 19, 3) := by decide +kernel
theorem dX9_keep_19 : decode cX9_keep 19 = .ok (.invokevirtual 169, 3) := by decide +kernel
theorem dX9_keep_22 : decode cX9_keep 22 = .ok (.aload_n 0, 1) := by decide +kernel
theorem dX9_keep_23 : decode cX9_keep 23 = .ok (.getfield 37, 3) := by decide +kernel
theorem dX9_keep_26 : decode cX9_keep 26 = .ok (.iload_n 1, 1) := by decide +kernel
theorem dX9_keep_27 : decode cX9_keep 27 = .ok (.iconst 1, 1) := by decide +kernel
theorem dX9_keep_28 : decode cX9_keep 28 = .ok (.bastore, 1) := by decide +kernel
theorem dX9_keep_29 : decode cX9_keep 29 = .ok (.aload_n 0, 1) := by decide +kernel
theorem dX9_keep_30 : decode cX9_keep 30 = .ok (.getfield 19, 3) := by decide +kernel
theorem dX9_keep_33 : decode cX9_keep 33 = .ok (.getfield 106, 3) := by decide +kernel
theorem dX9_keep_36 : decode cX9_keep 36 = .ok (.ireturn, 1) := by decide +kernel
theorem dX9_again_0 : decode cX9_again 0 = .ok (.iload_n 1, 1) := by decide +kernel
theorem dX9_again_1 : decode cX9_again 1 = .ok (.invokestatic 235, 3) := by decide +kernel
theorem dX9_again_4 : decode cX9_again 4 = .ok (.ifCond .ne 5, 3) := by decide +kernel
theorem dX9_again_7 : decode cX9_again 7 = .ok (.iconst (-1), 1) := by decide +kernel
theorem dX9_again_8 : decode cX9_again 8 = .ok (.ireturn, 1) := by decide +kernel
theorem dX9_again_9 : decode cX9_again 9 = .ok (.aload_n 0, 1) := by decide +kernel
theorem dX9_again_10 : decode cX9_again 10 = .ok (.getfield 37, 3) := by decide +kernel
theorem dX9_again_13 : decode cX9_again 13 = .ok (.iload_n 1, 1) := by decide +kernel
theorem dX9_again_14 : decode cX9_again 14 = .ok (.baload, 1) := by decide +kernel
theorem dX9_again_15 : decode cX9_again 15 = .ok (.ifCond .ne 6, 3) := by decide +kernel
theorem dX9_again_18 : decode cX9_again 18 = .ok (.bipush (-3), 2) := by decide +kernel
theorem dX9_again_20 : decode cX9_again 20 = .ok (.ireturn, 1) := by decide +kernel
theorem dX9_again_21 : decode cX9_again 21 = .ok (.aload_n 0, 1) := by decide +kernel
theorem dX9_again_22 : decode cX9_again 22 = .ok (.getfield 19, 3) := by decide +kernel
theorem dX9_again_25 : decode cX9_again 25 = .ok (.aload_n 0, 1) := by decide +kernel
theorem dX9_again_26 : decode cX9_again 26 = .ok (.getfield 33, 3) := by decide +kernel
theorem dX9_again_29 : decode cX9_again 29 = .ok (.iload_n 1, 1) := by decide +kernel
theorem dX9_again_30 : decode cX9_again 30 = .ok (.aaload, 1) := by decide +kernel
theorem dX9_again_31 : decode cX9_again 31 = .ok (.invokevirtual 169, 3) := by decide +kernel
theorem dX9_again_34 : decode cX9_again 34 = .ok (.aload_n 0, 1) := by decide +kernel
theorem dX9_again_35 : decode cX9_again 35 = .ok (.getfield 29, 3) := by decide +kernel
theorem dX9_again_38 : decode cX9_again 38 = .ok (.invokevirtual 85, 3) := by decide +kernel
theorem dX9_again_41 : decode cX9_again 41 = .ok (.aload_n 0, 1) := by decide +kernel
theorem dX9_again_42 : decode cX9_again 42 = .ok (.getfield 19, 3) := by decide +kernel
theorem dX9_again_45 : decode cX9_again 45 = .ok (.getfield 106, 3) := by decide +kernel
theorem dX9_again_48 : decode cX9_again 48 = .ok (.ireturn, 1) := by decide +kernel
theorem dX9_isTie_0 : decode cX9_isTie 0 = .ok (.iload_n 0, 1) := by decide +kernel
theorem dX9_isTie_1 : decode cX9_isTie 1 = .ok (.ifCond .lt 12, 3) := by decide +kernel
theorem dX9_isTie_4 : decode cX9_isTie 4 = .ok (.iload_n 0, 1) := by decide +kernel
theorem dX9_isTie_5 : decode cX9_isTie 5 = .ok (.iconst 4, 1) := by decide +kernel
theorem dX9_isTie_6 : decode cX9_isTie 6 = .ok (.if_icmp .ge 7, 3) := by decide +kernel
theorem dX9_isTie_9 : decode cX9_isTie 9 = .ok (.iconst 1, 1) := by decide +kernel
theorem dX9_isTie_10 : decode cX9_isTie 10 = .ok (.goto 4, 3) := by decide +kernel
theorem dX9_isTie_13 : decode cX9_isTie 13 = .ok (.iconst 0, 1) := by decide +kernel
theorem dX9_isTie_14 : decode cX9_isTie 14 = .ok (.ireturn, 1) := by decide +kernel
theorem dX9_isSlot_0 : decode cX9_isSlot 0 = .ok (.iload_n 0, 1) := by decide +kernel
theorem dX9_isSlot_1 : decode cX9_isSlot 1 = .ok (.ifCond .lt 12, 3) := by decide +kernel
theorem dX9_isSlot_4 : decode cX9_isSlot 4 = .ok (.iload_n 0, 1) := by decide +kernel
theorem dX9_isSlot_5 : decode cX9_isSlot 5 = .ok (.iconst 2, 1) := by decide +kernel
theorem dX9_isSlot_6 : decode cX9_isSlot 6 = .ok (.if_icmp .ge 7, 3) := by decide +kernel
theorem dX9_isSlot_9 : decode cX9_isSlot 9 = .ok (.iconst 1, 1) := by decide +kernel
theorem dX9_isSlot_10 : decode cX9_isSlot 10 = .ok (.goto 4, 3) := by decide +kernel
theorem dX9_isSlot_13 : decode cX9_isSlot 13 = .ok (.iconst 0, 1) := by decide +kernel
theorem dX9_isSlot_14 : decode cX9_isSlot 14 = .ok (.ireturn, 1) := by decide +kernel
theorem dX9_hasChildOfAgeAsHeir_0 : decode cX9_hasChildOfAgeAsHeir 0 = .ok (.aload_n 0, 1) := by decide +kernel
theorem dX9_hasChildOfAgeAsHeir_1 : decode cX9_hasChildOfAgeAsHeir 1 = .ok (.getfield 19, 3) := by decide +kernel
theorem dX9_hasChildOfAgeAsHeir_4 : decode cX9_hasChildOfAgeAsHeir 4 = .ok (.getfield 94, 3) := by decide +kernel
theorem dX9_hasChildOfAgeAsHeir_7 : decode cX9_hasChildOfAgeAsHeir 7 = .ok (.bipush (-9), 2) := by decide +kernel
theorem dX9_hasChildOfAgeAsHeir_9 : decode cX9_hasChildOfAgeAsHeir 9 = .ok (.if_icmp .ne 5, 3) := by decide +kernel
theorem dX9_hasChildOfAgeAsHeir_12 : decode cX9_hasChildOfAgeAsHeir 12 = .ok (.iconst 0, 1) := by decide +kernel
theorem dX9_hasChildOfAgeAsHeir_13 : decode cX9_hasChildOfAgeAsHeir 13 = .ok (.ireturn, 1) := by decide +kernel
theorem dX9_hasChildOfAgeAsHeir_14 : decode cX9_hasChildOfAgeAsHeir 14 = .ok (.aload_n 0, 1) := by decide +kernel
theorem dX9_hasChildOfAgeAsHeir_15 : decode cX9_hasChildOfAgeAsHeir 15 = .ok (.getfield 44, 3) := by decide +kernel
theorem dX9_hasChildOfAgeAsHeir_18 : decode cX9_hasChildOfAgeAsHeir 18 = .ok (.aload_n 0, 1) := by decide +kernel
theorem dX9_hasChildOfAgeAsHeir_19 : decode cX9_hasChildOfAgeAsHeir 19 = .ok (.getfield 19, 3) := by decide +kernel
theorem dX9_hasChildOfAgeAsHeir_22 : decode cX9_hasChildOfAgeAsHeir 22 = .ok (.aload_n 0, 1) := by decide +kernel
theorem dX9_hasChildOfAgeAsHeir_23 : decode cX9_hasChildOfAgeAsHeir 23 = .ok (.getfield 19, 3) := by decide +kernel
theorem dX9_hasChildOfAgeAsHeir_26 : decode cX9_hasChildOfAgeAsHeir 26 = .ok (.getfield 94, 3) := by decide +kernel
theorem dX9_hasChildOfAgeAsHeir_29 : decode cX9_hasChildOfAgeAsHeir 29 = .ok (.aload_n 0, 1) := by decide +kernel
theorem dX9_hasChildOfAgeAsHeir_30 : decode cX9_hasChildOfAgeAsHeir 30 = .ok (.getfield 19, 3) := by decide +kernel
theorem dX9_hasChildOfAgeAsHeir_33 : decode cX9_hasChildOfAgeAsHeir 33 = .ok (.getfield 97, 3) := by decide +kernel
theorem dX9_hasChildOfAgeAsHeir_36 : decode cX9_hasChildOfAgeAsHeir 36 = .ok (.invokevirtual 156, 3) := by decide +kernel
theorem dX9_hasChildOfAgeAsHeir_39 : decode cX9_hasChildOfAgeAsHeir 39 = .ok (.aload_n 0, 1) := by decide +kernel
theorem dX9_hasChildOfAgeAsHeir_40 : decode cX9_hasChildOfAgeAsHeir 40 = .ok (.getfield 44, 3) := by decide +kernel
theorem dX9_hasChildOfAgeAsHeir_43 : decode cX9_hasChildOfAgeAsHeir 43 = .ok (.aload_n 0, 1) := by decide +kernel
theorem dX9_hasChildOfAgeAsHeir_44 : decode cX9_hasChildOfAgeAsHeir 44 = .ok (.getfield 19, 3) := by decide +kernel
theorem dX9_hasChildOfAgeAsHeir_47 : decode cX9_hasChildOfAgeAsHeir 47 = .ok (.getfield 91, 3) := by decide +kernel
theorem dX9_hasChildOfAgeAsHeir_50 : decode cX9_hasChildOfAgeAsHeir 50 = .ok (.invokevirtual 160, 3) := by decide +kernel
theorem dX9_hasChildOfAgeAsHeir_53 : decode cX9_hasChildOfAgeAsHeir 53 = .ok (.istore_n 1, 1) := by decide +kernel
theorem dX9_hasChildOfAgeAsHeir_54 : decode cX9_hasChildOfAgeAsHeir 54 = .ok (.iload_n 1, 1) := by decide +kernel
theorem dX9_hasChildOfAgeAsHeir_55 : decode cX9_hasChildOfAgeAsHeir 55 = .ok (.bipush (-9), 2) := by decide +kernel
theorem dX9_hasChildOfAgeAsHeir_57 : decode cX9_hasChildOfAgeAsHeir 57 = .ok (.if_icmp .eq 37, 3) := by decide +kernel
theorem dX9_hasChildOfAgeAsHeir_60 : decode cX9_hasChildOfAgeAsHeir 60 = .ok (.aload_n 0, 1) := by decide +kernel
theorem dX9_hasChildOfAgeAsHeir_61 : decode cX9_hasChildOfAgeAsHeir 61 = .ok (.getfield 19, 3) := by decide +kernel
theorem dX9_hasChildOfAgeAsHeir_64 : decode cX9_hasChildOfAgeAsHeir 64 = .ok (.iload_n 1, 1) := by decide +kernel
theorem dX9_hasChildOfAgeAsHeir_65 : decode cX9_hasChildOfAgeAsHeir 65 = .ok (.invokevirtual 115, 3) := by decide +kernel
theorem dX9_hasChildOfAgeAsHeir_68 : decode cX9_hasChildOfAgeAsHeir 68 = .ok (.aload_n 0, 1) := by decide +kernel
theorem dX9_hasChildOfAgeAsHeir_69 : decode cX9_hasChildOfAgeAsHeir 69 = .ok (.getfield 19, 3) := by decide +kernel
theorem dX9_hasChildOfAgeAsHeir_72 : decode cX9_hasChildOfAgeAsHeir 72 = .ok (.getfield 94, 3) := by decide +kernel
theorem dX9_hasChildOfAgeAsHeir_75 : decode cX9_hasChildOfAgeAsHeir 75 = .ok (.if_icmp .ne 19, 3) := by decide +kernel
theorem dX9_hasChildOfAgeAsHeir_78 : decode cX9_hasChildOfAgeAsHeir 78 = .ok (.aload_n 0, 1) := by decide +kernel
theorem dX9_hasChildOfAgeAsHeir_79 : decode cX9_hasChildOfAgeAsHeir 79 = .ok (.getfield 19, 3) := by decide +kernel
theorem dX9_hasChildOfAgeAsHeir_82 : decode cX9_hasChildOfAgeAsHeir 82 = .ok (.iload_n 1, 1) := by decide +kernel
theorem dX9_hasChildOfAgeAsHeir_83 : decode cX9_hasChildOfAgeAsHeir 83 = .ok (.invokevirtual 122, 3) := by decide +kernel
theorem dX9_hasChildOfAgeAsHeir_86 : decode cX9_hasChildOfAgeAsHeir 86 = .ok (.iconst 2, 1) := by decide +kernel
theorem dX9_hasChildOfAgeAsHeir_87 : decode cX9_hasChildOfAgeAsHeir 87 = .ok (.if_icmp .lt 7, 3) := by decide +kernel
theorem dX9_hasChildOfAgeAsHeir_90 : decode cX9_hasChildOfAgeAsHeir 90 = .ok (.iconst 1, 1) := by decide +kernel
theorem dX9_hasChildOfAgeAsHeir_91 : decode cX9_hasChildOfAgeAsHeir 91 = .ok (.goto 4, 3) := by decide +kernel
theorem dX9_hasChildOfAgeAsHeir_94 : decode cX9_hasChildOfAgeAsHeir 94 = .ok (.iconst 0, 1) := by decide +kernel
theorem dX9_hasChildOfAgeAsHeir_95 : decode cX9_hasChildOfAgeAsHeir 95 = .ok (.ireturn, 1) := by decide +kernel
theorem dX10_init_0 : decode cX10_init 0 = .ok (.aload_n 0, 1) := by decide +kernel
theorem dX10_init_1 : decode cX10_init 1 = .ok (.invokespecial 1, 3) := by decide +kernel
theorem dX10_init_4 : decode cX10_init 4 = .ok (.aload_n 0, 1) := by decide +kernel
theorem dX10_init_5 : decode cX10_init 5 = .ok (.bipush 40, 2) := by decide +kernel
theorem dX10_init_7 : decode cX10_init 7 = .ok (.newarray .int, 2) := by decide +kernel
theorem dX10_init_9 : decode cX10_init 9 = .ok (.putfield 7, 3) := by decide +kernel
theorem dX10_init_12 : decode cX10_init 12 = .ok (.aload_n 0, 1) := by decide +kernel
theorem dX10_init_13 : decode cX10_init 13 = .ok (.bipush 21, 2) := by decide +kernel
theorem dX10_init_15 : decode cX10_init 15 = .ok (.newarray .int, 2) := by decide +kernel
theorem dX10_init_17 : decode cX10_init 17 = .ok (.putfield 13, 3) := by decide +kernel
theorem dX10_init_20 : decode cX10_init 20 = .ok (.aload_n 0, 1) := by decide +kernel
theorem dX10_init_21 : decode cX10_init 21 = .ok (.bipush 22, 2) := by decide +kernel
theorem dX10_init_23 : decode cX10_init 23 = .ok (.newarray .int, 2) := by decide +kernel
theorem dX10_init_25 : decode cX10_init 25 = .ok (.putfield 16, 3) := by decide +kernel
theorem dX10_init_28 : decode cX10_init 28 = .ok (.aload_n 0, 1) := by decide +kernel
theorem dX10_init_29 : decode cX10_init 29 = .ok (.bipush 22, 2) := by decide +kernel
theorem dX10_init_31 : decode cX10_init 31 = .ok (.newarray .int, 2) := by decide +kernel
theorem dX10_init_33 : decode cX10_init 33 = .ok (.putfield 19, 3) := by decide +kernel
theorem dX10_init_36 : decode cX10_init 36 = .ok (.aload_n 0, 1) := by decide +kernel
theorem dX10_init_37 : decode cX10_init 37 = .ok (.sipush 308, 3) := by decide +kernel
theorem dX10_init_40 : decode cX10_init 40 = .ok (.newarray .int, 2) := by decide +kernel
theorem dX10_init_42 : decode cX10_init 42 = .ok (.putfield 22, 3) := by decide +kernel
theorem dX10_init_45 : decode cX10_init 45 = .ok (.aload_n 0, 1) := by decide +kernel
theorem dX10_init_46 : decode cX10_init 46 = .ok (.bipush 44, 2) := by decide +kernel
theorem dX10_init_48 : decode cX10_init 48 = .ok (.newarray .int, 2) := by decide +kernel
theorem dX10_init_50 : decode cX10_init 50 = .ok (.putfield 25, 3) := by decide +kernel
theorem dX10_init_53 : decode cX10_init 53 = .ok (.aload_n 0, 1) := by decide +kernel
theorem dX10_init_54 : decode cX10_init 54 = .ok (.iconst 2, 1) := by decide +kernel
theorem dX10_init_55 : decode cX10_init 55 = .ok (.newarray .boolean, 2) := by decide +kernel
theorem dX10_init_57 : decode cX10_init 57 = .ok (.putfield 28, 3) := by decide +kernel
theorem dX10_init_60 : decode cX10_init 60 = .ok (.aload_n 0, 1) := by decide +kernel
theorem dX10_init_61 : decode cX10_init 61 = .ok (.bipush 8, 2) := by decide +kernel
theorem dX10_init_63 : decode cX10_init 63 = .ok (.newarray .int, 2) := by decide +kernel
theorem dX10_init_65 : decode cX10_init 65 = .ok (.putfield 32, 3) := by decide +kernel
theorem dX10_init_68 : decode cX10_init 68 = .ok (.aload_n 0, 1) := by decide +kernel
theorem dX10_init_69 : decode cX10_init 69 = .ok (.bipush 8, 2) := by decide +kernel
theorem dX10_init_71 : decode cX10_init 71 = .ok (.newarray .int, 2) := by decide +kernel
theorem dX10_init_73 : decode cX10_init 73 = .ok (.putfield 35, 3) := by decide +kernel
theorem dX10_init_76 : decode cX10_init 76 = .ok (.aload_n 0, 1) := by decide +kernel
theorem dX10_init_77 : decode cX10_init 77 = .ok (.sipush 2048, 3) := by decide +kernel
theorem dX10_init_80 : decode cX10_init 80 = .ok (.newarray .int, 2) := by decide +kernel
theorem dX10_init_82 : decode cX10_init 82 = .ok (.putfield 38, 3) := by decide +kernel
theorem dX10_init_85 : decode cX10_init 85 = .ok (.aload_n 0, 1) := by decide +kernel
theorem dX10_init_86 : decode cX10_init 86 = .ok (.getfield 16, 3) := by decide +kernel
theorem dX10_init_89 : decode cX10_init 89 = .ok (.iconst 1, 1) := by decide +kernel
theorem dX10_init_90 : decode cX10_init 90 = .ok (.bipush (-9), 2) := by decide +kernel
theorem dX10_init_92 : decode cX10_init 92 = .ok (.iastore, 1) := by decide +kernel
theorem dX10_init_93 : decode cX10_init 93 = .ok (.return_, 1) := by decide +kernel
theorem dX10_in_0 : decode cX10_in 0 = .ok (.lload_n 0, 1) := by decide +kernel
theorem dX10_in_1 : decode cX10_in 1 = .ok (.lload_n 2, 1) := by decide +kernel
theorem dX10_in_2 : decode cX10_in 2 = .ok (.lcmp, 1) := by decide +kernel
theorem dX10_in_3 : decode cX10_in 3 = .ok (.ifCond .lt 14, 3) := by decide +kernel
theorem dX10_in_6 : decode cX10_in 6 = .ok (.lload_n 0, 1) := by decide +kernel
theorem dX10_in_7 : decode cX10_in 7 = .ok (.lload 4, 2) := by decide +kernel
theorem dX10_in_9 : decode cX10_in 9 = .ok (.lcmp, 1) := by decide +kernel
theorem dX10_in_10 : decode cX10_in 10 = .ok (.ifCond .gt 7, 3) := by decide +kernel
theorem dX10_in_13 : decode cX10_in 13 = .ok (.iconst 1, 1) := by decide +kernel
theorem dX10_in_14 : decode cX10_in 14 = .ok (.goto 4, 3) := by decide +kernel
theorem dX10_in_17 : decode cX10_in 17 = .ok (.iconst 0, 1) := by decide +kernel
theorem dX10_in_18 : decode cX10_in 18 = .ok (.ireturn, 1) := by decide +kernel
theorem dX10_has_0 : decode cX10_has 0 = .ok (.iload_n 0, 1) := by decide +kernel
theorem dX10_has_1 : decode cX10_has 1 = .ok (.iload_n 1, 1) := by decide +kernel
theorem dX10_has_2 : decode cX10_has 2 = .ok (.ishr, 1) := by decide +kernel
theorem dX10_has_3 : decode cX10_has 3 = .ok (.iconst 1, 1) := by decide +kernel
theorem dX10_has_4 : decode cX10_has 4 = .ok (.iand, 1) := by decide +kernel
theorem dX10_has_5 : decode cX10_has 5 = .ok (.iconst 1, 1) := by decide +kernel
theorem dX10_has_6 : decode cX10_has 6 = .ok (.if_icmp .ne 7, 3) := by decide +kernel
theorem dX10_has_9 : decode cX10_has 9 = .ok (.iconst 1, 1) := by decide +kernel
theorem dX10_has_10 : decode cX10_has 10 = .ok (.goto 4, 3) := by decide +kernel
theorem dX10_has_13 : decode cX10_has 13 = .ok (.iconst 0, 1) := by decide +kernel
theorem dX10_has_14 : decode cX10_has 14 = .ok (.ireturn, 1) := by decide +kernel
theorem dX10_noPerson_0 : decode cX10_noPerson 0 = .ok (.iload_n 1, 1) := by decide +kernel
theorem dX10_noPerson_1 : decode cX10_noPerson 1 = .ok (.i2l, 1) := by decide +kernel
theorem dX10_noPerson_2 : decode cX10_noPerson 2 = .ok (.lconst 0, 1) := by decide +kernel
theorem dX10_noPerson_3 : decode cX10_noPerson 3 = .ok (.aload_n 0, 1) := by decide +kernel
theorem dX10_noPerson_4 : decode cX10_noPerson 4 = .ok (.getfield 16, 3) := by decide +kernel
theorem dX10_noPerson_7 : decode cX10_noPerson 7 = .ok (.bipush 6, 2) := by decide +kernel
theorem dX10_noPerson_9 : decode cX10_noPerson 9 = .ok (.iaload, 1) := by decide +kernel
theorem dX10_noPerson_10 : decode cX10_noPerson 10 = .ok (.iconst 1, 1) := by decide +kernel
theorem dX10_noPerson_11 : decode cX10_noPerson 11 = .ok (.isub, 1) := by decide +kernel
theorem dX10_noPerson_12 : decode cX10_noPerson 12 = .ok (.i2l, 1) := by decide +kernel
theorem dX10_noPerson_13 : decode cX10_noPerson 13 = .ok (.invokestatic 45, 3) := by decide +kernel
theorem dX10_noPerson_16 : decode cX10_noPerson 16 = .ok (.ifCond .ne 7, 3) := by decide +kernel
theorem dX10_noPerson_19 : decode cX10_noPerson 19 = .ok (.iconst 1, 1) := by decide +kernel
theorem dX10_noPerson_20 : decode cX10_noPerson 20 = .ok (.goto 4, 3) := by decide +kernel
theorem dX10_noPerson_23 : decode cX10_noPerson 23 = .ok (.iconst 0, 1) := by decide +kernel
theorem dX10_noPerson_24 : decode cX10_noPerson 24 = .ok (.ireturn, 1) := by decide +kernel
theorem dX10_noTie_0 : decode cX10_noTie 0 = .ok (.iload_n 0, 1) := by decide +kernel
theorem dX10_noTie_1 : decode cX10_noTie 1 = .ok (.i2l, 1) := by decide +kernel
theorem dX10_noTie_2 : decode cX10_noTie 2 = .ok (.lconst 0, 1) := by decide +kernel
theorem dX10_noTie_3 : decode cX10_noTie 3 = .ok (.ldc2_w 49, 3) := by decide +kernel
theorem dX10_noTie_6 : decode cX10_noTie 6 = .ok (.invokestatic 45, 3) := by decide +kernel
theorem dX10_noTie_9 : decode cX10_noTie 9 = .ok (.ifCond .ne 7, 3) := by decide +kernel
theorem dX10_noTie_12 : decode cX10_noTie 12 = .ok (.iconst 1, 1) := by decide +kernel
theorem dX10_noTie_13 : decode cX10_noTie 13 = .ok (.goto 4, 3) := by decide +kernel
theorem dX10_noTie_16 : decode cX10_noTie 16 = .ok (.iconst 0, 1) := by decide +kernel
theorem dX10_noTie_17 : decode cX10_noTie 17 = .ok (.ireturn, 1) := by decide +kernel
theorem dX10_write_0 : decode cX10_write 0 = .ok (.aload_n 0, 1) := by decide +kernel
theorem dX10_write_1 : decode cX10_write 1 = .ok (.iconst 0, 1) := by decide +kernel
theorem dX10_write_2 : decode cX10_write 2 = .ok (.putfield 41, 3) := by decide +kernel
theorem dX10_write_5 : decode cX10_write 5 = .ok (.iload_n 1, 1) := by decide +kernel
theorem dX10_write_6 : decode cX10_write 6 = .ok (.i2l, 1) := by decide +kernel
theorem dX10_write_7 : decode cX10_write 7 = .ok (.lconst 0, 1) := by decide +kernel
theorem dX10_write_8 : decode cX10_write 8 = .ok (.ldc2_w 51, 3) := by decide +kernel
theorem dX10_write_11 : decode cX10_write 11 = .ok (.invokestatic 45, 3) := by decide +kernel
theorem dX10_write_14 : decode cX10_write 14 = .ok (.ifCond .ne 6, 3) := by decide +kernel
theorem dX10_write_17 : decode cX10_write 17 = .ok (.bipush (-2), 2) := by decide +kernel
theorem dX10_write_19 : decode cX10_write 19 = .ok (.ireturn, 1) := by decide +kernel
theorem dX10_write_20 : decode cX10_write 20 = .ok (.aload_n 0, 1) := by decide +kernel
theorem dX10_write_21 : decode cX10_write 21 = .ok (.getfield 53, 3) := by decide +kernel
theorem dX10_write_24 : decode cX10_write 24 = .ok (.bipush 40, 2) := by decide +kernel
theorem dX10_write_26 : decode cX10_write 26 = .ok (.if_icmp .ne 6, 3) := by decide +kernel
theorem dX10_write_29 : decode cX10_write 29 = .ok (.bipush (-4), 2) := by decide +kernel
theorem dX10_write_31 : decode cX10_write 31 = .ok (.ireturn, 1) := by decide +kernel
theorem dX10_write_32 : decode cX10_write 32 = .ok (.aload_n 0, 1) := by decide +kernel
theorem dX10_write_33 : decode cX10_write 33 = .ok (.getfield 7, 3) := by decide +kernel
theorem dX10_write_36 : decode cX10_write 36 = .ok (.aload_n 0, 1) := by decide +kernel
theorem dX10_write_37 : decode cX10_write 37 = .ok (.getfield 53, 3) := by decide +kernel
theorem dX10_write_40 : decode cX10_write 40 = .ok (.iload_n 1, 1) := by decide +kernel
theorem dX10_write_41 : decode cX10_write 41 = .ok (.iastore, 1) := by decide +kernel
theorem dX10_write_42 : decode cX10_write 42 = .ok (.aload_n 0, 1) := by decide +kernel
theorem dX10_write_43 : decode cX10_write 43 = .ok (.dup, 1) := by decide +kernel
theorem dX10_write_44 : decode cX10_write 44 = .ok (.getfield 53, 3) := by decide +kernel
theorem dX10_write_47 : decode cX10_write 47 = .ok (.iconst 1, 1) := by decide +kernel
theorem dX10_write_48 : decode cX10_write 48 = .ok (.iadd, 1) := by decide +kernel
theorem dX10_write_49 : decode cX10_write 49 = .ok (.putfield 53, 3) := by decide +kernel
theorem dX10_write_52 : decode cX10_write 52 = .ok (.aload_n 0, 1) := by decide +kernel
theorem dX10_write_53 : decode cX10_write 53 = .ok (.getfield 53, 3) := by decide +kernel
theorem dX10_write_56 : decode cX10_write 56 = .ok (.ireturn, 1) := by decide +kernel
theorem dX10_wipe_0 : decode cX10_wipe 0 = .ok (.aload_n 0, 1) := by decide +kernel
theorem dX10_wipe_1 : decode cX10_wipe 1 = .ok (.iconst 0, 1) := by decide +kernel
theorem dX10_wipe_2 : decode cX10_wipe 2 = .ok (.putfield 41, 3) := by decide +kernel
theorem dX10_wipe_5 : decode cX10_wipe 5 = .ok (.aload_n 0, 1) := by decide +kernel
theorem dX10_wipe_6 : decode cX10_wipe 6 = .ok (.getfield 53, 3) := by decide +kernel
theorem dX10_wipe_9 : decode cX10_wipe 9 = .ok (.istore_n 1, 1) := by decide +kernel
theorem dX10_wipe_10 : decode cX10_wipe 10 = .ok (.aload_n 0, 1) := by decide +kernel
theorem dX10_wipe_11 : decode cX10_wipe 11 = .ok (.iconst 0, 1) := by decide +kernel
theorem dX10_wipe_12 : decode cX10_wipe 12 = .ok (.putfield 53, 3) := by decide +kernel
theorem dX10_wipe_15 : decode cX10_wipe 15 = .ok (.iload_n 1, 1) := by decide +kernel
theorem dX10_wipe_16 : decode cX10_wipe 16 = .ok (.ireturn, 1) := by decide +kernel
theorem dX10_figure_0 : decode cX10_figure 0 = .ok (.aload_n 0, 1) := by decide +kernel
theorem dX10_figure_1 : decode cX10_figure 1 = .ok (.getfield 56, 3) := by decide +kernel
theorem dX10_figure_4 : decode cX10_figure 4 = .ok (.aload_n 0, 1) := by decide +kernel
theorem dX10_figure_5 : decode cX10_figure 5 = .ok (.getfield 53, 3) := by decide +kernel
theorem dX10_figure_8 : decode cX10_figure 8 = .ok (.if_icmp .eq 26, 3) := by decide +kernel
theorem dX10_figure_11 : decode cX10_figure 11 = .ok (.aload_n 0, 1) := by decide +kernel
theorem dX10_figure_12 : decode cX10_figure 12 = .ok (.getfield 7, 3) := by decide +kernel
theorem dX10_figure_15 : decode cX10_figure 15 = .ok (.aload_n 0, 1) := by decide +kernel
theorem dX10_figure_16 : decode cX10_figure 16 = .ok (.getfield 56, 3) := by decide +kernel
theorem dX10_figure_19 : decode cX10_figure 19 = .ok (.iaload, 1) := by decide +kernel
theorem dX10_figure_20 : decode cX10_figure 20 = .ok (.bipush 48, 2) := by decide +kernel
theorem dX10_figure_22 : decode cX10_figure 22 = .ok (.isub, 1) := by decide +kernel
theorem dX10_figure_23 : decode cX10_figure 23 = .ok (.i2l, 1) := by decide +kernel
theorem dX10_figure_24 : decode cX10_figure 24 = .ok (.iload_n 1, 1) := by decide +kernel
theorem dX10_figure_25 : decode cX10_figure 25 = .ok (.i2l, 1) := by decide +kernel
theorem dX10_figure_26 : decode cX10_figure 26 = .ok (.iload_n 2, 1) := by decide +kernel
theorem dX10_figure_27 : decode cX10_figure 27 = .ok (.i2l, 1) := by decide +kernel
theorem dX10_figure_28 : decode cX10_figure 28 = .ok (.invokestatic 45, 3) := by decide +kernel
theorem dX10_figure_31 : decode cX10_figure 31 = .ok (.ifCond .ne 6, 3) := by decide +kernel
theorem dX10_figure_34 : decode cX10_figure 34 = .ok (.bipush (-9), 2) := by decide +kernel
theorem dX10_figure_36 : decode cX10_figure 36 = .ok (.ireturn, 1) := by decide +kernel
theorem dX10_figure_37 : decode cX10_figure 37 = .ok (.aload_n 0, 1) := by decide +kernel
theorem dX10_figure_38 : decode cX10_figure 38 = .ok (.dup, 1) := by decide +kernel
theorem dX10_figure_39 : decode cX10_figure 39 = .ok (.getfield 56, 3) := by decide +kernel
theorem dX10_figure_42 : decode cX10_figure 42 = .ok (.iconst 1, 1) := by decide +kernel
theorem dX10_figure_43 : decode cX10_figure 43 = .ok (.iadd, 1) := by decide +kernel
theorem dX10_figure_44 : decode cX10_figure 44 = .ok (.putfield 56, 3) := by decide +kernel
theorem dX10_figure_47 : decode cX10_figure 47 = .ok (.aload_n 0, 1) := by decide +kernel
theorem dX10_figure_48 : decode cX10_figure 48 = .ok (.getfield 7, 3) := by decide +kernel
theorem dX10_figure_51 : decode cX10_figure 51 = .ok (.aload_n 0, 1) := by decide +kernel
theorem dX10_figure_52 : decode cX10_figure 52 = .ok (.getfield 56, 3) := by decide +kernel
theorem dX10_figure_55 : decode cX10_figure 55 = .ok (.iconst 1, 1) := by decide +kernel
theorem dX10_figure_56 : decode cX10_figure 56 = .ok (.isub, 1) := by decide +kernel
theorem dX10_figure_57 : decode cX10_figure 57 = .ok (.iaload, 1) := by decide +kernel
theorem dX10_figure_58 : decode cX10_figure 58 = .ok (.bipush 48, 2) := by decide +kernel
theorem dX10_figure_60 : decode cX10_figure 60 = .ok (.isub, 1) := by decide +kernel
theorem dX10_figure_61 : decode cX10_figure 61 = .ok (.ireturn, 1) := by decide +kernel
theorem dX10_readPerson_0 : decode cX10_readPerson 0 = .ok (.aload_n 0, 1) := by decide +kernel
theorem dX10_readPerson_1 : decode cX10_readPerson 1 = .ok (.iconst 0, 1) := by decide +kernel
theorem dX10_readPerson_2 : decode cX10_readPerson 2 = .ok (.aload_n 0, 1) := by decide +kernel
theorem dX10_readPerson_3 : decode cX10_readPerson 3 = .ok (.getfield 59, 3) := by decide +kernel
theorem dX10_readPerson_6 : decode cX10_readPerson 6 = .ok (.ifCond .ne 7, 3) := by decide +kernel
theorem dX10_readPerson_9 : decode cX10_readPerson 9 = .ok (.iconst 0, 1) := by decide +kernel
theorem dX10_readPerson_10 : decode cX10_readPerson 10 = .ok (.goto 9, 3) := by decide +kernel
theorem dX10_readPerson_13 : decode cX10_readPerson 13 = .ok (.aload_n 0, 1) := by decide +kernel
theorem dX10_readPerson_14 : decode cX10_readPerson 14 = .ok (.getfield 59, 3) := by decide +kernel
theorem dX10_readPerson_17 : decode cX10_readPerson 17 = .ok (.iconst 1, 1) := by decide +kernel
theorem dX10_readPerson_18 : decode cX10_readPerson 18 = .ok (.isub, 1) := by decide +kernel
theorem dX10_readPerson_19 : decode cX10_readPerson 19 = .ok (.invokevirtual 62, 3) := by decide +kernel
theorem dX10_readPerson_22 : decode cX10_readPerson 22 = .ok (.istore_n 1, 1) := by decide +kernel
theorem dX10_readPerson_23 : decode cX10_readPerson 23 = .ok (.iload_n 1, 1) := by decide +kernel
theorem dX10_readPerson_24 : decode cX10_readPerson 24 = .ok (.bipush (-9), 2) := by decide +kernel
theorem dX10_readPerson_26 : decode cX10_readPerson 26 = .ok (.if_icmp .ne 8, 3) := by decide +kernel
theorem dX10_readPerson_29 : decode cX10_readPerson 29 = .ok (.bipush (-9), 2) := by decide +kernel
theorem dX10_readPerson_31 : decode cX10_readPerson 31 = .ok (.goto 9, 3) := by decide +kernel
theorem dX10_readPerson_34 : decode cX10_readPerson 34 = .ok (.aload_n 0, 1) := by decide +kernel
theorem dX10_readPerson_35 : decode cX10_readPerson 35 = .ok (.iconst 0, 1) := by decide +kernel
theorem dX10_readPerson_36 : decode cX10_readPerson 36 = .ok (.iconst 1, 1) := by decide +kernel
theorem dX10_readPerson_37 : decode cX10_readPerson 37 = .ok (.invokevirtual 62, 3) := by decide +kernel
theorem dX10_readPerson_40 : decode cX10_readPerson 40 = .ok (.istore_n 2, 1) := by decide +kernel
theorem dX10_readPerson_41 : decode cX10_readPerson 41 = .ok (.iload_n 2, 1) := by decide +kernel
theorem dX10_readPerson_42 : decode cX10_readPerson 42 = .ok (.bipush (-9), 2) := by decide +kernel
theorem dX10_readPerson_44 : decode cX10_readPerson 44 = .ok (.if_icmp .ne 8, 3) := by decide +kernel
theorem dX10_readPerson_47 : decode cX10_readPerson 47 = .ok (.bipush (-9), 2) := by decide +kernel
theorem dX10_readPerson_49 : decode cX10_readPerson 49 = .ok (.goto 10, 3) := by decide +kernel
theorem dX10_readPerson_52 : decode cX10_readPerson 52 = .ok (.aload_n 0, 1) := by decide +kernel
theorem dX10_readPerson_53 : decode cX10_readPerson 53 = .ok (.iconst 0, 1) := by decide +kernel
theorem dX10_readPerson_54 : decode cX10_readPerson 54 = .ok (.bipush 9, 2) := by decide +kernel
theorem dX10_readPerson_56 : decode cX10_readPerson 56 = .ok (.invokevirtual 62, 3) := by decide +kernel
theorem dX10_readPerson_59 : decode cX10_readPerson 59 = .ok (.istore_n 3, 1) := by decide +kernel
theorem dX10_readPerson_60 : decode cX10_readPerson 60 = .ok (.iload_n 3, 1) := by decide +kernel
theorem dX10_readPerson_61 : decode cX10_readPerson 61 = .ok (.bipush (-9), 2) := by decide +kernel
theorem dX10_readPerson_63 : decode cX10_readPerson 63 = .ok (.if_icmp .ne 5, 3) := by decide +kernel
theorem dX10_readPerson_66 : decode cX10_readPerson 66 = .ok (.iconst 0, 1) := by decide +kernel
theorem dX10_readPerson_67 : decode cX10_readPerson 67 = .ok (.ireturn, 1) := by decide +kernel
theorem dX10_readPerson_68 : decode cX10_readPerson 68 = .ok (.aload_n 0, 1) := by decide +kernel
theorem dX10_readPerson_69 : decode cX10_readPerson 69 = .ok (.getfield 13, 3) := by decide +kernel
theorem dX10_readPerson_72 : decode cX10_readPerson 72 = .ok (.iconst 3, 1) := by decide +kernel
theorem dX10_readPerson_73 : decode cX10_readPerson 73 = .ok (.aload_n 0, 1) := by decide +kernel
theorem dX10_readPerson_74 : decode cX10_readPerson 74 = .ok (.getfield 59, 3) := by decide +kernel
theorem dX10_readPerson_77 : decode cX10_readPerson 77 = .ok (.imul, 1) := by decide +kernel
theorem dX10_readPerson_78 : decode cX10_readPerson 78 = .ok (.aload_n 0, 1) := by decide +kernel
theorem dX10_readPerson_79 : decode cX10_readPerson 79 = .ok (.getfield 59, 3) := by decide +kernel
theorem dX10_readPerson_82 : decode cX10_readPerson 82 = .ok (.ifCond .ne 8, 3) := by decide +kernel
theorem dX10_readPerson_85 : decode cX10_readPerson 85 = .ok (.bipush (-9), 2) := by decide +kernel
theorem dX10_readPerson_87 : decode cX10_readPerson 87 = .ok (.goto 4, 3) := by decide +kernel
theorem dX10_readPerson_90 : decode cX10_readPerson 90 = .ok (.iload_n 1, 1) := by decide +kernel
theorem dX10_readPerson_91 : decode cX10_readPerson 91 = .ok (.iastore, 1) := by decide +kernel
theorem dX10_readPerson_92 : decode cX10_readPerson 92 = .ok (.aload_n 0, 1) := by decide +kernel
theorem dX10_readPerson_93 : decode cX10_readPerson 93 = .ok (.getfield 13, 3) := by decide +kernel
theorem dX10_readPerson_96 : decode cX10_readPerson 96 = .ok (.iconst 3, 1) := by decide +kernel
theorem dX10_readPerson_97 : decode cX10_readPerson 97 = .ok (.aload_n 0, 1) := by decide +kernel
theorem dX10_readPerson_98 : decode cX10_readPerson 98 = .ok (.getfield 59, 3) := by decide +kernel
theorem dX10_readPerson_101 : decode cX10_readPerson 101 = .ok (.imul, 1) := by decide +kernel
theorem dX10_readPerson_102 : decode cX10_readPerson 102 = .ok (.iconst 1, 1) := by decide +kernel
theorem dX10_readPerson_103 : decode cX10_readPerson 103 = .ok (.iadd, 1) := by decide +kernel
theorem dX10_readPerson_104 : decode cX10_readPerson 104 = .ok (.iload_n 2, 1) := by decide +kernel
theorem dX10_readPerson_105 : decode cX10_readPerson 105 = .ok (.iastore, 1) := by decide +kernel
theorem dX10_readPerson_106 : decode cX10_readPerson 106 = .ok (.aload_n 0, 1) := by decide +kernel
theorem dX10_readPerson_107 : decode cX10_readPerson 107 = .ok (.getfield 13, 3) := by decide +kernel
theorem dX10_readPerson_110 : decode cX10_readPerson 110 = .ok (.iconst 3, 1) := by decide +kernel
theorem dX10_readPerson_111 : decode cX10_readPerson 111 = .ok (.aload_n 0, 1) := by decide +kernel
theorem dX10_readPerson_112 : decode cX10_readPerson 112 = .ok (.getfield 59, 3) := by decide +kernel
theorem dX10_readPerson_115 : decode cX10_readPerson 115 = .ok (.imul, 1) := by decide +kernel
theorem dX10_readPerson_116 : decode cX10_readPerson 116 = .ok (.iconst 2, 1) := by decide +kernel
theorem dX10_readPerson_117 : decode cX10_readPerson 117 = .ok (.iadd, 1) := by decide +kernel
theorem dX10_readPerson_118 : decode cX10_readPerson 118 = .ok (.iload_n 3, 1) := by decide +kernel
theorem dX10_readPerson_119 : decode cX10_readPerson 119 = .ok (.iastore, 1) := by decide +kernel
theorem dX10_readPerson_120 : decode cX10_readPerson 120 = .ok (.aload_n 0, 1) := by decide +kernel
theorem dX10_readPerson_121 : decode cX10_readPerson 121 = .ok (.dup, 1) := by decide +kernel
theorem dX10_readPerson_122 : decode cX10_readPerson 122 = .ok (.getfield 59, 3) := by decide +kernel
theorem dX10_readPerson_125 : decode cX10_readPerson 125 = .ok (.iconst 1, 1) := by decide +kernel
theorem dX10_readPerson_126 : decode cX10_readPerson 126 = .ok (.iadd, 1) := by decide +kernel
theorem dX10_readPerson_127 : decode cX10_readPerson 127 = .ok (.putfield 59, 3) := by decide +kernel
theorem dX10_readPerson_130 : decode cX10_readPerson 130 = .ok (.iconst 1, 1) := by decide +kernel
theorem dX10_readPerson_131 : decode cX10_readPerson 131 = .ok (.ireturn, 1) := by decide +kernel
theorem dX10_readLand_0 : decode cX10_readLand 0 = .ok (.aload_n 0, 1) := by decide +kernel
theorem dX10_readLand_1 : decode cX10_readLand 1 = .ok (.iconst 0, 1) := by decide +kernel
theorem dX10_readLand_2 : decode cX10_readLand 2 = .ok (.putfield 56, 3) := by decide +kernel
theorem dX10_readLand_5 : decode cX10_readLand 5 = .ok (.aload_n 0, 1) := by decide +kernel
theorem dX10_readLand_6 : decode cX10_readLand 6 = .ok (.iconst 0, 1) := by decide +kernel
theorem dX10_readLand_7 : decode cX10_readLand 7 = .ok (.putfield 59, 3) := by decide +kernel
theorem dX10_readLand_10 : decode cX10_readLand 10 = .ok (.aload_n 0, 1) := by decide +kernel
theorem dX10_readLand_11 : decode cX10_readLand 11 = .ok (.getfield 53, 3) := by decide +kernel
theorem dX10_readLand_14 : decode cX10_readLand 14 = .ok (.ifCond .eq 14, 3) := by decide +kernel
theorem dX10_readLand_17 : decode cX10_readLand 17 = .ok (.aload_n 0, 1) := by decide +kernel
theorem dX10_readLand_18 : decode cX10_readLand 18 = .ok (.getfield 7, 3) := by decide +kernel
theorem dX10_readLand_21 : decode cX10_readLand 21 = .ok (.iconst 0, 1) := by decide +kernel
theorem dX10_readLand_22 : decode cX10_readLand 22 = .ok (.iaload, 1) := by decide +kernel
theorem dX10_readLand_23 : decode cX10_readLand 23 = .ok (.bipush 84, 2) := by decide +kernel
theorem dX10_readLand_25 : decode cX10_readLand 25 = .ok (.if_icmp .eq 5, 3) := by decide +kernel
theorem dX10_readLand_28 : decode cX10_readLand 28 = .ok (.iconst 0, 1) := by decide +kernel
theorem dX10_readLand_29 : decode cX10_readLand 29 = .ok (.ireturn, 1) := by decide +kernel
theorem dX10_readLand_30 : decode cX10_readLand 30 = .ok (.aload_n 0, 1) := by decide +kernel
theorem dX10_readLand_31 : decode cX10_readLand 31 = .ok (.iconst 1, 1) := by decide +kernel
theorem dX10_readLand_32 : decode cX10_readLand 32 = .ok (.putfield 56, 3) := by decide +kernel
theorem dX10_readLand_35 : decode cX10_readLand 35 = .ok (.aload_n 0, 1) := by decide +kernel
theorem dX10_readLand_36 : decode cX10_readLand 36 = .ok (.aload_n 0, 1) := by decide +kernel
theorem dX10_readLand_37 : decode cX10_readLand 37 = .ok (.iconst 0, 1) := by decide +kernel
theorem dX10_readLand_38 : decode cX10_readLand 38 = .ok (.iconst 3, 1) := by decide +kernel
theorem dX10_readLand_39 : decode cX10_readLand 39 = .ok (.invokevirtual 62, 3) := by decide +kernel
theorem dX10_readLand_42 : decode cX10_readLand 42 = .ok (.putfield 66, 3) := by decide +kernel
theorem dX10_readLand_45 : decode cX10_readLand 45 = .ok (.aload_n 0, 1) := by decide +kernel
theorem dX10_readLand_46 : decode cX10_readLand 46 = .ok (.aload_n 0, 1) := by decide +kernel
theorem dX10_readLand_47 : decode cX10_readLand 47 = .ok (.getfield 66, 3) := by decide +kernel
theorem dX10_readLand_50 : decode cX10_readLand 50 = .ok (.bipush (-9), 2) := by decide +kernel
theorem dX10_readLand_52 : decode cX10_readLand 52 = .ok (.if_icmp .ne 8, 3) := by decide +kernel
theorem dX10_readLand_55 : decode cX10_readLand 55 = .ok (.bipush (-9), 2) := by decide +kernel
theorem dX10_readLand_57 : decode cX10_readLand 57 = .ok (.goto 10, 3) := by decide +kernel
theorem dX10_readLand_60 : decode cX10_readLand 60 = .ok (.aload_n 0, 1) := by decide +kernel
theorem dX10_readLand_61 : decode cX10_readLand 61 = .ok (.iconst 0, 1) := by decide +kernel
theorem dX10_readLand_62 : decode cX10_readLand 62 = .ok (.bipush 9, 2) := by decide +kernel
theorem dX10_readLand_64 : decode cX10_readLand 64 = .ok (.invokevirtual 62, 3) := by decide +kernel
theorem dX10_readLand_67 : decode cX10_readLand 67 = .ok (.putfield 69, 3) := by decide +kernel
theorem dX10_readLand_70 : decode cX10_readLand 70 = .ok (.aload_n 0, 1) := by decide +kernel
theorem dX10_readLand_71 : decode cX10_readLand 71 = .ok (.getfield 69, 3) := by decide +kernel
theorem dX10_readLand_74 : decode cX10_readLand 74 = .ok (.bipush (-9), 2) := by decide +kernel
theorem dX10_readLand_76 : decode cX10_readLand 76 = .ok (.if_icmp .ne 8, 3) := by decide +kernel
theorem dX10_readLand_79 : decode cX10_readLand 79 = .ok (.aload_n 0, 1) := by decide +kernel
theorem dX10_readLand_80 : decode cX10_readLand 80 = .ok (.getfield 56, 3) := by decide +kernel
theorem dX10_readLand_83 : decode cX10_readLand 83 = .ok (.ireturn, 1) := by decide +kernel
theorem dX10_readLand_84 : decode cX10_readLand 84 = .ok (.aload_n 0, 1) := by decide +kernel
theorem dX10_readLand_85 : decode cX10_readLand 85 = .ok (.getfield 56, 3) := by decide +kernel
theorem dX10_readLand_88 : decode cX10_readLand 88 = .ok (.aload_n 0, 1) := by decide +kernel
theorem dX10_readLand_89 : decode cX10_readLand 89 = .ok (.getfield 53, 3) := by decide +kernel
theorem dX10_readLand_92 : decode cX10_readLand 92 = .ok (.if_icmp .ge 53, 3) := by decide +kernel
theorem dX10_readLand_95 : decode cX10_readLand 95 = .ok (.aload_n 0, 1) := by decide +kernel
theorem dX10_readLand_96 : decode cX10_readLand 96 = .ok (.getfield 7, 3) := by decide +kernel
theorem dX10_readLand_99 : decode cX10_readLand 99 = .ok (.aload_n 0, 1) := by decide +kernel
theorem dX10_readLand_100 : decode cX10_readLand 100 = .ok (.getfield 56, 3) := by decide +kernel
theorem dX10_readLand_103 : decode cX10_readLand 103 = .ok (.iaload, 1) := by decide +kernel
theorem dX10_readLand_104 : decode cX10_readLand 104 = .ok (.bipush 80, 2) := by decide +kernel
theorem dX10_readLand_106 : decode cX10_readLand 106 = .ok (.if_icmp .ne 12, 3) := by decide +kernel
theorem dX10_readLand_109 : decode cX10_readLand 109 = .ok (.aload_n 0, 1) := by decide +kernel
theorem dX10_readLand_110 : decode cX10_readLand 110 = .ok (.getfield 59, 3) := by decide +kernel
theorem dX10_readLand_113 : decode cX10_readLand 113 = .ok (.bipush 7, 2) := by decide +kernel
theorem dX10_readLand_115 : decode cX10_readLand 115 = .ok (.if_icmp .ne 8, 3) := by decide +kernel
theorem dX10_readLand_118 : decode cX10_readLand 118 = .ok (.aload_n 0, 1) := by decide +kernel
theorem dX10_readLand_119 : decode cX10_readLand 119 = .ok (.getfield 56, 3) := by decide +kernel
theorem dX10_readLand_122 : decode cX10_readLand 122 = .ok (.ireturn, 1) := by decide +kernel
theorem dX10_readLand_123 : decode cX10_readLand 123 = .ok (.aload_n 0, 1) := by decide +kernel
theorem dX10_readLand_124 : decode cX10_readLand 124 = .ok (.dup, 1) := by decide +kernel
theorem dX10_readLand_125 : decode cX10_readLand 125 = .ok (.getfield 56, 3) := by decide +kernel
theorem dX10_readLand_128 : decode cX10_readLand 128 = .ok (.iconst 1, 1) := by decide +kernel
theorem dX10_readLand_129 : decode cX10_readLand 129 = .ok (.iadd, 1) := by decide +kernel
theorem dX10_readLand_130 : decode cX10_readLand 130 = .ok (.putfield 56, 3) := by decide +kernel
theorem dX10_readLand_133 : decode cX10_readLand 133 = .ok (.aload_n 0, 1) := by decide +kernel
theorem dX10_readLand_134 : decode cX10_readLand 134 = .ok (.invokevirtual 72, 3) := by decide +kernel
theorem dX10_readLand_137 : decode cX10_readLand 137 = .ok (.ifCond .ne (-53), 3) := by decide +kernel
theorem dX10_readLand_140 : decode cX10_readLand 140 = .ok (.aload_n 0, 1) := by decide +kernel
theorem dX10_readLand_141 : decode cX10_readLand 141 = .ok (.getfield 56, 3) := by decide +kernel
theorem dX10_readLand_144 : decode cX10_readLand 144 = .ok (.ireturn, 1) := by decide +kernel
theorem dX10_readLand_145 : decode cX10_readLand 145 = .ok (.bipush (-9), 2) := by decide +kernel
theorem dX10_readLand_147 : decode cX10_readLand 147 = .ok (.ireturn, 1) := by decide +kernel
theorem dX10_fault_0 : decode cX10_fault 0 = .ok (.aload_n 0, 1) := by decide +kernel
theorem dX10_fault_1 : decode cX10_fault 1 = .ok (.iconst 0, 1) := by decide +kernel
theorem dX10_fault_2 : decode cX10_fault 2 = .ok (.putfield 41, 3) := by decide +kernel
theorem dX10_fault_5 : decode cX10_fault 5 = .ok (.aload_n 0, 1) := by decide +kernel
theorem dX10_fault_6 : decode cX10_fault 6 = .ok (.invokevirtual 75, 3) := by decide +kernel
theorem dX10_fault_9 : decode cX10_fault 9 = .ok (.ireturn, 1) := by decide +kernel
theorem dX10_land_0 : decode cX10_land 0 = .ok (.aload_n 0, 1) := by decide +kernel
theorem dX10_land_1 : decode cX10_land 1 = .ok (.iconst 0, 1) := by decide +kernel
theorem dX10_land_2 : decode cX10_land 2 = .ok (.putfield 41, 3) := by decide +kernel
theorem dX10_land_5 : decode cX10_land 5 = .ok (.aload_n 0, 1) := by decide +kernel
theorem dX10_land_6 : decode cX10_land 6 = .ok (.invokevirtual 75, 3) := by decide +kernel
theorem dX10_land_9 : decode cX10_land 9 = .ok (.bipush (-9), 2) := by decide +kernel
theorem dX10_land_11 : decode cX10_land 11 = .ok (.if_icmp .eq 6, 3) := by decide +kernel
theorem dX10_land_14 : decode cX10_land 14 = .ok (.bipush (-3), 2) := by decide +kernel
theorem dX10_land_16 : decode cX10_land 16 = .ok (.ireturn, 1) := by decide +kernel
theorem dX10_land_17 : decode cX10_land 17 = .ok (.iconst 0, 1) := by decide +kernel
theorem dX10_land_18 : decode cX10_land 18 = .ok (.istore_n 1, 1) := by decide +kernel
theorem dX10_land_19 : decode cX10_land 19 = .ok (.iload_n 1, 1) := by decide +kernel
theorem dX10_land_20 : decode cX10_land 20 = .ok (.bipush 22, 2) := by decide +kernel
theorem dX10_land_22 : decode cX10_land 22 = .ok (.if_icmp .ge 16, 3) := by decide +kernel
theorem dX10_land_25 : decode cX10_land 25 = .ok (.aload_n 0, 1) := by decide +kernel
theorem dX10_land_26 : decode cX10_land 26 = .ok (.getfield 16, 3) := by decide +kernel
theorem dX10_land_29 : decode cX10_land 29 = .ok (.iload_n 1, 1) := by decide +kernel
theorem dX10_land_30 : decode cX10_land 30 = .ok (.iconst 0, 1) := by decide +kernel
theorem dX10_land_31 : decode cX10_land 31 = .ok (.iastore, 1) := by decide +kernel
theorem dX10_land_32 : decode cX10_land 32 = .ok (.iinc 1 1, 3) := by decide +kernel
theorem dX10_land_35 : decode cX10_land 35 = .ok (.goto (-16), 3) := by decide +kernel
theorem dX10_land_38 : decode cX10_land 38 = .ok (.aload_n 0, 1) := by decide +kernel
theorem dX10_land_39 : decode cX10_land 39 = .ok (.getfield 16, 3) := by decide +kernel
theorem dX10_land_42 : decode cX10_land 42 = .ok (.iconst 0, 1) := by decide +kernel
theorem dX10_land_43 : decode cX10_land 43 = .ok (.iconst 1, 1) := by decide +kernel
theorem dX10_land_44 : decode cX10_land 44 = .ok (.aload_n 0, 1) := by decide +kernel
theorem dX10_land_45 : decode cX10_land 45 = .ok (.getfield 59, 3) := by decide +kernel
theorem dX10_land_48 : decode cX10_land 48 = .ok (.ishl, 1) := by decide +kernel
theorem dX10_land_49 : decode cX10_land 49 = .ok (.iconst 1, 1) := by decide +kernel
theorem dX10_land_50 : decode cX10_land 50 = .ok (.isub, 1) := by decide +kernel
theorem dX10_land_51 : decode cX10_land 51 = .ok (.iastore, 1) := by decide +kernel
theorem dX10_land_52 : decode cX10_land 52 = .ok (.aload_n 0, 1) := by decide +kernel
theorem dX10_land_53 : decode cX10_land 53 = .ok (.getfield 16, 3) := by decide +kernel
theorem dX10_land_56 : decode cX10_land 56 = .ok (.iconst 1, 1) := by decide +kernel
theorem dX10_land_57 : decode cX10_land 57 = .ok (.aload_n 0, 1) := by decide +kernel
theorem dX10_land_58 : decode cX10_land 58 = .ok (.getfield 59, 3) := by decide +kernel
theorem dX10_land_61 : decode cX10_land 61 = .ok (.ifCond .ne 8, 3) := by decide +kernel
theorem dX10_land_64 : decode cX10_land 64 = .ok (.bipush (-9), 2) := by decide +kernel
theorem dX10_land_66 : decode cX10_land 66 = .ok (.goto 4, 3) := by decide +kernel
theorem dX10_land_69 : decode cX10_land 69 = .ok (.iconst 0, 1) := by decide +kernel
theorem dX10_land_70 : decode cX10_land 70 = .ok (.iastore, 1) := by decide +kernel
theorem dX10_land_71 : decode cX10_land 71 = .ok (.aload_n 0, 1) := by decide +kernel
theorem dX10_land_72 : decode cX10_land 72 = .ok (.getfield 16, 3) := by decide +kernel
theorem dX10_land_75 : decode cX10_land 75 = .ok (.iconst 2, 1) := by decide +kernel
theorem dX10_land_76 : decode cX10_land 76 = .ok (.aload_n 0, 1) := by decide +kernel
theorem dX10_land_77 : decode cX10_land 77 = .ok (.getfield 66, 3) := by decide +kernel
theorem dX10_land_80 : decode cX10_land 80 = .ok (.iastore, 1) := by decide +kernel
theorem dX10_land_81 : decode cX10_land 81 = .ok (.aload_n 0, 1) := by decide +kernel
theorem dX10_land_82 : decode cX10_land 82 = .ok (.getfield 16, 3) := by decide +kernel
theorem dX10_land_85 : decode cX10_land 85 = .ok (.iconst 3, 1) := by decide +kernel
theorem dX10_land_86 : decode cX10_land 86 = .ok (.aload_n 0, 1) := by decide +kernel
theorem dX10_land_87 : decode cX10_land 87 = .ok (.getfield 69, 3) := by decide +kernel
theorem dX10_land_90 : decode cX10_land 90 = .ok (.iastore, 1) := by decide +kernel
theorem dX10_land_91 : decode cX10_land 91 = .ok (.aload_n 0, 1) := by decide +kernel
theorem dX10_land_92 : decode cX10_land 92 = .ok (.getfield 16, 3) := by decide +kernel
theorem dX10_land_95 : decode cX10_land 95 = .ok (.bipush 6, 2) := by decide +kernel
theorem dX10_land_97 : decode cX10_land 97 = .ok (.aload_n 0, 1) := by decide +kernel
theorem dX10_land_98 : decode cX10_land 98 = .ok (.getfield 59, 3) := by decide +kernel
theorem dX10_land_101 : decode cX10_land 101 = .ok (.iastore, 1) := by decide +kernel
theorem dX10_land_102 : decode cX10_land 102 = .ok (.iconst 0, 1) := by decide +kernel
theorem dX10_land_103 : decode cX10_land 103 = .ok (.istore_n 1, 1) := by decide +kernel
theorem dX10_land_104 : decode cX10_land 104 = .ok (.iload_n 1, 1) := by decide +kernel
theorem dX10_land_105 : decode cX10_land 105 = .ok (.aload_n 0, 1) := by decide +kernel
theorem dX10_land_106 : decode cX10_land 106 = .ok (.getfield 59, 3) := by decide +kernel
theorem dX10_land_109 : decode cX10_land 109 = .ok (.if_icmp .ge 67, 3) := by decide +kernel
theorem dX10_land_112 : decode cX10_land 112 = .ok (.aload_n 0, 1) := by decide +kernel
theorem dX10_land_113 : decode cX10_land 113 = .ok (.getfield 16, 3) := by decide +kernel
theorem dX10_land_116 : decode cX10_land 116 = .ok (.bipush 7, 2) := by decide +kernel
theorem dX10_land_118 : decode cX10_land 118 = .ok (.iload_n 1, 1) := by decide +kernel
theorem dX10_land_119 : decode cX10_land 119 = .ok (.iadd, 1) := by decide +kernel
theorem dX10_land_120 : decode cX10_land 120 = .ok (.aload_n 0, 1) := by decide +kernel
theorem dX10_land_121 : decode cX10_land 121 = .ok (.getfield 13, 3) := by decide +kernel
theorem dX10_land_124 : decode cX10_land 124 = .ok (.iconst 3, 1) := by decide +kernel
theorem dX10_land_125 : decode cX10_land 125 = .ok (.iload_n 1, 1) := by decide +kernel
theorem dX10_land_126 : decode cX10_land 126 = .ok (.imul, 1) := by decide +kernel
theorem dX10_land_127 : decode cX10_land 127 = .ok (.iaload, 1) := by decide +kernel
theorem dX10_land_128 : decode cX10_land 128 = .ok (.iastore, 1) := by decide +kernel
theorem dX10_land_129 : decode cX10_land 129 = .ok (.aload_n 0, 1) := by decide +kernel
theorem dX10_land_130 : decode cX10_land 130 = .ok (.getfield 16, 3) := by decide +kernel
theorem dX10_land_133 : decode cX10_land 133 = .ok (.bipush 14, 2) := by decide +kernel
theorem dX10_land_135 : decode cX10_land 135 = .ok (.dup2, 1) := by decide +kernel
theorem dX10_land_136 : decode cX10_land 136 = .ok (.iaload, 1) := by decide +kernel
theorem dX10_land_137 : decode cX10_land 137 = .ok (.aload_n 0, 1) := by decide +kernel
theorem dX10_land_138 : decode cX10_land 138 = .ok (.getfield 13, 3) := by decide +kernel
theorem dX10_land_141 : decode cX10_land 141 = .ok (.iconst 3, 1) := by decide +kernel
theorem dX10_land_142 : decode cX10_land 142 = .ok (.iload_n 1, 1) := by decide +kernel
theorem dX10_land_143 : decode cX10_land 143 = .ok (.imul, 1) := by decide +kernel
theorem dX10_land_144 : decode cX10_land 144 = .ok (.iconst 1, 1) := by decide +kernel
theorem dX10_land_145 : decode cX10_land 145 = .ok (.iadd, 1) := by decide +kernel
theorem dX10_land_146 : decode cX10_land 146 = .ok (.iaload, 1) := by decide +kernel
theorem dX10_land_147 : decode cX10_land 147 = .ok (.iload_n 1, 1) := by decide +kernel
theorem dX10_land_148 : decode cX10_land 148 = .ok (.ishl, 1) := by decide +kernel
theorem dX10_land_149 : decode cX10_land 149 = .ok (.ior, 1) := by decide +kernel
theorem dX10_land_150 : decode cX10_land 150 = .ok (.iastore, 1) := by decide +kernel
theorem dX10_land_151 : decode cX10_land 151 = .ok (.aload_n 0, 1) := by decide +kernel
theorem dX10_land_152 : decode cX10_land 152 = .ok (.getfield 16, 3) := by decide +kernel
theorem dX10_land_155 : decode cX10_land 155 = .ok (.bipush 15, 2) := by decide +kernel
theorem dX10_land_157 : decode cX10_land 157 = .ok (.iload_n 1, 1) := by decide +kernel
theorem dX10_land_158 : decode cX10_land 158 = .ok (.iadd, 1) := by decide +kernel
theorem dX10_land_159 : decode cX10_land 159 = .ok (.aload_n 0, 1) := by decide +kernel
theorem dX10_land_160 : decode cX10_land 160 = .ok (.getfield 13, 3) := by decide +kernel
theorem dX10_land_163 : decode cX10_land 163 = .ok (.iconst 3, 1) := by decide +kernel
theorem dX10_land_164 : decode cX10_land 164 = .ok (.iload_n 1, 1) := by decide +kernel
theorem dX10_land_165 : decode cX10_land 165 = .ok (.imul, 1) := by decide +kernel
theorem dX10_land_166 : decode cX10_land 166 = .ok (.iconst 2, 1) := by decide +kernel
theorem dX10_land_167 : decode cX10_land 167 = .ok (.iadd, 1) := by decide +kernel
theorem dX10_land_168 : decode cX10_land 168 = .ok (.iaload, 1) := by decide +kernel
theorem dX10_land_169 : decode cX10_land 169 = .ok (.iastore, 1) := by decide +kernel
theorem dX10_land_170 : decode cX10_land 170 = .ok (.iinc 1 1, 3) := by decide +kernel
theorem dX10_land_173 : decode cX10_land 173 = .ok (.goto (-69), 3) := by decide +kernel
theorem dX10_land_176 : decode cX10_land 176 = .ok (.aload_n 0, 1) := by decide +kernel
theorem dX10_land_177 : decode cX10_land 177 = .ok (.iconst 0, 1) := by decide +kernel
theorem dX10_land_178 : decode cX10_land 178 = .ok (.putfield 79, 3) := by decide +kernel
theorem dX10_land_181 : decode cX10_land 181 = .ok (.aload_n 0, 1) := by decide +kernel
theorem dX10_land_182 : decode cX10_land 182 = .ok (.getfield 28, 3) := by decide +kernel
theorem dX10_land_185 : decode cX10_land 185 = .ok (.iconst 0, 1) := by decide +kernel
theorem dX10_land_186 : decode cX10_land 186 = .ok (.iconst 0, 1) := by decide +kernel
theorem dX10_land_187 : decode cX10_land 187 = .ok (.bastore, 1) := by decide +kernel
theorem dX10_land_188 : decode cX10_land 188 = .ok (.aload_n 0, 1) := by decide +kernel
theorem dX10_land_189 : decode cX10_land 189 = .ok (.getfield 28, 3) := by decide +kernel
theorem dX10_land_192 : decode cX10_land 192 = .ok (.iconst 1, 1) := by decide +kernel
theorem dX10_land_193 : decode cX10_land 193 = .ok (.iconst 0, 1) := by decide +kernel
theorem dX10_land_194 : decode cX10_land 194 = .ok (.bastore, 1) := by decide +kernel
theorem dX10_land_195 : decode cX10_land 195 = .ok (.aload_n 0, 1) := by decide +kernel
theorem dX10_land_196 : decode cX10_land 196 = .ok (.getfield 16, 3) := by decide +kernel
theorem dX10_land_199 : decode cX10_land 199 = .ok (.bipush 6, 2) := by decide +kernel
theorem dX10_land_201 : decode cX10_land 201 = .ok (.iaload, 1) := by decide +kernel
theorem dX10_land_202 : decode cX10_land 202 = .ok (.ireturn, 1) := by decide +kernel
theorem dX10_isAhead_0 : decode cX10_isAhead 0 = .ok (.aload_n 1, 1) := by decide +kernel
theorem dX10_isAhead_1 : decode cX10_isAhead 1 = .ok (.bipush 14, 2) := by decide +kernel
theorem dX10_isAhead_3 : decode cX10_isAhead 3 = .ok (.iaload, 1) := by decide +kernel
theorem dX10_isAhead_4 : decode cX10_isAhead 4 = .ok (.iload_n 2, 1) := by decide +kernel
theorem dX10_isAhead_5 : decode cX10_isAhead 5 = .ok (.invokestatic 82, 3) := by decide +kernel
theorem dX10_isAhead_8 : decode cX10_isAhead 8 = .ok (.istore 5, 2) := by decide +kernel
theorem dX10_isAhead_10 : decode cX10_isAhead 10 = .ok (.aload_n 1, 1) := by decide +kernel
theorem dX10_isAhead_11 : decode cX10_isAhead 11 = .ok (.bipush 14, 2) := by decide +kernel
theorem dX10_isAhead_13 : decode cX10_isAhead 13 = .ok (.iaload, 1) := by decide +kernel
theorem dX10_isAhead_14 : decode cX10_isAhead 14 = .ok (.iload_n 3, 1) := by decide +kernel
theorem dX10_isAhead_15 : decode cX10_isAhead 15 = .ok (.invokestatic 82, 3) := by decide +kernel
theorem dX10_isAhead_18 : decode cX10_isAhead 18 = .ok (.istore 6, 2) := by decide +kernel
theorem dX10_isAhead_20 : decode cX10_isAhead 20 = .ok (.iload 4, 2) := by decide +kernel
theorem dX10_isAhead_22 : decode cX10_isAhead 22 = .ok (.iconst 2, 1) := by decide +kernel
theorem dX10_isAhead_23 : decode cX10_isAhead 23 = .ok (.if_icmp .ne 13, 3) := by decide +kernel
theorem dX10_isAhead_26 : decode cX10_isAhead 26 = .ok (.iload 5, 2) := by decide +kernel
theorem dX10_isAhead_28 : decode cX10_isAhead 28 = .ok (.iload 6, 2) := by decide +kernel
theorem dX10_isAhead_30 : decode cX10_isAhead 30 = .ok (.if_icmp .eq 6, 3) := by decide +kernel
theorem dX10_isAhead_33 : decode cX10_isAhead 33 = .ok (.iload 5, 2) := by decide +kernel
theorem dX10_isAhead_35 : decode cX10_isAhead 35 = .ok (.ireturn, 1) := by decide +kernel
theorem dX10_isAhead_36 : decode cX10_isAhead 36 = .ok (.aload_n 1, 1) := by decide +kernel
theorem dX10_isAhead_37 : decode cX10_isAhead 37 = .ok (.bipush 15, 2) := by decide +kernel
theorem dX10_isAhead_39 : decode cX10_isAhead 39 = .ok (.iload_n 2, 1) := by decide +kernel
theorem dX10_isAhead_40 : decode cX10_isAhead 40 = .ok (.iadd, 1) := by decide +kernel
theorem dX10_isAhead_41 : decode cX10_isAhead 41 = .ok (.iaload, 1) := by decide +kernel
theorem dX10_isAhead_42 : decode cX10_isAhead 42 = .ok (.aload_n 1, 1) := by decide +kernel
theorem dX10_isAhead_43 : decode cX10_isAhead 43 = .ok (.bipush 15, 2) := by decide +kernel
theorem dX10_isAhead_45 : decode cX10_isAhead 45 = .ok (.iload_n 3, 1) := by decide +kernel
theorem dX10_isAhead_46 : decode cX10_isAhead 46 = .ok (.iadd, 1) := by decide +kernel
theorem dX10_isAhead_47 : decode cX10_isAhead 47 = .ok (.iaload, 1) := by decide +kernel
theorem dX10_isAhead_48 : decode cX10_isAhead 48 = .ok (.if_icmp .gt 23, 3) := by decide +kernel
theorem dX10_isAhead_51 : decode cX10_isAhead 51 = .ok (.aload_n 1, 1) := by decide +kernel
theorem dX10_isAhead_52 : decode cX10_isAhead 52 = .ok (.bipush 15, 2) := by decide +kernel
theorem dX10_isAhead_54 : decode cX10_isAhead 54 = .ok (.iload_n 2, 1) := by decide +kernel
theorem dX10_isAhead_55 : decode cX10_isAhead 55 = .ok (.iadd, 1) := by decide +kernel
theorem dX10_isAhead_56 : decode cX10_isAhead 56 = .ok (.iaload, 1) := by decide +kernel
theorem dX10_isAhead_57 : decode cX10_isAhead 57 = .ok (.aload_n 1, 1) := by decide +kernel
theorem dX10_isAhead_58 : decode cX10_isAhead 58 = .ok (.bipush 15, 2) := by decide +kernel
theorem dX10_isAhead_60 : decode cX10_isAhead 60 = .ok (.iload_n 3, 1) := by decide +kernel
theorem dX10_isAhead_61 : decode cX10_isAhead 61 = .ok (.iadd, 1) := by decide +kernel
theorem dX10_isAhead_62 : decode cX10_isAhead 62 = .ok (.iaload, 1) := by decide +kernel
theorem dX10_isAhead_63 : decode cX10_isAhead 63 = .ok (.if_icmp .ne 12, 3) := by decide +kernel
theorem dX10_isAhead_66 : decode cX10_isAhead 66 = .ok (.iload_n 2, 1) := by decide +kernel
theorem dX10_isAhead_67 : decode cX10_isAhead 67 = .ok (.iload_n 3, 1) := by decide +kernel
theorem dX10_isAhead_68 : decode cX10_isAhead 68 = .ok (.if_icmp .ge 7, 3) := by decide +kernel
theorem dX10_isAhead_71 : decode cX10_isAhead 71 = .ok (.iconst 1, 1) := by decide +kernel
theorem dX10_isAhead_72 : decode cX10_isAhead 72 = .ok (.goto 4, 3) := by decide +kernel
theorem dX10_isAhead_75 : decode cX10_isAhead 75 = .ok (.iconst 0, 1) := by decide +kernel
theorem dX10_isAhead_76 : decode cX10_isAhead 76 = .ok (.istore 7, 2) := by decide +kernel
theorem dX10_isAhead_78 : decode cX10_isAhead 78 = .ok (.iload 4, 2) := by decide +kernel
theorem dX10_isAhead_80 : decode cX10_isAhead 80 = .ok (.iconst 3, 1) := by decide +kernel
theorem dX10_isAhead_81 : decode cX10_isAhead 81 = .ok (.if_icmp .ne 16, 3) := by decide +kernel
theorem dX10_isAhead_84 : decode cX10_isAhead 84 = .ok (.iload 7, 2) := by decide +kernel
theorem dX10_isAhead_86 : decode cX10_isAhead 86 = .ok (.ifCond .ne 7, 3) := by decide +kernel
theorem dX10_isAhead_89 : decode cX10_isAhead 89 = .ok (.iconst 1, 1) := by decide +kernel
theorem dX10_isAhead_90 : decode cX10_isAhead 90 = .ok (.goto 9, 3) := by decide +kernel
theorem dX10_isAhead_93 : decode cX10_isAhead 93 = .ok (.iconst 0, 1) := by decide +kernel
theorem dX10_isAhead_94 : decode cX10_isAhead 94 = .ok (.goto 5, 3) := by decide +kernel
theorem dX10_isAhead_97 : decode cX10_isAhead 97 = .ok (.iload 7, 2) := by decide +kernel
theorem dX10_isAhead_99 : decode cX10_isAhead 99 = .ok (.ireturn, 1) := by decide +kernel
theorem dX10_childrenOf_0 : decode cX10_childrenOf 0 = .ok (.iconst 0, 1) := by decide +kernel
theorem dX10_childrenOf_1 : decode cX10_childrenOf 1 = .ok (.istore_n 3, 1) := by decide +kernel
theorem dX10_childrenOf_2 : decode cX10_childrenOf 2 = .ok (.iconst 0, 1) := by decide +kernel
theorem dX10_childrenOf_3 : decode cX10_childrenOf 3 = .ok (.istore 4, 2) := by decide +kernel
theorem dX10_childrenOf_5 : decode cX10_childrenOf 5 = .ok (.iload 4, 2) := by decide +kernel
theorem dX10_childrenOf_7 : decode cX10_childrenOf 7 = .ok (.aload_n 1, 1) := by decide +kernel
theorem dX10_childrenOf_8 : decode cX10_childrenOf 8 = .ok (.bipush 6, 2) := by decide +kernel
theorem dX10_childrenOf_10 : decode cX10_childrenOf 10 = .ok (.iaload, 1) := by decide +kernel
theorem dX10_childrenOf_11 : decode cX10_childrenOf 11 = .ok (.if_icmp .ge 31, 3) := by decide +kernel
theorem dX10_childrenOf_14 : decode cX10_childrenOf 14 = .ok (.iload_n 3, 1) := by decide +kernel
theorem dX10_childrenOf_15 : decode cX10_childrenOf 15 = .ok (.aload_n 1, 1) := by decide +kernel
theorem dX10_childrenOf_16 : decode cX10_childrenOf 16 = .ok (.bipush 7, 2) := by decide +kernel
theorem dX10_childrenOf_18 : decode cX10_childrenOf 18 = .ok (.iload 4, 2) := by decide +kernel
theorem dX10_childrenOf_20 : decode cX10_childrenOf 20 = .ok (.iadd, 1) := by decide +kernel
theorem dX10_childrenOf_21 : decode cX10_childrenOf 21 = .ok (.iaload, 1) := by decide +kernel
theorem dX10_childrenOf_22 : decode cX10_childrenOf 22 = .ok (.iload_n 2, 1) := by decide +kernel
theorem dX10_childrenOf_23 : decode cX10_childrenOf 23 = .ok (.if_icmp .ne 10, 3) := by decide +kernel
theorem dX10_childrenOf_26 : decode cX10_childrenOf 26 = .ok (.iconst 1, 1) := by decide +kernel
theorem dX10_childrenOf_27 : decode cX10_childrenOf 27 = .ok (.iload 4, 2) := by decide +kernel
theorem dX10_childrenOf_29 : decode cX10_childrenOf 29 = .ok (.ishl, 1) := by decide +kernel
theorem dX10_childrenOf_30 : decode cX10_childrenOf 30 = .ok (.goto 4, 3) := by decide +kernel
theorem dX10_childrenOf_33 : decode cX10_childrenOf 33 = .ok (.iconst 0, 1) := by decide +kernel
theorem dX10_childrenOf_34 : decode cX10_childrenOf 34 = .ok (.ior, 1) := by decide +kernel
theorem dX10_childrenOf_35 : decode cX10_childrenOf 35 = .ok (.istore_n 3, 1) := by decide +kernel
theorem dX10_childrenOf_36 : decode cX10_childrenOf 36 = .ok (.iinc 4 1, 3) := by decide +kernel
theorem dX10_childrenOf_39 : decode cX10_childrenOf 39 = .ok (.goto (-34), 3) := by decide +kernel
theorem dX10_childrenOf_42 : decode cX10_childrenOf 42 = .ok (.iload_n 3, 1) := by decide +kernel
theorem dX10_childrenOf_43 : decode cX10_childrenOf 43 = .ok (.ireturn, 1) := by decide +kernel
theorem dX10_layLine_0 : decode cX10_layLine 0 = .ok (.iconst 1, 1) := by decide +kernel
theorem dX10_layLine_1 : decode cX10_layLine 1 = .ok (.istore 4, 2) := by decide +kernel
theorem dX10_layLine_3 : decode cX10_layLine 3 = .ok (.aload_n 0, 1) := by decide +kernel
theorem dX10_layLine_4 : decode cX10_layLine 4 = .ok (.iconst 0, 1) := by decide +kernel
theorem dX10_layLine_5 : decode cX10_layLine 5 = .ok (.putfield 86, 3) := by decide +kernel
theorem dX10_layLine_8 : decode cX10_layLine 8 = .ok (.aload_n 0, 1) := by decide +kernel
theorem dX10_layLine_9 : decode cX10_layLine 9 = .ok (.getfield 35, 3) := by decide +kernel
theorem dX10_layLine_12 : decode cX10_layLine 12 = .ok (.iconst 0, 1) := by decide +kernel
theorem dX10_layLine_13 : decode cX10_layLine 13 = .ok (.iload_n 2, 1) := by decide +kernel
theorem dX10_layLine_14 : decode cX10_layLine 14 = .ok (.iastore, 1) := by decide +kernel
theorem dX10_layLine_15 : decode cX10_layLine 15 = .ok (.iload 4, 2) := by decide +kernel
theorem dX10_layLine_17 : decode cX10_layLine 17 = .ok (.ifCond .le 164, 3) := by decide +kernel
theorem dX10_layLine_20 : decode cX10_layLine 20 = .ok (.iinc 4 (-1), 3) := by decide +kernel
theorem dX10_layLine_23 : decode cX10_layLine 23 = .ok (.aload_n 0, 1) := by decide +kernel
theorem dX10_layLine_24 : decode cX10_layLine 24 = .ok (.getfield 35, 3) := by decide +kernel
theorem dX10_layLine_27 : decode cX10_layLine 27 = .ok (.iload 4, 2) := by decide +kernel
theorem dX10_layLine_29 : decode cX10_layLine 29 = .ok (.iaload, 1) := by decide +kernel
theorem dX10_layLine_30 : decode cX10_layLine 30 = .ok (.istore 5, 2) := by decide +kernel
theorem dX10_layLine_32 : decode cX10_layLine 32 = .ok (.iload_n 3, 1) := by decide +kernel
theorem dX10_layLine_33 : decode cX10_layLine 33 = .ok (.ifCond .ne 15, 3) := by decide +kernel
theorem dX10_layLine_36 : decode cX10_layLine 36 = .ok (.aload_n 1, 1) := by decide +kernel
theorem dX10_layLine_37 : decode cX10_layLine 37 = .ok (.bipush 14, 2) := by decide +kernel
theorem dX10_layLine_39 : decode cX10_layLine 39 = .ok (.iaload, 1) := by decide +kernel
theorem dX10_layLine_40 : decode cX10_layLine 40 = .ok (.iload 5, 2) := by decide +kernel
theorem dX10_layLine_42 : decode cX10_layLine 42 = .ok (.invokestatic 82, 3) := by decide +kernel
theorem dX10_layLine_45 : decode cX10_layLine 45 = .ok (.ifCond .ne 133, 3) := by decide +kernel
theorem dX10_layLine_48 : decode cX10_layLine 48 = .ok (.aload_n 0, 1) := by decide +kernel
theorem dX10_layLine_49 : decode cX10_layLine 49 = .ok (.getfield 32, 3) := by decide +kernel
theorem dX10_layLine_52 : decode cX10_layLine 52 = .ok (.aload_n 0, 1) := by decide +kernel
theorem dX10_layLine_53 : decode cX10_layLine 53 = .ok (.getfield 86, 3) := by decide +kernel
theorem dX10_layLine_56 : decode cX10_layLine 56 = .ok (.iload 5, 2) := by decide +kernel
theorem dX10_layLine_58 : decode cX10_layLine 58 = .ok (.iastore, 1) := by decide +kernel
theorem dX10_layLine_59 : decode cX10_layLine 59 = .ok (.aload_n 0, 1) := by decide +kernel
theorem dX10_layLine_60 : decode cX10_layLine 60 = .ok (.dup, 1) := by decide +kernel
theorem dX10_layLine_61 : decode cX10_layLine 61 = .ok (.getfield 86, 3) := by decide +kernel
theorem dX10_layLine_64 : decode cX10_layLine 64 = .ok (.iconst 1, 1) := by decide +kernel
theorem dX10_layLine_65 : decode cX10_layLine 65 = .ok (.iadd, 1) := by decide +kernel
theorem dX10_layLine_66 : decode cX10_layLine 66 = .ok (.putfield 86, 3) := by decide +kernel
theorem dX10_layLine_69 : decode cX10_layLine 69 = .ok (.aload_n 0, 1) := by decide +kernel
theorem dX10_layLine_70 : decode cX10_layLine 70 = .ok (.aload_n 1, 1) := by decide +kernel
theorem dX10_layLine_71 : decode cX10_layLine 71 = .ok (.iload 5, 2) := by decide +kernel
theorem dX10_layLine_73 : decode cX10_layLine 73 = .ok (.invokevirtual 89, 3) := by decide +kernel
theorem dX10_layLine_76 : decode cX10_layLine 76 = .ok (.istore 6, 2) := by decide +kernel
theorem dX10_layLine_78 : decode cX10_layLine 78 = .ok (.iload 4, 2) := by decide +kernel
theorem dX10_layLine_80 : decode cX10_layLine 80 = .ok (.istore 7, 2) := by decide +kernel
theorem dX10_layLine_82 : decode cX10_layLine 82 = .ok (.iload 6, 2) := by decide +kernel
theorem dX10_layLine_84 : decode cX10_layLine 84 = .ok (.ifCond .eq 90, 3) := by decide +kernel
theorem dX10_layLine_87 : decode cX10_layLine 87 = .ok (.bipush (-9), 2) := by decide +kernel
theorem dX10_layLine_89 : decode cX10_layLine 89 = .ok (.istore 8, 2) := by decide +kernel
theorem dX10_layLine_91 : decode cX10_layLine 91 = .ok (.iconst 0, 1) := by decide +kernel
theorem dX10_layLine_92 : decode cX10_layLine 92 = .ok (.istore 9, 2) := by decide +kernel
theorem dX10_layLine_94 : decode cX10_layLine 94 = .ok (.iload 9, 2) := by decide +kernel
theorem dX10_layLine_96 : decode cX10_layLine 96 = .ok (.aload_n 1, 1) := by decide +kernel
theorem dX10_layLine_97 : decode cX10_layLine 97 = .ok (.bipush 6, 2) := by decide +kernel
theorem dX10_layLine_99 : decode cX10_layLine 99 = .ok (.iaload, 1) := by decide +kernel
theorem dX10_layLine_100 : decode cX10_layLine 100 = .ok (.if_icmp .ge 48, 3) := by decide +kernel
theorem dX10_layLine_103 : decode cX10_layLine 103 = .ok (.iload 6, 2) := by decide +kernel
theorem dX10_layLine_105 : decode cX10_layLine 105 = .ok (.iload 9, 2) := by decide +kernel
theorem dX10_layLine_107 : decode cX10_layLine 107 = .ok (.invokestatic 82, 3) := by decide +kernel
theorem dX10_layLine_110 : decode cX10_layLine 110 = .ok (.ifCond .eq 28, 3) := by decide +kernel
theorem dX10_layLine_113 : decode cX10_layLine 113 = .ok (.iload 8, 2) := by decide +kernel
theorem dX10_layLine_115 : decode cX10_layLine 115 = .ok (.bipush (-9), 2) := by decide +kernel
theorem dX10_layLine_117 : decode cX10_layLine 117 = .ok (.if_icmp .eq 16, 3) := by decide +kernel
theorem dX10_layLine_120 : decode cX10_layLine 120 = .ok (.aload_n 0, 1) := by decide +kernel
theorem dX10_layLine_121 : decode cX10_layLine 121 = .ok (.aload_n 1, 1) := by decide +kernel
theorem dX10_layLine_122 : decode cX10_layLine 122 = .ok (.iload 8, 2) := by decide +kernel
theorem dX10_layLine_124 : decode cX10_layLine 124 = .ok (.iload 9, 2) := by decide +kernel
theorem dX10_layLine_126 : decode cX10_layLine 126 = .ok (.iload_n 3, 1) := by decide +kernel
theorem dX10_layLine_127 : decode cX10_layLine 127 = .ok (.invokevirtual 93, 3) := by decide +kernel
theorem dX10_layLine_130 : decode cX10_layLine 130 = .ok (.ifCond .eq 8, 3) := by decide +kernel
theorem dX10_layLine_133 : decode cX10_layLine 133 = .ok (.iload 9, 2) := by decide +kernel
theorem dX10_layLine_135 : decode cX10_layLine 135 = .ok (.goto 5, 3) := by decide +kernel
theorem dX10_layLine_138 : decode cX10_layLine 138 = .ok (.iload 8, 2) := by decide +kernel
theorem dX10_layLine_140 : decode cX10_layLine 140 = .ok (.istore 8, 2) := by decide +kernel
theorem dX10_layLine_142 : decode cX10_layLine 142 = .ok (.iinc 9 1, 3) := by decide +kernel
theorem dX10_layLine_145 : decode cX10_layLine 145 = .ok (.goto (-51), 3) := by decide +kernel
theorem dX10_layLine_148 : decode cX10_layLine 148 = .ok (.iload 6, 2) := by decide +kernel
theorem dX10_layLine_150 : decode cX10_layLine 150 = .ok (.iconst 1, 1) := by decide +kernel
theorem dX10_layLine_151 : decode cX10_layLine 151 = .ok (.iload 8, 2) := by decide +kernel
theorem dX10_layLine_153 : decode cX10_layLine 153 = .ok (.ishl, 1) := by decide +kernel
theorem dX10_layLine_154 : decode cX10_layLine 154 = .ok (.iconst (-1), 1) := by decide +kernel
theorem dX10_layLine_155 : decode cX10_layLine 155 = .ok (.ixor, 1) := by decide +kernel
theorem dX10_layLine_156 : decode cX10_layLine 156 = .ok (.iand, 1) := by decide +kernel
theorem dX10_layLine_157 : decode cX10_layLine 157 = .ok (.istore 6, 2) := by decide +kernel
theorem dX10_layLine_159 : decode cX10_layLine 159 = .ok (.aload_n 0, 1) := by decide +kernel
theorem dX10_layLine_160 : decode cX10_layLine 160 = .ok (.getfield 35, 3) := by decide +kernel
theorem dX10_layLine_163 : decode cX10_layLine 163 = .ok (.iload 7, 2) := by decide +kernel
theorem dX10_layLine_165 : decode cX10_layLine 165 = .ok (.iload 8, 2) := by decide +kernel
theorem dX10_layLine_167 : decode cX10_layLine 167 = .ok (.iastore, 1) := by decide +kernel
theorem dX10_layLine_168 : decode cX10_layLine 168 = .ok (.iinc 7 1, 3) := by decide +kernel
theorem dX10_layLine_171 : decode cX10_layLine 171 = .ok (.goto (-89), 3) := by decide +kernel
theorem dX10_layLine_174 : decode cX10_layLine 174 = .ok (.iload 7, 2) := by decide +kernel
theorem dX10_layLine_176 : decode cX10_layLine 176 = .ok (.istore 4, 2) := by decide +kernel
theorem dX10_layLine_178 : decode cX10_layLine 178 = .ok (.goto (-163), 3) := by decide +kernel
theorem dX10_layLine_181 : decode cX10_layLine 181 = .ok (.return_, 1) := by decide +kernel
theorem dX10_firstOf_0 : decode cX10_firstOf 0 = .ok (.iconst 0, 1) := by decide +kernel
theorem dX10_firstOf_1 : decode cX10_firstOf 1 = .ok (.istore_n 3, 1) := by decide +kernel
theorem dX10_firstOf_2 : decode cX10_firstOf 2 = .ok (.iload_n 3, 1) := by decide +kernel
theorem dX10_firstOf_3 : decode cX10_firstOf 3 = .ok (.aload_n 0, 1) := by decide +kernel
theorem dX10_firstOf_4 : decode cX10_firstOf 4 = .ok (.getfield 86, 3) := by decide +kernel
theorem dX10_firstOf_7 : decode cX10_firstOf 7 = .ok (.if_icmp .ge 39, 3) := by decide +kernel
theorem dX10_firstOf_10 : decode cX10_firstOf 10 = .ok (.aload_n 0, 1) := by decide +kernel
theorem dX10_firstOf_11 : decode cX10_firstOf 11 = .ok (.getfield 32, 3) := by decide +kernel
theorem dX10_firstOf_14 : decode cX10_firstOf 14 = .ok (.iload_n 3, 1) := by decide +kernel
theorem dX10_firstOf_15 : decode cX10_firstOf 15 = .ok (.iaload, 1) := by decide +kernel
theorem dX10_firstOf_16 : decode cX10_firstOf 16 = .ok (.iload_n 2, 1) := by decide +kernel
theorem dX10_firstOf_17 : decode cX10_firstOf 17 = .ok (.if_icmp .eq 23, 3) := by decide +kernel
theorem dX10_firstOf_20 : decode cX10_firstOf 20 = .ok (.iload_n 1, 1) := by decide +kernel
theorem dX10_firstOf_21 : decode cX10_firstOf 21 = .ok (.aload_n 0, 1) := by decide +kernel
theorem dX10_firstOf_22 : decode cX10_firstOf 22 = .ok (.getfield 32, 3) := by decide +kernel
theorem dX10_firstOf_25 : decode cX10_firstOf 25 = .ok (.iload_n 3, 1) := by decide +kernel
theorem dX10_firstOf_26 : decode cX10_firstOf 26 = .ok (.iaload, 1) := by decide +kernel
theorem dX10_firstOf_27 : decode cX10_firstOf 27 = .ok (.invokestatic 82, 3) := by decide +kernel
theorem dX10_firstOf_30 : decode cX10_firstOf 30 = .ok (.ifCond .eq 10, 3) := by decide +kernel
theorem dX10_firstOf_33 : decode cX10_firstOf 33 = .ok (.aload_n 0, 1) := by decide +kernel
theorem dX10_firstOf_34 : decode cX10_firstOf 34 = .ok (.getfield 32, 3) := by decide +kernel
theorem dX10_firstOf_37 : decode cX10_firstOf 37 = .ok (.iload_n 3, 1) := by decide +kernel
theorem dX10_firstOf_38 : decode cX10_firstOf 38 = .ok (.iaload, 1) := by decide +kernel
theorem dX10_firstOf_39 : decode cX10_firstOf 39 = .ok (.ireturn, 1) := by decide +kernel
theorem dX10_firstOf_40 : decode cX10_firstOf 40 = .ok (.iinc 3 1, 3) := by decide +kernel
theorem dX10_firstOf_43 : decode cX10_firstOf 43 = .ok (.goto (-41), 3) := by decide +kernel
theorem dX10_firstOf_46 : decode cX10_firstOf 46 = .ok (.bipush (-9), 2) := by decide +kernel
theorem dX10_firstOf_48 : decode cX10_firstOf 48 = .ok (.ireturn, 1) := by decide +kernel
theorem dX10_heirOf_0 : decode cX10_heirOf 0 = .ok (.bipush (-9), 2) := by decide +kernel
theorem dX10_heirOf_2 : decode cX10_heirOf 2 = .ok (.istore 4, 2) := by decide +kernel
theorem dX10_heirOf_4 : decode cX10_heirOf 4 = .ok (.aload_n 0, 1) := by decide +kernel
theorem dX10_heirOf_5 : decode cX10_heirOf 5 = .ok (.aload_n 1, 1) := by decide +kernel
theorem dX10_heirOf_6 : decode cX10_heirOf 6 = .ok (.iload_n 2, 1) := by decide +kernel
theorem dX10_heirOf_7 : decode cX10_heirOf 7 = .ok (.invokevirtual 89, 3) := by decide +kernel
theorem dX10_heirOf_10 : decode cX10_heirOf 10 = .ok (.istore 5, 2) := by decide +kernel
theorem dX10_heirOf_12 : decode cX10_heirOf 12 = .ok (.iload 5, 2) := by decide +kernel
theorem dX10_heirOf_14 : decode cX10_heirOf 14 = .ok (.ifCond .eq 103, 3) := by decide +kernel
theorem dX10_heirOf_17 : decode cX10_heirOf 17 = .ok (.iload 4, 2) := by decide +kernel
theorem dX10_heirOf_19 : decode cX10_heirOf 19 = .ok (.bipush (-9), 2) := by decide +kernel
theorem dX10_heirOf_21 : decode cX10_heirOf 21 = .ok (.if_icmp .ne 96, 3) := by decide +kernel
theorem dX10_heirOf_24 : decode cX10_heirOf 24 = .ok (.bipush (-9), 2) := by decide +kernel
theorem dX10_heirOf_26 : decode cX10_heirOf 26 = .ok (.istore 6, 2) := by decide +kernel
theorem dX10_heirOf_28 : decode cX10_heirOf 28 = .ok (.iconst 0, 1) := by decide +kernel
theorem dX10_heirOf_29 : decode cX10_heirOf 29 = .ok (.istore 7, 2) := by decide +kernel
theorem dX10_heirOf_31 : decode cX10_heirOf 31 = .ok (.iload 7, 2) := by decide +kernel
theorem dX10_heirOf_33 : decode cX10_heirOf 33 = .ok (.aload_n 1, 1) := by decide +kernel
theorem dX10_heirOf_34 : decode cX10_heirOf 34 = .ok (.bipush 6, 2) := by decide +kernel
theorem dX10_heirOf_36 : decode cX10_heirOf 36 = .ok (.iaload, 1) := by decide +kernel
theorem dX10_heirOf_37 : decode cX10_heirOf 37 = .ok (.if_icmp .ge 48, 3) := by decide +kernel
theorem dX10_heirOf_40 : decode cX10_heirOf 40 = .ok (.iload 5, 2) := by decide +kernel
theorem dX10_heirOf_42 : decode cX10_heirOf 42 = .ok (.iload 7, 2) := by decide +kernel
theorem dX10_heirOf_44 : decode cX10_heirOf 44 = .ok (.invokestatic 82, 3) := by decide +kernel
theorem dX10_heirOf_47 : decode cX10_heirOf 47 = .ok (.ifCond .eq 28, 3) := by decide +kernel
theorem dX10_heirOf_50 : decode cX10_heirOf 50 = .ok (.iload 6, 2) := by decide +kernel
theorem dX10_heirOf_52 : decode cX10_heirOf 52 = .ok (.bipush (-9), 2) := by decide +kernel
theorem dX10_heirOf_54 : decode cX10_heirOf 54 = .ok (.if_icmp .eq 16, 3) := by decide +kernel
theorem dX10_heirOf_57 : decode cX10_heirOf 57 = .ok (.aload_n 0, 1) := by decide +kernel
theorem dX10_heirOf_58 : decode cX10_heirOf 58 = .ok (.aload_n 1, 1) := by decide +kernel
theorem dX10_heirOf_59 : decode cX10_heirOf 59 = .ok (.iload 7, 2) := by decide +kernel
theorem dX10_heirOf_61 : decode cX10_heirOf 61 = .ok (.iload 6, 2) := by decide +kernel
theorem dX10_heirOf_63 : decode cX10_heirOf 63 = .ok (.iload_n 3, 1) := by decide +kernel
theorem dX10_heirOf_64 : decode cX10_heirOf 64 = .ok (.invokevirtual 93, 3) := by decide +kernel
theorem dX10_heirOf_67 : decode cX10_heirOf 67 = .ok (.ifCond .eq 8, 3) := by decide +kernel
theorem dX10_heirOf_70 : decode cX10_heirOf 70 = .ok (.iload 7, 2) := by decide +kernel
theorem dX10_heirOf_72 : decode cX10_heirOf 72 = .ok (.goto 5, 3) := by decide +kernel
theorem dX10_heirOf_75 : decode cX10_heirOf 75 = .ok (.iload 6, 2) := by decide +kernel
theorem dX10_heirOf_77 : decode cX10_heirOf 77 = .ok (.istore 6, 2) := by decide +kernel
theorem dX10_heirOf_79 : decode cX10_heirOf 79 = .ok (.iinc 7 1, 3) := by decide +kernel
theorem dX10_heirOf_82 : decode cX10_heirOf 82 = .ok (.goto (-51), 3) := by decide +kernel
theorem dX10_heirOf_85 : decode cX10_heirOf 85 = .ok (.iload 5, 2) := by decide +kernel
theorem dX10_heirOf_87 : decode cX10_heirOf 87 = .ok (.iconst 1, 1) := by decide +kernel
theorem dX10_heirOf_88 : decode cX10_heirOf 88 = .ok (.iload 6, 2) := by decide +kernel
theorem dX10_heirOf_90 : decode cX10_heirOf 90 = .ok (.ishl, 1) := by decide +kernel
theorem dX10_heirOf_91 : decode cX10_heirOf 91 = .ok (.iconst (-1), 1) := by decide +kernel
theorem dX10_heirOf_92 : decode cX10_heirOf 92 = .ok (.ixor, 1) := by decide +kernel
theorem dX10_heirOf_93 : decode cX10_heirOf 93 = .ok (.iand, 1) := by decide +kernel
theorem dX10_heirOf_94 : decode cX10_heirOf 94 = .ok (.istore 5, 2) := by decide +kernel
theorem dX10_heirOf_96 : decode cX10_heirOf 96 = .ok (.aload_n 0, 1) := by decide +kernel
theorem dX10_heirOf_97 : decode cX10_heirOf 97 = .ok (.aload_n 1, 1) := by decide +kernel
theorem dX10_heirOf_98 : decode cX10_heirOf 98 = .ok (.iload 6, 2) := by decide +kernel
theorem dX10_heirOf_100 : decode cX10_heirOf 100 = .ok (.iload_n 3, 1) := by decide +kernel
theorem dX10_heirOf_101 : decode cX10_heirOf 101 = .ok (.invokevirtual 97, 3) := by decide +kernel
theorem dX10_heirOf_104 : decode cX10_heirOf 104 = .ok (.aload_n 0, 1) := by decide +kernel
theorem dX10_heirOf_105 : decode cX10_heirOf 105 = .ok (.aload_n 1, 1) := by decide +kernel
theorem dX10_heirOf_106 : decode cX10_heirOf 106 = .ok (.iconst 0, 1) := by decide +kernel
theorem dX10_heirOf_107 : decode cX10_heirOf 107 = .ok (.iaload, 1) := by decide +kernel
theorem dX10_heirOf_108 : decode cX10_heirOf 108 = .ok (.iload_n 2, 1) := by decide +kernel
theorem dX10_heirOf_109 : decode cX10_heirOf 109 = .ok (.invokevirtual 101, 3) := by decide +kernel
theorem dX10_heirOf_112 : decode cX10_heirOf 112 = .ok (.istore 4, 2) := by decide +kernel
theorem dX10_heirOf_114 : decode cX10_heirOf 114 = .ok (.goto (-102), 3) := by decide +kernel
theorem dX10_heirOf_117 : decode cX10_heirOf 117 = .ok (.aload_n 1, 1) := by decide +kernel
theorem dX10_heirOf_118 : decode cX10_heirOf 118 = .ok (.bipush 7, 2) := by decide +kernel
theorem dX10_heirOf_120 : decode cX10_heirOf 120 = .ok (.iload_n 2, 1) := by decide +kernel
theorem dX10_heirOf_121 : decode cX10_heirOf 121 = .ok (.iadd, 1) := by decide +kernel
theorem dX10_heirOf_122 : decode cX10_heirOf 122 = .ok (.iaload, 1) := by decide +kernel
theorem dX10_heirOf_123 : decode cX10_heirOf 123 = .ok (.istore 6, 2) := by decide +kernel
theorem dX10_heirOf_125 : decode cX10_heirOf 125 = .ok (.iload 4, 2) := by decide +kernel
theorem dX10_heirOf_127 : decode cX10_heirOf 127 = .ok (.bipush (-9), 2) := by decide +kernel
theorem dX10_heirOf_129 : decode cX10_heirOf 129 = .ok (.if_icmp .ne 40, 3) := by decide +kernel
theorem dX10_heirOf_132 : decode cX10_heirOf 132 = .ok (.iload 6, 2) := by decide +kernel
theorem dX10_heirOf_134 : decode cX10_heirOf 134 = .ok (.bipush (-9), 2) := by decide +kernel
theorem dX10_heirOf_136 : decode cX10_heirOf 136 = .ok (.if_icmp .eq 33, 3) := by decide +kernel
theorem dX10_heirOf_139 : decode cX10_heirOf 139 = .ok (.aload_n 0, 1) := by decide +kernel
theorem dX10_heirOf_140 : decode cX10_heirOf 140 = .ok (.aload_n 1, 1) := by decide +kernel
theorem dX10_heirOf_141 : decode cX10_heirOf 141 = .ok (.iload 6, 2) := by decide +kernel
theorem dX10_heirOf_143 : decode cX10_heirOf 143 = .ok (.iload_n 3, 1) := by decide +kernel
theorem dX10_heirOf_144 : decode cX10_heirOf 144 = .ok (.invokevirtual 97, 3) := by decide +kernel
theorem dX10_heirOf_147 : decode cX10_heirOf 147 = .ok (.aload_n 0, 1) := by decide +kernel
theorem dX10_heirOf_148 : decode cX10_heirOf 148 = .ok (.aload_n 1, 1) := by decide +kernel
theorem dX10_heirOf_149 : decode cX10_heirOf 149 = .ok (.iconst 0, 1) := by decide +kernel
theorem dX10_heirOf_150 : decode cX10_heirOf 150 = .ok (.iaload, 1) := by decide +kernel
theorem dX10_heirOf_151 : decode cX10_heirOf 151 = .ok (.iload_n 2, 1) := by decide +kernel
theorem dX10_heirOf_152 : decode cX10_heirOf 152 = .ok (.invokevirtual 101, 3) := by decide +kernel
theorem dX10_heirOf_155 : decode cX10_heirOf 155 = .ok (.istore 4, 2) := by decide +kernel
theorem dX10_heirOf_157 : decode cX10_heirOf 157 = .ok (.aload_n 1, 1) := by decide +kernel
theorem dX10_heirOf_158 : decode cX10_heirOf 158 = .ok (.bipush 7, 2) := by decide +kernel
theorem dX10_heirOf_160 : decode cX10_heirOf 160 = .ok (.iload 6, 2) := by decide +kernel
theorem dX10_heirOf_162 : decode cX10_heirOf 162 = .ok (.iadd, 1) := by decide +kernel
theorem dX10_heirOf_163 : decode cX10_heirOf 163 = .ok (.iaload, 1) := by decide +kernel
theorem dX10_heirOf_164 : decode cX10_heirOf 164 = .ok (.istore 6, 2) := by decide +kernel
theorem dX10_heirOf_166 : decode cX10_heirOf 166 = .ok (.goto (-41), 3) := by decide +kernel
theorem dX10_heirOf_169 : decode cX10_heirOf 169 = .ok (.iload 4, 2) := by decide +kernel
theorem dX10_heirOf_171 : decode cX10_heirOf 171 = .ok (.ireturn, 1) := by decide +kernel
theorem dX10_about_0 : decode cX10_about 0 = .ok (.aload_n 0, 1) := by decide +kernel
theorem dX10_about_1 : decode cX10_about 1 = .ok (.iconst 0, 1) := by decide +kernel
theorem dX10_about_2 : decode cX10_about 2 = .ok (.putfield 41, 3) := by decide +kernel
theorem dX10_about_5 : decode cX10_about 5 = .ok (.iload_n 1, 1) := by decide +kernel
theorem dX10_about_6 : decode cX10_about 6 = .ok (.tableswitch 110 0 8 #[50, 58, 65, 72, 79, 86, 93, 100, 105], 50) := by decide +kernel
theorem dX10_about_56 : decode cX10_about 56 = .ok (.aload_n 0, 1) := by decide +kernel
theorem dX10_about_57 : decode cX10_about 57 = .ok (.getfield 16, 3) := by decide +kernel
theorem dX10_about_60 : decode cX10_about 60 = .ok (.bipush 6, 2) := by decide +kernel
theorem dX10_about_62 : decode cX10_about 62 = .ok (.iaload, 1) := by decide +kernel
theorem dX10_about_63 : decode cX10_about 63 = .ok (.ireturn, 1) := by decide +kernel
theorem dX10_about_64 : decode cX10_about 64 = .ok (.aload_n 0, 1) := by decide +kernel
theorem dX10_about_65 : decode cX10_about 65 = .ok (.getfield 16, 3) := by decide +kernel
theorem dX10_about_68 : decode cX10_about 68 = .ok (.iconst 0, 1) := by decide +kernel
theorem dX10_about_69 : decode cX10_about 69 = .ok (.iaload, 1) := by decide +kernel
theorem dX10_about_70 : decode cX10_about 70 = .ok (.ireturn, 1) := by decide +kernel
theorem dX10_about_71 : decode cX10_about 71 = .ok (.aload_n 0, 1) := by decide +kernel
theorem dX10_about_72 : decode cX10_about 72 = .ok (.getfield 16, 3) := by decide +kernel
theorem dX10_about_75 : decode cX10_about 75 = .ok (.iconst 1, 1) := by decide +kernel
theorem dX10_about_76 : decode cX10_about 76 = .ok (.iaload, 1) := by decide +kernel
theorem dX10_about_77 : decode cX10_about 77 = .ok (.ireturn, 1) := by decide +kernel
theorem dX10_about_78 : decode cX10_about 78 = .ok (.aload_n 0, 1) := by decide +kernel
theorem dX10_about_79 : decode cX10_about 79 = .ok (.getfield 16, 3) := by decide +kernel
theorem dX10_about_82 : decode cX10_about 82 = .ok (.iconst 2, 1) := by decide +kernel
theorem dX10_about_83 : decode cX10_about 83 = .ok (.iaload, 1) := by decide +kernel
theorem dX10_about_84 : decode cX10_about 84 = .ok (.ireturn, 1) := by decide +kernel
theorem dX10_about_85 : decode cX10_about 85 = .ok (.aload_n 0, 1) := by decide +kernel
theorem dX10_about_86 : decode cX10_about 86 = .ok (.getfield 16, 3) := by decide +kernel
theorem dX10_about_89 : decode cX10_about 89 = .ok (.iconst 3, 1) := by decide +kernel
theorem dX10_about_90 : decode cX10_about 90 = .ok (.iaload, 1) := by decide +kernel
theorem dX10_about_91 : decode cX10_about 91 = .ok (.ireturn, 1) := by decide +kernel
theorem dX10_about_92 : decode cX10_about 92 = .ok (.aload_n 0, 1) := by decide +kernel
theorem dX10_about_93 : decode cX10_about 93 = .ok (.getfield 16, 3) := by decide +kernel
theorem dX10_about_96 : decode cX10_about 96 = .ok (.iconst 4, 1) := by decide +kernel
theorem dX10_about_97 : decode cX10_about 97 = .ok (.iaload, 1) := by decide +kernel
theorem dX10_about_98 : decode cX10_about 98 = .ok (.ireturn, 1) := by decide +kernel
theorem dX10_about_99 : decode cX10_about 99 = .ok (.aload_n 0, 1) := by decide +kernel
theorem dX10_about_100 : decode cX10_about 100 = .ok (.getfield 16, 3) := by decide +kernel
theorem dX10_about_103 : decode cX10_about 103 = .ok (.iconst 5, 1) := by decide +kernel
theorem dX10_about_104 : decode cX10_about 104 = .ok (.iaload, 1) := by decide +kernel
theorem dX10_about_105 : decode cX10_about 105 = .ok (.ireturn, 1) := by decide +kernel
theorem dX10_about_106 : decode cX10_about 106 = .ok (.aload_n 0, 1) := by decide +kernel
theorem dX10_about_107 : decode cX10_about 107 = .ok (.getfield 79, 3) := by decide +kernel
theorem dX10_about_110 : decode cX10_about 110 = .ok (.ireturn, 1) := by decide +kernel
theorem dX10_about_111 : decode cX10_about 111 = .ok (.aload_n 0, 1) := by decide +kernel
theorem dX10_about_112 : decode cX10_about 112 = .ok (.getfield 53, 3) := by decide +kernel
theorem dX10_about_115 : decode cX10_about 115 = .ok (.ireturn, 1) := by decide +kernel
theorem dX10_about_116 : decode cX10_about 116 = .ok (.bipush (-2), 2) := by decide +kernel
theorem dX10_about_118 : decode cX10_about 118 = .ok (.ireturn, 1) := by decide +kernel
theorem dX10_person_0 : decode cX10_person 0 = .ok (.aload_n 0, 1) := by decide +kernel
theorem dX10_person_1 : decode cX10_person 1 = .ok (.iconst 0, 1) := by decide +kernel
theorem dX10_person_2 : decode cX10_person 2 = .ok (.putfield 41, 3) := by decide +kernel
theorem dX10_person_5 : decode cX10_person 5 = .ok (.aload_n 0, 1) := by decide +kernel
theorem dX10_person_6 : decode cX10_person 6 = .ok (.iload_n 1, 1) := by decide +kernel
theorem dX10_person_7 : decode cX10_person 7 = .ok (.invokevirtual 104, 3) := by decide +kernel
theorem dX10_person_10 : decode cX10_person 10 = .ok (.ifCond .eq 5, 3) := by decide +kernel
theorem dX10_person_13 : decode cX10_person 13 = .ok (.iconst (-1), 1) := by decide +kernel
theorem dX10_person_14 : decode cX10_person 14 = .ok (.ireturn, 1) := by decide +kernel
theorem dX10_person_15 : decode cX10_person 15 = .ok (.iload_n 2, 1) := by decide +kernel
theorem dX10_person_16 : decode cX10_person 16 = .ok (.tableswitch 89 0 4 #[36, 46, 58, 68, 79], 36) := by decide +kernel
theorem dX10_person_52 : decode cX10_person 52 = .ok (.aload_n 0, 1) := by decide +kernel
theorem dX10_person_53 : decode cX10_person 53 = .ok (.getfield 16, 3) := by decide +kernel
theorem dX10_person_56 : decode cX10_person 56 = .ok (.bipush 7, 2) := by decide +kernel
theorem dX10_person_58 : decode cX10_person 58 = .ok (.iload_n 1, 1) := by decide +kernel
theorem dX10_person_59 : decode cX10_person 59 = .ok (.iadd, 1) := by decide +kernel
theorem dX10_person_60 : decode cX10_person 60 = .ok (.iaload, 1) := by decide +kernel
theorem dX10_person_61 : decode cX10_person 61 = .ok (.ireturn, 1) := by decide +kernel
theorem dX10_person_62 : decode cX10_person 62 = .ok (.aload_n 0, 1) := by decide +kernel
theorem dX10_person_63 : decode cX10_person 63 = .ok (.getfield 16, 3) := by decide +kernel
theorem dX10_person_66 : decode cX10_person 66 = .ok (.bipush 14, 2) := by decide +kernel
theorem dX10_person_68 : decode cX10_person 68 = .ok (.iaload, 1) := by decide +kernel
theorem dX10_person_69 : decode cX10_person 69 = .ok (.iload_n 1, 1) := by decide +kernel
theorem dX10_person_70 : decode cX10_person 70 = .ok (.ishr, 1) := by decide +kernel
theorem dX10_person_71 : decode cX10_person 71 = .ok (.iconst 1, 1) := by decide +kernel
theorem dX10_person_72 : decode cX10_person 72 = .ok (.iand, 1) := by decide +kernel
theorem dX10_person_73 : decode cX10_person 73 = .ok (.ireturn, 1) := by decide +kernel
theorem dX10_person_74 : decode cX10_person 74 = .ok (.aload_n 0, 1) := by decide +kernel
theorem dX10_person_75 : decode cX10_person 75 = .ok (.getfield 16, 3) := by decide +kernel
theorem dX10_person_78 : decode cX10_person 78 = .ok (.bipush 15, 2) := by decide +kernel
theorem dX10_person_80 : decode cX10_person 80 = .ok (.iload_n 1, 1) := by decide +kernel
theorem dX10_person_81 : decode cX10_person 81 = .ok (.iadd, 1) := by decide +kernel
theorem dX10_person_82 : decode cX10_person 82 = .ok (.iaload, 1) := by decide +kernel
theorem dX10_person_83 : decode cX10_person 83 = .ok (.ireturn, 1) := by decide +kernel
theorem dX10_person_84 : decode cX10_person 84 = .ok (.aload_n 0, 1) := by decide +kernel
theorem dX10_person_85 : decode cX10_person 85 = .ok (.getfield 16, 3) := by decide +kernel
theorem dX10_person_88 : decode cX10_person 88 = .ok (.iconst 0, 1) := by decide +kernel
theorem dX10_person_89 : decode cX10_person 89 = .ok (.iaload, 1) := by decide +kernel
theorem dX10_person_90 : decode cX10_person 90 = .ok (.iload_n 1, 1) := by decide +kernel
theorem dX10_person_91 : decode cX10_person 91 = .ok (.ishr, 1) := by decide +kernel
theorem dX10_person_92 : decode cX10_person 92 = .ok (.iconst 1, 1) := by decide +kernel
theorem dX10_person_93 : decode cX10_person 93 = .ok (.iand, 1) := by decide +kernel
theorem dX10_person_94 : decode cX10_person 94 = .ok (.ireturn, 1) := by decide +kernel
theorem dX10_person_95 : decode cX10_person 95 = .ok (.aload_n 0, 1) := by decide +kernel
theorem dX10_person_96 : decode cX10_person 96 = .ok (.aload_n 0, 1) := by decide +kernel
theorem dX10_person_97 : decode cX10_person 97 = .ok (.getfield 16, 3) := by decide +kernel
theorem dX10_person_100 : decode cX10_person 100 = .ok (.iload_n 1, 1) := by decide +kernel
theorem dX10_person_101 : decode cX10_person 101 = .ok (.invokevirtual 89, 3) := by decide +kernel
theorem dX10_person_104 : decode cX10_person 104 = .ok (.ireturn, 1) := by decide +kernel
theorem dX10_person_105 : decode cX10_person 105 = .ok (.bipush (-2), 2) := by decide +kernel
theorem dX10_person_107 : decode cX10_person 107 = .ok (.ireturn, 1) := by decide +kernel
theorem dX10_note_0 : decode cX10_note 0 = .ok (.aload_n 0, 1) := by decide +kernel
theorem dX10_note_1 : decode cX10_note 1 = .ok (.getfield 79, 3) := by decide +kernel
theorem dX10_note_4 : decode cX10_note 4 = .ok (.bipush 14, 2) := by decide +kernel
theorem dX10_note_6 : decode cX10_note 6 = .ok (.if_icmp .ne 43, 3) := by decide +kernel
theorem dX10_note_9 : decode cX10_note 9 = .ok (.iconst 0, 1) := by decide +kernel
theorem dX10_note_10 : decode cX10_note 10 = .ok (.istore_n 1, 1) := by decide +kernel
theorem dX10_note_11 : decode cX10_note 11 = .ok (.iload_n 1, 1) := by decide +kernel
theorem dX10_note_12 : decode cX10_note 12 = .ok (.sipush 286, 3) := by decide +kernel
theorem dX10_note_15 : decode cX10_note 15 = .ok (.if_icmp .ge 24, 3) := by decide +kernel
theorem dX10_note_18 : decode cX10_note 18 = .ok (.aload_n 0, 1) := by decide +kernel
theorem dX10_note_19 : decode cX10_note 19 = .ok (.getfield 22, 3) := by decide +kernel
theorem dX10_note_22 : decode cX10_note 22 = .ok (.iload_n 1, 1) := by decide +kernel
theorem dX10_note_23 : decode cX10_note 23 = .ok (.aload_n 0, 1) := by decide +kernel
theorem dX10_note_24 : decode cX10_note 24 = .ok (.getfield 22, 3) := by decide +kernel
theorem dX10_note_27 : decode cX10_note 27 = .ok (.iload_n 1, 1) := by decide +kernel
theorem dX10_note_28 : decode cX10_note 28 = .ok (.bipush 22, 2) := by decide +kernel
theorem dX10_note_30 : decode cX10_note 30 = .ok (.iadd, 1) := by decide +kernel
theorem dX10_note_31 : decode cX10_note 31 = .ok (.iaload, 1) := by decide +kernel
theorem dX10_note_32 : decode cX10_note 32 = .ok (.iastore, 1) := by decide +kernel
theorem dX10_note_33 : decode cX10_note 33 = .ok (.iinc 1 1, 3) := by decide +kernel
theorem dX10_note_36 : decode cX10_note 36 = .ok (.goto (-25), 3) := by decide +kernel
theorem dX10_note_39 : decode cX10_note 39 = .ok (.aload_n 0, 1) := by decide +kernel
theorem dX10_note_40 : decode cX10_note 40 = .ok (.dup, 1) := by decide +kernel
theorem dX10_note_41 : decode cX10_note 41 = .ok (.getfield 79, 3) := by decide +kernel
theorem dX10_note_44 : decode cX10_note 44 = .ok (.iconst 1, 1) := by decide +kernel
theorem dX10_note_45 : decode cX10_note 45 = .ok (.isub, 1) := by decide +kernel
theorem dX10_note_46 : decode cX10_note 46 = .ok (.putfield 79, 3) := by decide +kernel
theorem dX10_note_49 : decode cX10_note 49 = .ok (.iconst 0, 1) := by decide +kernel
theorem dX10_note_50 : decode cX10_note 50 = .ok (.istore_n 1, 1) := by decide +kernel
theorem dX10_note_51 : decode cX10_note 51 = .ok (.iload_n 1, 1) := by decide +kernel
theorem dX10_note_52 : decode cX10_note 52 = .ok (.bipush 22, 2) := by decide +kernel
theorem dX10_note_54 : decode cX10_note 54 = .ok (.if_icmp .ge 29, 3) := by decide +kernel
theorem dX10_note_57 : decode cX10_note 57 = .ok (.aload_n 0, 1) := by decide +kernel
theorem dX10_note_58 : decode cX10_note 58 = .ok (.getfield 22, 3) := by decide +kernel
theorem dX10_note_61 : decode cX10_note 61 = .ok (.bipush 22, 2) := by decide +kernel
theorem dX10_note_63 : decode cX10_note 63 = .ok (.aload_n 0, 1) := by decide +kernel
theorem dX10_note_64 : decode cX10_note 64 = .ok (.getfield 79, 3) := by decide +kernel
theorem dX10_note_67 : decode cX10_note 67 = .ok (.imul, 1) := by decide +kernel
theorem dX10_note_68 : decode cX10_note 68 = .ok (.iload_n 1, 1) := by decide +kernel
theorem dX10_note_69 : decode cX10_note 69 = .ok (.iadd, 1) := by decide +kernel
theorem dX10_note_70 : decode cX10_note 70 = .ok (.aload_n 0, 1) := by decide +kernel
theorem dX10_note_71 : decode cX10_note 71 = .ok (.getfield 16, 3) := by decide +kernel
theorem dX10_note_74 : decode cX10_note 74 = .ok (.iload_n 1, 1) := by decide +kernel
theorem dX10_note_75 : decode cX10_note 75 = .ok (.iaload, 1) := by decide +kernel
theorem dX10_note_76 : decode cX10_note 76 = .ok (.iastore, 1) := by decide +kernel
theorem dX10_note_77 : decode cX10_note 77 = .ok (.iinc 1 1, 3) := by decide +kernel
theorem dX10_note_80 : decode cX10_note 80 = .ok (.goto (-29), 3) := by decide +kernel
theorem dX10_note_83 : decode cX10_note 83 = .ok (.aload_n 0, 1) := by decide +kernel
theorem dX10_note_84 : decode cX10_note 84 = .ok (.dup, 1) := by decide +kernel
theorem dX10_note_85 : decode cX10_note 85 = .ok (.getfield 79, 3) := by decide +kernel
theorem dX10_note_88 : decode cX10_note 88 = .ok (.iconst 1, 1) := by decide +kernel
theorem dX10_note_89 : decode cX10_note 89 = .ok (.iadd, 1) := by decide +kernel
theorem dX10_note_90 : decode cX10_note 90 = .ok (.putfield 79, 3) := by decide +kernel
theorem dX10_note_93 : decode cX10_note 93 = .ok (.return_, 1) := by decide +kernel
theorem dX10_goDie_0 : decode cX10_goDie 0 = .ok (.aload_n 1, 1) := by decide +kernel
theorem dX10_goDie_1 : decode cX10_goDie 1 = .ok (.iconst 0, 1) := by decide +kernel
theorem dX10_goDie_2 : decode cX10_goDie 2 = .ok (.dup2, 1) := by decide +kernel
theorem dX10_goDie_3 : decode cX10_goDie 3 = .ok (.iaload, 1) := by decide +kernel
theorem dX10_goDie_4 : decode cX10_goDie 4 = .ok (.iconst 1, 1) := by decide +kernel
theorem dX10_goDie_5 : decode cX10_goDie 5 = .ok (.iload_n 2, 1) := by decide +kernel
theorem dX10_goDie_6 : decode cX10_goDie 6 = .ok (.ishl, 1) := by decide +kernel
theorem dX10_goDie_7 : decode cX10_goDie 7 = .ok (.iconst (-1), 1) := by decide +kernel
theorem dX10_goDie_8 : decode cX10_goDie 8 = .ok (.ixor, 1) := by decide +kernel
theorem dX10_goDie_9 : decode cX10_goDie 9 = .ok (.iand, 1) := by decide +kernel
theorem dX10_goDie_10 : decode cX10_goDie 10 = .ok (.iastore, 1) := by decide +kernel
theorem dX10_goDie_11 : decode cX10_goDie 11 = .ok (.aload_n 1, 1) := by decide +kernel
theorem dX10_goDie_12 : decode cX10_goDie 12 = .ok (.iconst 1, 1) := by decide +kernel
theorem dX10_goDie_13 : decode cX10_goDie 13 = .ok (.iaload, 1) := by decide +kernel
theorem dX10_goDie_14 : decode cX10_goDie 14 = .ok (.iload_n 2, 1) := by decide +kernel
theorem dX10_goDie_15 : decode cX10_goDie 15 = .ok (.if_icmp .ne 19, 3) := by decide +kernel
theorem dX10_goDie_18 : decode cX10_goDie 18 = .ok (.aload_n 1, 1) := by decide +kernel
theorem dX10_goDie_19 : decode cX10_goDie 19 = .ok (.iconst 1, 1) := by decide +kernel
theorem dX10_goDie_20 : decode cX10_goDie 20 = .ok (.aload_n 0, 1) := by decide +kernel
theorem dX10_goDie_21 : decode cX10_goDie 21 = .ok (.aload_n 1, 1) := by decide +kernel
theorem dX10_goDie_22 : decode cX10_goDie 22 = .ok (.iload_n 2, 1) := by decide +kernel
theorem dX10_goDie_23 : decode cX10_goDie 23 = .ok (.aload_n 1, 1) := by decide +kernel
theorem dX10_goDie_24 : decode cX10_goDie 24 = .ok (.iconst 2, 1) := by decide +kernel
theorem dX10_goDie_25 : decode cX10_goDie 25 = .ok (.iaload, 1) := by decide +kernel
theorem dX10_goDie_26 : decode cX10_goDie 26 = .ok (.invokevirtual 108, 3) := by decide +kernel
theorem dX10_goDie_29 : decode cX10_goDie 29 = .ok (.iastore, 1) := by decide +kernel
theorem dX10_goDie_30 : decode cX10_goDie 30 = .ok (.aload_n 1, 1) := by decide +kernel
theorem dX10_goDie_31 : decode cX10_goDie 31 = .ok (.iconst 4, 1) := by decide +kernel
theorem dX10_goDie_32 : decode cX10_goDie 32 = .ok (.iconst 0, 1) := by decide +kernel
theorem dX10_goDie_33 : decode cX10_goDie 33 = .ok (.iastore, 1) := by decide +kernel
theorem dX10_goDie_34 : decode cX10_goDie 34 = .ok (.return_, 1) := by decide +kernel
theorem dX10_die_0 : decode cX10_die 0 = .ok (.aload_n 0, 1) := by decide +kernel
theorem dX10_die_1 : decode cX10_die 1 = .ok (.iconst 0, 1) := by decide +kernel
theorem dX10_die_2 : decode cX10_die 2 = .ok (.putfield 41, 3) := by decide +kernel
theorem dX10_die_5 : decode cX10_die 5 = .ok (.aload_n 0, 1) := by decide +kernel
theorem dX10_die_6 : decode cX10_die 6 = .ok (.iload_n 1, 1) := by decide +kernel
theorem dX10_die_7 : decode cX10_die 7 = .ok (.invokevirtual 104, 3) := by decide +kernel
theorem dX10_die_10 : decode cX10_die 10 = .ok (.ifCond .eq 5, 3) := by decide +kernel
theorem dX10_die_13 : decode cX10_die 13 = .ok (.iconst (-1), 1) := by decide +kernel
theorem dX10_die_14 : decode cX10_die 14 = .ok (.ireturn, 1) := by decide +kernel
theorem dX10_die_15 : decode cX10_die 15 = .ok (.aload_n 0, 1) := by decide +kernel
theorem dX10_die_16 : decode cX10_die 16 = .ok (.getfield 16, 3) := by decide +kernel
theorem dX10_die_19 : decode cX10_die 19 = .ok (.iconst 0, 1) := by decide +kernel
theorem dX10_die_20 : decode cX10_die 20 = .ok (.iaload, 1) := by decide +kernel
theorem dX10_die_21 : decode cX10_die 21 = .ok (.iload_n 1, 1) := by decide +kernel
theorem dX10_die_22 : decode cX10_die 22 = .ok (.invokestatic 82, 3) := by decide +kernel
theorem dX10_die_25 : decode cX10_die 25 = .ok (.ifCond .ne 6, 3) := by decide +kernel
theorem dX10_die_28 : decode cX10_die 28 = .ok (.bipush (-3), 2) := by decide +kernel
theorem dX10_die_30 : decode cX10_die 30 = .ok (.ireturn, 1) := by decide +kernel
theorem dX10_die_31 : decode cX10_die 31 = .ok (.aload_n 0, 1) := by decide +kernel
theorem dX10_die_32 : decode cX10_die 32 = .ok (.invokevirtual 112, 3) := by decide +kernel
theorem dX10_die_35 : decode cX10_die 35 = .ok (.aload_n 0, 1) := by decide +kernel
theorem dX10_die_36 : decode cX10_die 36 = .ok (.aload_n 0, 1) := by decide +kernel
theorem dX10_die_37 : decode cX10_die 37 = .ok (.getfield 16, 3) := by decide +kernel
theorem dX10_die_40 : decode cX10_die 40 = .ok (.iload_n 1, 1) := by decide +kernel
theorem dX10_die_41 : decode cX10_die 41 = .ok (.invokevirtual 115, 3) := by decide +kernel
theorem dX10_die_44 : decode cX10_die 44 = .ok (.aload_n 0, 1) := by decide +kernel
theorem dX10_die_45 : decode cX10_die 45 = .ok (.getfield 16, 3) := by decide +kernel
theorem dX10_die_48 : decode cX10_die 48 = .ok (.iconst 1, 1) := by decide +kernel
theorem dX10_die_49 : decode cX10_die 49 = .ok (.iaload, 1) := by decide +kernel
theorem dX10_die_50 : decode cX10_die 50 = .ok (.ireturn, 1) := by decide +kernel
theorem dX10_bear_0 : decode cX10_bear 0 = .ok (.aload_n 0, 1) := by decide +kernel
theorem dX10_bear_1 : decode cX10_bear 1 = .ok (.iconst 0, 1) := by decide +kernel
theorem dX10_bear_2 : decode cX10_bear 2 = .ok (.putfield 41, 3) := by decide +kernel
theorem dX10_bear_5 : decode cX10_bear 5 = .ok (.aload_n 0, 1) := by decide +kernel
theorem dX10_bear_6 : decode cX10_bear 6 = .ok (.iload_n 1, 1) := by decide +kernel
theorem dX10_bear_7 : decode cX10_bear 7 = .ok (.invokevirtual 104, 3) := by decide +kernel
theorem dX10_bear_10 : decode cX10_bear 10 = .ok (.ifCond .eq 5, 3) := by decide +kernel
theorem dX10_bear_13 : decode cX10_bear 13 = .ok (.iconst (-1), 1) := by decide +kernel
theorem dX10_bear_14 : decode cX10_bear 14 = .ok (.ireturn, 1) := by decide +kernel
theorem dX10_bear_15 : decode cX10_bear 15 = .ok (.iload_n 2, 1) := by decide +kernel
theorem dX10_bear_16 : decode cX10_bear 16 = .ok (.i2l, 1) := by decide +kernel
theorem dX10_bear_17 : decode cX10_bear 17 = .ok (.lconst 0, 1) := by decide +kernel
theorem dX10_bear_18 : decode cX10_bear 18 = .ok (.lconst 1, 1) := by decide +kernel
theorem dX10_bear_19 : decode cX10_bear 19 = .ok (.invokestatic 45, 3) := by decide +kernel
theorem dX10_bear_22 : decode cX10_bear 22 = .ok (.ifCond .ne 6, 3) := by decide +kernel
theorem dX10_bear_25 : decode cX10_bear 25 = .ok (.bipush (-2), 2) := by decide +kernel
theorem dX10_bear_27 : decode cX10_bear 27 = .ok (.ireturn, 1) := by decide +kernel
theorem dX10_bear_28 : decode cX10_bear 28 = .ok (.aload_n 0, 1) := by decide +kernel
theorem dX10_bear_29 : decode cX10_bear 29 = .ok (.getfield 16, 3) := by decide +kernel
theorem dX10_bear_32 : decode cX10_bear 32 = .ok (.iconst 0, 1) := by decide +kernel
theorem dX10_bear_33 : decode cX10_bear 33 = .ok (.iaload, 1) := by decide +kernel
theorem dX10_bear_34 : decode cX10_bear 34 = .ok (.iload_n 1, 1) := by decide +kernel
theorem dX10_bear_35 : decode cX10_bear 35 = .ok (.invokestatic 82, 3) := by decide +kernel
theorem dX10_bear_38 : decode cX10_bear 38 = .ok (.ifCond .ne 6, 3) := by decide +kernel
theorem dX10_bear_41 : decode cX10_bear 41 = .ok (.bipush (-3), 2) := by decide +kernel
theorem dX10_bear_43 : decode cX10_bear 43 = .ok (.ireturn, 1) := by decide +kernel
theorem dX10_bear_44 : decode cX10_bear 44 = .ok (.aload_n 0, 1) := by decide +kernel
theorem dX10_bear_45 : decode cX10_bear 45 = .ok (.getfield 16, 3) := by decide +kernel
theorem dX10_bear_48 : decode cX10_bear 48 = .ok (.bipush 6, 2) := by decide +kernel
theorem dX10_bear_50 : decode cX10_bear 50 = .ok (.iaload, 1) := by decide +kernel
theorem dX10_bear_51 : decode cX10_bear 51 = .ok (.bipush 7, 2) := by decide +kernel
theorem dX10_bear_53 : decode cX10_bear 53 = .ok (.if_icmp .ne 6, 3) := by decide +kernel
theorem dX10_bear_56 : decode cX10_bear 56 = .ok (.bipush (-4), 2) := by decide +kernel
theorem dX10_bear_58 : decode cX10_bear 58 = .ok (.ireturn, 1) := by decide +kernel
theorem dX10_bear_59 : decode cX10_bear 59 = .ok (.aload_n 0, 1) := by decide +kernel
theorem dX10_bear_60 : decode cX10_bear 60 = .ok (.invokevirtual 112, 3) := by decide +kernel
theorem dX10_bear_63 : decode cX10_bear 63 = .ok (.aload_n 0, 1) := by decide +kernel
theorem dX10_bear_64 : decode cX10_bear 64 = .ok (.getfield 16, 3) := by decide +kernel
theorem dX10_bear_67 : decode cX10_bear 67 = .ok (.bipush 6, 2) := by decide +kernel
theorem dX10_bear_69 : decode cX10_bear 69 = .ok (.iaload, 1) := by decide +kernel
theorem dX10_bear_70 : decode cX10_bear 70 = .ok (.istore_n 3, 1) := by decide +kernel
theorem dX10_bear_71 : decode cX10_bear 71 = .ok (.aload_n 0, 1) := by decide +kernel
theorem dX10_bear_72 : decode cX10_bear 72 = .ok (.getfield 16, 3) := by decide +kernel
theorem dX10_bear_75 : decode cX10_bear 75 = .ok (.bipush 6, 2) := by decide +kernel
theorem dX10_bear_77 : decode cX10_bear 77 = .ok (.dup2, 1) := by decide +kernel
theorem dX10_bear_78 : decode cX10_bear 78 = .ok (.iaload, 1) := by decide +kernel
theorem dX10_bear_79 : decode cX10_bear 79 = .ok (.iconst 1, 1) := by decide +kernel
theorem dX10_bear_80 : decode cX10_bear 80 = .ok (.iadd, 1) := by decide +kernel
theorem dX10_bear_81 : decode cX10_bear 81 = .ok (.iastore, 1) := by decide +kernel
theorem dX10_bear_82 : decode cX10_bear 82 = .ok (.aload_n 0, 1) := by decide +kernel
theorem dX10_bear_83 : decode cX10_bear 83 = .ok (.getfield 16, 3) := by decide +kernel
theorem dX10_bear_86 : decode cX10_bear 86 = .ok (.bipush 7, 2) := by decide +kernel
theorem dX10_bear_88 : decode cX10_bear 88 = .ok (.iload_n 3, 1) := by decide +kernel
theorem dX10_bear_89 : decode cX10_bear 89 = .ok (.iadd, 1) := by decide +kernel
theorem dX10_bear_90 : decode cX10_bear 90 = .ok (.iload_n 1, 1) := by decide +kernel
theorem dX10_bear_91 : decode cX10_bear 91 = .ok (.iastore, 1) := by decide +kernel
theorem dX10_bear_92 : decode cX10_bear 92 = .ok (.aload_n 0, 1) := by decide +kernel
theorem dX10_bear_93 : decode cX10_bear 93 = .ok (.getfield 16, 3) := by decide +kernel
theorem dX10_bear_96 : decode cX10_bear 96 = .ok (.bipush 14, 2) := by decide +kernel
theorem dX10_bear_98 : decode cX10_bear 98 = .ok (.dup2, 1) := by decide +kernel
theorem dX10_bear_99 : decode cX10_bear 99 = .ok (.iaload, 1) := by decide +kernel
theorem dX10_bear_100 : decode cX10_bear 100 = .ok (.iload_n 2, 1) := by decide +kernel
theorem dX10_bear_101 : decode cX10_bear 101 = .ok (.iload_n 3, 1) := by decide +kernel
theorem dX10_bear_102 : decode cX10_bear 102 = .ok (.ishl, 1) := by decide +kernel
theorem dX10_bear_103 : decode cX10_bear 103 = .ok (.ior, 1) := by decide +kernel
theorem dX10_bear_104 : decode cX10_bear 104 = .ok (.iastore, 1) := by decide +kernel
theorem dX10_bear_105 : decode cX10_bear 105 = .ok (.aload_n 0, 1) := by decide +kernel
theorem dX10_bear_106 : decode cX10_bear 106 = .ok (.getfield 16, 3) := by decide +kernel
theorem dX10_bear_109 : decode cX10_bear 109 = .ok (.bipush 15, 2) := by decide +kernel
theorem dX10_bear_111 : decode cX10_bear 111 = .ok (.iload_n 3, 1) := by decide +kernel
theorem dX10_bear_112 : decode cX10_bear 112 = .ok (.iadd, 1) := by decide +kernel
theorem dX10_bear_113 : decode cX10_bear 113 = .ok (.iconst 0, 1) := by decide +kernel
theorem dX10_bear_114 : decode cX10_bear 114 = .ok (.iastore, 1) := by decide +kernel
theorem dX10_bear_115 : decode cX10_bear 115 = .ok (.aload_n 0, 1) := by decide +kernel
theorem dX10_bear_116 : decode cX10_bear 116 = .ok (.getfield 16, 3) := by decide +kernel
theorem dX10_bear_119 : decode cX10_bear 119 = .ok (.iconst 0, 1) := by decide +kernel
theorem dX10_bear_120 : decode cX10_bear 120 = .ok (.dup2, 1) := by decide +kernel
theorem dX10_bear_121 : decode cX10_bear 121 = .ok (.iaload, 1) := by decide +kernel
theorem dX10_bear_122 : decode cX10_bear 122 = .ok (.iconst 1, 1) := by decide +kernel
theorem dX10_bear_123 : decode cX10_bear 123 = .ok (.iload_n 3, 1) := by decide +kernel
theorem dX10_bear_124 : decode cX10_bear 124 = .ok (.ishl, 1) := by decide +kernel
theorem dX10_bear_125 : decode cX10_bear 125 = .ok (.ior, 1) := by decide +kernel
theorem dX10_bear_126 : decode cX10_bear 126 = .ok (.iastore, 1) := by decide +kernel
theorem dX10_bear_127 : decode cX10_bear 127 = .ok (.iload_n 3, 1) := by decide +kernel
theorem dX10_bear_128 : decode cX10_bear 128 = .ok (.ireturn, 1) := by decide +kernel
theorem dX10_cut_0 : decode cX10_cut 0 = .ok (.aload_n 0, 1) := by decide +kernel
theorem dX10_cut_1 : decode cX10_cut 1 = .ok (.iconst 0, 1) := by decide +kernel
theorem dX10_cut_2 : decode cX10_cut 2 = .ok (.putfield 41, 3) := by decide +kernel
theorem dX10_cut_5 : decode cX10_cut 5 = .ok (.iload_n 1, 1) := by decide +kernel
theorem dX10_cut_6 : decode cX10_cut 6 = .ok (.i2l, 1) := by decide +kernel
theorem dX10_cut_7 : decode cX10_cut 7 = .ok (.lconst 1, 1) := by decide +kernel
theorem dX10_cut_8 : decode cX10_cut 8 = .ok (.ldc2_w 119, 3) := by decide +kernel
theorem dX10_cut_11 : decode cX10_cut 11 = .ok (.invokestatic 45, 3) := by decide +kernel
theorem dX10_cut_14 : decode cX10_cut 14 = .ok (.ifCond .ne 6, 3) := by decide +kernel
theorem dX10_cut_17 : decode cX10_cut 17 = .ok (.bipush (-2), 2) := by decide +kernel
theorem dX10_cut_19 : decode cX10_cut 19 = .ok (.ireturn, 1) := by decide +kernel
theorem dX10_cut_20 : decode cX10_cut 20 = .ok (.aload_n 0, 1) := by decide +kernel
theorem dX10_cut_21 : decode cX10_cut 21 = .ok (.getfield 16, 3) := by decide +kernel
theorem dX10_cut_24 : decode cX10_cut 24 = .ok (.iconst 3, 1) := by decide +kernel
theorem dX10_cut_25 : decode cX10_cut 25 = .ok (.iaload, 1) := by decide +kernel
theorem dX10_cut_26 : decode cX10_cut 26 = .ok (.iload_n 1, 1) := by decide +kernel
theorem dX10_cut_27 : decode cX10_cut 27 = .ok (.if_icmp .lt 14, 3) := by decide +kernel
theorem dX10_cut_30 : decode cX10_cut 30 = .ok (.aload_n 0, 1) := by decide +kernel
theorem dX10_cut_31 : decode cX10_cut 31 = .ok (.getfield 16, 3) := by decide +kernel
theorem dX10_cut_34 : decode cX10_cut 34 = .ok (.iconst 1, 1) := by decide +kernel
theorem dX10_cut_35 : decode cX10_cut 35 = .ok (.iaload, 1) := by decide +kernel
theorem dX10_cut_36 : decode cX10_cut 36 = .ok (.bipush (-9), 2) := by decide +kernel
theorem dX10_cut_38 : decode cX10_cut 38 = .ok (.if_icmp .ne 6, 3) := by decide +kernel
theorem dX10_cut_41 : decode cX10_cut 41 = .ok (.bipush (-3), 2) := by decide +kernel
theorem dX10_cut_43 : decode cX10_cut 43 = .ok (.ireturn, 1) := by decide +kernel
theorem dX10_cut_44 : decode cX10_cut 44 = .ok (.aload_n 0, 1) := by decide +kernel
theorem dX10_cut_45 : decode cX10_cut 45 = .ok (.invokevirtual 112, 3) := by decide +kernel
theorem dX10_cut_48 : decode cX10_cut 48 = .ok (.aload_n 0, 1) := by decide +kernel
theorem dX10_cut_49 : decode cX10_cut 49 = .ok (.getfield 16, 3) := by decide +kernel
theorem dX10_cut_52 : decode cX10_cut 52 = .ok (.iconst 3, 1) := by decide +kernel
theorem dX10_cut_53 : decode cX10_cut 53 = .ok (.dup2, 1) := by decide +kernel
theorem dX10_cut_54 : decode cX10_cut 54 = .ok (.iaload, 1) := by decide +kernel
theorem dX10_cut_55 : decode cX10_cut 55 = .ok (.iload_n 1, 1) := by decide +kernel
theorem dX10_cut_56 : decode cX10_cut 56 = .ok (.isub, 1) := by decide +kernel
theorem dX10_cut_57 : decode cX10_cut 57 = .ok (.iastore, 1) := by decide +kernel
theorem dX10_cut_58 : decode cX10_cut 58 = .ok (.aload_n 0, 1) := by decide +kernel
theorem dX10_cut_59 : decode cX10_cut 59 = .ok (.getfield 16, 3) := by decide +kernel
theorem dX10_cut_62 : decode cX10_cut 62 = .ok (.iconst 3, 1) := by decide +kernel
theorem dX10_cut_63 : decode cX10_cut 63 = .ok (.iaload, 1) := by decide +kernel
theorem dX10_cut_64 : decode cX10_cut 64 = .ok (.ireturn, 1) := by decide +kernel
theorem dX10_borrow_0 : decode cX10_borrow 0 = .ok (.aload_n 0, 1) := by decide +kernel
theorem dX10_borrow_1 : decode cX10_borrow 1 = .ok (.iconst 0, 1) := by decide +kernel
theorem dX10_borrow_2 : decode cX10_borrow 2 = .ok (.putfield 41, 3) := by decide +kernel
theorem dX10_borrow_5 : decode cX10_borrow 5 = .ok (.iload_n 1, 1) := by decide +kernel
theorem dX10_borrow_6 : decode cX10_borrow 6 = .ok (.i2l, 1) := by decide +kernel
theorem dX10_borrow_7 : decode cX10_borrow 7 = .ok (.lconst 1, 1) := by decide +kernel
theorem dX10_borrow_8 : decode cX10_borrow 8 = .ok (.ldc2_w 119, 3) := by decide +kernel
theorem dX10_borrow_11 : decode cX10_borrow 11 = .ok (.invokestatic 45, 3) := by decide +kernel
theorem dX10_borrow_14 : decode cX10_borrow 14 = .ok (.ifCond .ne 6, 3) := by decide +kernel
theorem dX10_borrow_17 : decode cX10_borrow 17 = .ok (.bipush (-2), 2) := by decide +kernel
theorem dX10_borrow_19 : decode cX10_borrow 19 = .ok (.ireturn, 1) := by decide +kernel
theorem dX10_borrow_20 : decode cX10_borrow 20 = .ok (.aload_n 0, 1) := by decide +kernel
theorem dX10_borrow_21 : decode cX10_borrow 21 = .ok (.getfield 16, 3) := by decide +kernel
theorem dX10_borrow_24 : decode cX10_borrow 24 = .ok (.iconst 4, 1) := by decide +kernel
theorem dX10_borrow_25 : decode cX10_borrow 25 = .ok (.iaload, 1) := by decide +kernel
theorem dX10_borrow_26 : decode cX10_borrow 26 = .ok (.iload_n 1, 1) := by decide +kernel
theorem dX10_borrow_27 : decode cX10_borrow 27 = .ok (.iadd, 1) := by decide +kernel
theorem dX10_borrow_28 : decode cX10_borrow 28 = .ok (.bipush 9, 2) := by decide +kernel
theorem dX10_borrow_30 : decode cX10_borrow 30 = .ok (.if_icmp .gt 14, 3) := by decide +kernel
theorem dX10_borrow_33 : decode cX10_borrow 33 = .ok (.aload_n 0, 1) := by decide +kernel
theorem dX10_borrow_34 : decode cX10_borrow 34 = .ok (.getfield 16, 3) := by decide +kernel
theorem dX10_borrow_37 : decode cX10_borrow 37 = .ok (.iconst 1, 1) := by decide +kernel
theorem dX10_borrow_38 : decode cX10_borrow 38 = .ok (.iaload, 1) := by decide +kernel
theorem dX10_borrow_39 : decode cX10_borrow 39 = .ok (.bipush (-9), 2) := by decide +kernel
theorem dX10_borrow_41 : decode cX10_borrow 41 = .ok (.if_icmp .ne 6, 3) := by decide +kernel
theorem dX10_borrow_44 : decode cX10_borrow 44 = .ok (.bipush (-3), 2) := by decide +kernel
theorem dX10_borrow_46 : decode cX10_borrow 46 = .ok (.ireturn, 1) := by decide +kernel
theorem dX10_borrow_47 : decode cX10_borrow 47 = .ok (.aload_n 0, 1) := by decide +kernel
theorem dX10_borrow_48 : decode cX10_borrow 48 = .ok (.invokevirtual 112, 3) := by decide +kernel
theorem dX10_borrow_51 : decode cX10_borrow 51 = .ok (.aload_n 0, 1) := by decide +kernel
theorem dX10_borrow_52 : decode cX10_borrow 52 = .ok (.getfield 16, 3) := by decide +kernel
theorem dX10_borrow_55 : decode cX10_borrow 55 = .ok (.iconst 4, 1) := by decide +kernel
theorem dX10_borrow_56 : decode cX10_borrow 56 = .ok (.dup2, 1) := by decide +kernel
theorem dX10_borrow_57 : decode cX10_borrow 57 = .ok (.iaload, 1) := by decide +kernel
theorem dX10_borrow_58 : decode cX10_borrow 58 = .ok (.iload_n 1, 1) := by decide +kernel
theorem dX10_borrow_59 : decode cX10_borrow 59 = .ok (.iadd, 1) := by decide +kernel
theorem dX10_borrow_60 : decode cX10_borrow 60 = .ok (.iastore, 1) := by decide +kernel
theorem dX10_borrow_61 : decode cX10_borrow 61 = .ok (.aload_n 0, 1) := by decide +kernel
theorem dX10_borrow_62 : decode cX10_borrow 62 = .ok (.getfield 16, 3) := by decide +kernel
theorem dX10_borrow_65 : decode cX10_borrow 65 = .ok (.iconst 4, 1) := by decide +kernel
theorem dX10_borrow_66 : decode cX10_borrow 66 = .ok (.iaload, 1) := by decide +kernel
theorem dX10_borrow_67 : decode cX10_borrow 67 = .ok (.ireturn, 1) := by decide +kernel
theorem dX10_isOfAge_0 : decode cX10_isOfAge 0 = .ok (.aload_n 0, 1) := by decide +kernel
theorem dX10_isOfAge_1 : decode cX10_isOfAge 1 = .ok (.getfield 16, 3) := by decide +kernel
theorem dX10_isOfAge_4 : decode cX10_isOfAge 4 = .ok (.iconst 1, 1) := by decide +kernel
theorem dX10_isOfAge_5 : decode cX10_isOfAge 5 = .ok (.iaload, 1) := by decide +kernel
theorem dX10_isOfAge_6 : decode cX10_isOfAge 6 = .ok (.bipush (-9), 2) := by decide +kernel
theorem dX10_isOfAge_8 : decode cX10_isOfAge 8 = .ok (.if_icmp .ne 5, 3) := by decide +kernel
theorem dX10_isOfAge_11 : decode cX10_isOfAge 11 = .ok (.iconst 0, 1) := by decide +kernel
theorem dX10_isOfAge_12 : decode cX10_isOfAge 12 = .ok (.ireturn, 1) := by decide +kernel
theorem dX10_isOfAge_13 : decode cX10_isOfAge 13 = .ok (.aload_n 0, 1) := by decide +kernel
theorem dX10_isOfAge_14 : decode cX10_isOfAge 14 = .ok (.aload_n 0, 1) := by decide +kernel
theorem dX10_isOfAge_15 : decode cX10_isOfAge 15 = .ok (.getfield 16, 3) := by decide +kernel
theorem dX10_isOfAge_18 : decode cX10_isOfAge 18 = .ok (.aload_n 0, 1) := by decide +kernel
theorem dX10_isOfAge_19 : decode cX10_isOfAge 19 = .ok (.getfield 16, 3) := by decide +kernel
theorem dX10_isOfAge_22 : decode cX10_isOfAge 22 = .ok (.iconst 1, 1) := by decide +kernel
theorem dX10_isOfAge_23 : decode cX10_isOfAge 23 = .ok (.iaload, 1) := by decide +kernel
theorem dX10_isOfAge_24 : decode cX10_isOfAge 24 = .ok (.aload_n 0, 1) := by decide +kernel
theorem dX10_isOfAge_25 : decode cX10_isOfAge 25 = .ok (.getfield 16, 3) := by decide +kernel
theorem dX10_isOfAge_28 : decode cX10_isOfAge 28 = .ok (.iconst 2, 1) := by decide +kernel
theorem dX10_isOfAge_29 : decode cX10_isOfAge 29 = .ok (.iaload, 1) := by decide +kernel
theorem dX10_isOfAge_30 : decode cX10_isOfAge 30 = .ok (.invokevirtual 108, 3) := by decide +kernel
theorem dX10_isOfAge_33 : decode cX10_isOfAge 33 = .ok (.istore_n 1, 1) := by decide +kernel
theorem dX10_isOfAge_34 : decode cX10_isOfAge 34 = .ok (.iload_n 1, 1) := by decide +kernel
theorem dX10_isOfAge_35 : decode cX10_isOfAge 35 = .ok (.bipush (-9), 2) := by decide +kernel
theorem dX10_isOfAge_37 : decode cX10_isOfAge 37 = .ok (.if_icmp .eq 38, 3) := by decide +kernel
theorem dX10_isOfAge_40 : decode cX10_isOfAge 40 = .ok (.aload_n 0, 1) := by decide +kernel
theorem dX10_isOfAge_41 : decode cX10_isOfAge 41 = .ok (.getfield 16, 3) := by decide +kernel
theorem dX10_isOfAge_44 : decode cX10_isOfAge 44 = .ok (.bipush 7, 2) := by decide +kernel
theorem dX10_isOfAge_46 : decode cX10_isOfAge 46 = .ok (.iload_n 1, 1) := by decide +kernel
theorem dX10_isOfAge_47 : decode cX10_isOfAge 47 = .ok (.iadd, 1) := by decide +kernel
theorem dX10_isOfAge_48 : decode cX10_isOfAge 48 = .ok (.iaload, 1) := by decide +kernel
theorem dX10_isOfAge_49 : decode cX10_isOfAge 49 = .ok (.aload_n 0, 1) := by decide +kernel
theorem dX10_isOfAge_50 : decode cX10_isOfAge 50 = .ok (.getfield 16, 3) := by decide +kernel
theorem dX10_isOfAge_53 : decode cX10_isOfAge 53 = .ok (.iconst 1, 1) := by decide +kernel
theorem dX10_isOfAge_54 : decode cX10_isOfAge 54 = .ok (.iaload, 1) := by decide +kernel
theorem dX10_isOfAge_55 : decode cX10_isOfAge 55 = .ok (.if_icmp .ne 20, 3) := by decide +kernel
theorem dX10_isOfAge_58 : decode cX10_isOfAge 58 = .ok (.aload_n 0, 1) := by decide +kernel
theorem dX10_isOfAge_59 : decode cX10_isOfAge 59 = .ok (.getfield 16, 3) := by decide +kernel
theorem dX10_isOfAge_62 : decode cX10_isOfAge 62 = .ok (.bipush 15, 2) := by decide +kernel
theorem dX10_isOfAge_64 : decode cX10_isOfAge 64 = .ok (.iload_n 1, 1) := by decide +kernel
theorem dX10_isOfAge_65 : decode cX10_isOfAge 65 = .ok (.iadd, 1) := by decide +kernel
theorem dX10_isOfAge_66 : decode cX10_isOfAge 66 = .ok (.iaload, 1) := by decide +kernel
theorem dX10_isOfAge_67 : decode cX10_isOfAge 67 = .ok (.iconst 2, 1) := by decide +kernel
theorem dX10_isOfAge_68 : decode cX10_isOfAge 68 = .ok (.if_icmp .lt 7, 3) := by decide +kernel
theorem dX10_isOfAge_71 : decode cX10_isOfAge 71 = .ok (.iconst 1, 1) := by decide +kernel
theorem dX10_isOfAge_72 : decode cX10_isOfAge 72 = .ok (.goto 4, 3) := by decide +kernel
theorem dX10_isOfAge_75 : decode cX10_isOfAge 75 = .ok (.iconst 0, 1) := by decide +kernel
theorem dX10_isOfAge_76 : decode cX10_isOfAge 76 = .ok (.ireturn, 1) := by decide +kernel
theorem dX10_breakTie_0 : decode cX10_breakTie 0 = .ok (.aload_n 0, 1) := by decide +kernel
theorem dX10_breakTie_1 : decode cX10_breakTie 1 = .ok (.iconst 0, 1) := by decide +kernel
theorem dX10_breakTie_2 : decode cX10_breakTie 2 = .ok (.putfield 41, 3) := by decide +kernel
theorem dX10_breakTie_5 : decode cX10_breakTie 5 = .ok (.iload_n 1, 1) := by decide +kernel
theorem dX10_breakTie_6 : decode cX10_breakTie 6 = .ok (.invokestatic 121, 3) := by decide +kernel
theorem dX10_breakTie_9 : decode cX10_breakTie 9 = .ok (.ifCond .eq 6, 3) := by decide +kernel
theorem dX10_breakTie_12 : decode cX10_breakTie 12 = .ok (.bipush (-2), 2) := by decide +kernel
theorem dX10_breakTie_14 : decode cX10_breakTie 14 = .ok (.ireturn, 1) := by decide +kernel
theorem dX10_breakTie_15 : decode cX10_breakTie 15 = .ok (.aload_n 0, 1) := by decide +kernel
theorem dX10_breakTie_16 : decode cX10_breakTie 16 = .ok (.getfield 16, 3) := by decide +kernel
theorem dX10_breakTie_19 : decode cX10_breakTie 19 = .ok (.iconst 2, 1) := by decide +kernel
theorem dX10_breakTie_20 : decode cX10_breakTie 20 = .ok (.iaload, 1) := by decide +kernel
theorem dX10_breakTie_21 : decode cX10_breakTie 21 = .ok (.istore_n 2, 1) := by decide +kernel
theorem dX10_breakTie_22 : decode cX10_breakTie 22 = .ok (.iload_n 2, 1) := by decide +kernel
theorem dX10_breakTie_23 : decode cX10_breakTie 23 = .ok (.iload_n 1, 1) := by decide +kernel
theorem dX10_breakTie_24 : decode cX10_breakTie 24 = .ok (.if_icmp .eq 10, 3) := by decide +kernel
theorem dX10_breakTie_27 : decode cX10_breakTie 27 = .ok (.aload_n 0, 1) := by decide +kernel
theorem dX10_breakTie_28 : decode cX10_breakTie 28 = .ok (.invokevirtual 124, 3) := by decide +kernel
theorem dX10_breakTie_31 : decode cX10_breakTie 31 = .ok (.ifCond .ne 6, 3) := by decide +kernel
theorem dX10_breakTie_34 : decode cX10_breakTie 34 = .ok (.bipush (-3), 2) := by decide +kernel
theorem dX10_breakTie_36 : decode cX10_breakTie 36 = .ok (.ireturn, 1) := by decide +kernel
theorem dX10_breakTie_37 : decode cX10_breakTie 37 = .ok (.aload_n 0, 1) := by decide +kernel
theorem dX10_breakTie_38 : decode cX10_breakTie 38 = .ok (.invokevirtual 112, 3) := by decide +kernel
theorem dX10_breakTie_41 : decode cX10_breakTie 41 = .ok (.aload_n 0, 1) := by decide +kernel
theorem dX10_breakTie_42 : decode cX10_breakTie 42 = .ok (.getfield 16, 3) := by decide +kernel
theorem dX10_breakTie_45 : decode cX10_breakTie 45 = .ok (.iconst 2, 1) := by decide +kernel
theorem dX10_breakTie_46 : decode cX10_breakTie 46 = .ok (.iload_n 1, 1) := by decide +kernel
theorem dX10_breakTie_47 : decode cX10_breakTie 47 = .ok (.iastore, 1) := by decide +kernel
theorem dX10_breakTie_48 : decode cX10_breakTie 48 = .ok (.iload_n 2, 1) := by decide +kernel
theorem dX10_breakTie_49 : decode cX10_breakTie 49 = .ok (.ireturn, 1) := by decide +kernel
theorem dX10_tens_0 : decode cX10_tens 0 = .ok (.aload_n 0, 1) := by decide +kernel
theorem dX10_tens_1 : decode cX10_tens 1 = .ok (.iconst 0, 1) := by decide +kernel
theorem dX10_tens_2 : decode cX10_tens 2 = .ok (.putfield 41, 3) := by decide +kernel
theorem dX10_tens_5 : decode cX10_tens 5 = .ok (.aload_n 0, 1) := by decide +kernel
theorem dX10_tens_6 : decode cX10_tens 6 = .ok (.invokevirtual 112, 3) := by decide +kernel
theorem dX10_tens_9 : decode cX10_tens 9 = .ok (.iconst 0, 1) := by decide +kernel
theorem dX10_tens_10 : decode cX10_tens 10 = .ok (.istore_n 1, 1) := by decide +kernel
theorem dX10_tens_11 : decode cX10_tens 11 = .ok (.iload_n 1, 1) := by decide +kernel
theorem dX10_tens_12 : decode cX10_tens 12 = .ok (.aload_n 0, 1) := by decide +kernel
theorem dX10_tens_13 : decode cX10_tens 13 = .ok (.getfield 16, 3) := by decide +kernel
theorem dX10_tens_16 : decode cX10_tens 16 = .ok (.bipush 6, 2) := by decide +kernel
theorem dX10_tens_18 : decode cX10_tens 18 = .ok (.iaload, 1) := by decide +kernel
theorem dX10_tens_19 : decode cX10_tens 19 = .ok (.if_icmp .ge 22, 3) := by decide +kernel
theorem dX10_tens_22 : decode cX10_tens 22 = .ok (.aload_n 0, 1) := by decide +kernel
theorem dX10_tens_23 : decode cX10_tens 23 = .ok (.getfield 16, 3) := by decide +kernel
theorem dX10_tens_26 : decode cX10_tens 26 = .ok (.bipush 15, 2) := by decide +kernel
theorem dX10_tens_28 : decode cX10_tens 28 = .ok (.iload_n 1, 1) := by decide +kernel
theorem dX10_tens_29 : decode cX10_tens 29 = .ok (.iadd, 1) := by decide +kernel
theorem dX10_tens_30 : decode cX10_tens 30 = .ok (.dup2, 1) := by decide +kernel
theorem dX10_tens_31 : decode cX10_tens 31 = .ok (.iaload, 1) := by decide +kernel
theorem dX10_tens_32 : decode cX10_tens 32 = .ok (.iconst 1, 1) := by decide +kernel
theorem dX10_tens_33 : decode cX10_tens 33 = .ok (.iadd, 1) := by decide +kernel
theorem dX10_tens_34 : decode cX10_tens 34 = .ok (.iastore, 1) := by decide +kernel
theorem dX10_tens_35 : decode cX10_tens 35 = .ok (.iinc 1 1, 3) := by decide +kernel
theorem dX10_tens_38 : decode cX10_tens 38 = .ok (.goto (-27), 3) := by decide +kernel
theorem dX10_tens_41 : decode cX10_tens 41 = .ok (.aload_n 0, 1) := by decide +kernel
theorem dX10_tens_42 : decode cX10_tens 42 = .ok (.getfield 16, 3) := by decide +kernel
theorem dX10_tens_45 : decode cX10_tens 45 = .ok (.iconst 3, 1) := by decide +kernel
theorem dX10_tens_46 : decode cX10_tens 46 = .ok (.dup2, 1) := by decide +kernel
theorem dX10_tens_47 : decode cX10_tens 47 = .ok (.iaload, 1) := by decide +kernel
theorem dX10_tens_48 : decode cX10_tens 48 = .ok (.aload_n 0, 1) := by decide +kernel
theorem dX10_tens_49 : decode cX10_tens 49 = .ok (.getfield 16, 3) := by decide +kernel
theorem dX10_tens_52 : decode cX10_tens 52 = .ok (.iconst 3, 1) := by decide +kernel
theorem dX10_tens_53 : decode cX10_tens 53 = .ok (.iaload, 1) := by decide +kernel
theorem dX10_tens_54 : decode cX10_tens 54 = .ok (.bipush 9, 2) := by decide +kernel
theorem dX10_tens_56 : decode cX10_tens 56 = .ok (.if_icmp .ge 7, 3) := by decide +kernel
theorem dX10_tens_59 : decode cX10_tens 59 = .ok (.iconst 1, 1) := by decide +kernel
theorem dX10_tens_60 : decode cX10_tens 60 = .ok (.goto 4, 3) := by decide +kernel
theorem dX10_tens_63 : decode cX10_tens 63 = .ok (.iconst 0, 1) := by decide +kernel
theorem dX10_tens_64 : decode cX10_tens 64 = .ok (.iadd, 1) := by decide +kernel
theorem dX10_tens_65 : decode cX10_tens 65 = .ok (.iastore, 1) := by decide +kernel
