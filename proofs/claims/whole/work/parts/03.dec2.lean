theorem dX10_tens_66 : decode cX10_tens 66 = .ok (.aload_n 0, 1) := by decide +kernel
theorem dX10_tens_67 : decode cX10_tens 67 = .ok (.getfield 16, 3) := by decide +kernel
theorem dX10_tens_70 : decode cX10_tens 70 = .ok (.iconst 5, 1) := by decide +kernel
theorem dX10_tens_71 : decode cX10_tens 71 = .ok (.dup2, 1) := by decide +kernel
theorem dX10_tens_72 : decode cX10_tens 72 = .ok (.iaload, 1) := by decide +kernel
theorem dX10_tens_73 : decode cX10_tens 73 = .ok (.iconst 1, 1) := by decide +kernel
theorem dX10_tens_74 : decode cX10_tens 74 = .ok (.iadd, 1) := by decide +kernel
theorem dX10_tens_75 : decode cX10_tens 75 = .ok (.iastore, 1) := by decide +kernel
theorem dX10_tens_76 : decode cX10_tens 76 = .ok (.aload_n 0, 1) := by decide +kernel
theorem dX10_tens_77 : decode cX10_tens 77 = .ok (.getfield 16, 3) := by decide +kernel
theorem dX10_tens_80 : decode cX10_tens 80 = .ok (.iconst 5, 1) := by decide +kernel
theorem dX10_tens_81 : decode cX10_tens 81 = .ok (.iaload, 1) := by decide +kernel
theorem dX10_tens_82 : decode cX10_tens 82 = .ok (.ireturn, 1) := by decide +kernel
theorem dX10_undo_0 : decode cX10_undo 0 = .ok (.aload_n 0, 1) := by decide +kernel
theorem dX10_undo_1 : decode cX10_undo 1 = .ok (.iconst 0, 1) := by decide +kernel
theorem dX10_undo_2 : decode cX10_undo 2 = .ok (.putfield 41, 3) := by decide +kernel
theorem dX10_undo_5 : decode cX10_undo 5 = .ok (.aload_n 0, 1) := by decide +kernel
theorem dX10_undo_6 : decode cX10_undo 6 = .ok (.getfield 79, 3) := by decide +kernel
theorem dX10_undo_9 : decode cX10_undo 9 = .ok (.ifCond .ne 6, 3) := by decide +kernel
theorem dX10_undo_12 : decode cX10_undo 12 = .ok (.bipush (-3), 2) := by decide +kernel
theorem dX10_undo_14 : decode cX10_undo 14 = .ok (.ireturn, 1) := by decide +kernel
theorem dX10_undo_15 : decode cX10_undo 15 = .ok (.aload_n 0, 1) := by decide +kernel
theorem dX10_undo_16 : decode cX10_undo 16 = .ok (.dup, 1) := by decide +kernel
theorem dX10_undo_17 : decode cX10_undo 17 = .ok (.getfield 79, 3) := by decide +kernel
theorem dX10_undo_20 : decode cX10_undo 20 = .ok (.iconst 1, 1) := by decide +kernel
theorem dX10_undo_21 : decode cX10_undo 21 = .ok (.isub, 1) := by decide +kernel
theorem dX10_undo_22 : decode cX10_undo 22 = .ok (.putfield 79, 3) := by decide +kernel
theorem dX10_undo_25 : decode cX10_undo 25 = .ok (.iconst 0, 1) := by decide +kernel
theorem dX10_undo_26 : decode cX10_undo 26 = .ok (.istore_n 1, 1) := by decide +kernel
theorem dX10_undo_27 : decode cX10_undo 27 = .ok (.iload_n 1, 1) := by decide +kernel
theorem dX10_undo_28 : decode cX10_undo 28 = .ok (.bipush 22, 2) := by decide +kernel
theorem dX10_undo_30 : decode cX10_undo 30 = .ok (.if_icmp .ge 29, 3) := by decide +kernel
theorem dX10_undo_33 : decode cX10_undo 33 = .ok (.aload_n 0, 1) := by decide +kernel
theorem dX10_undo_34 : decode cX10_undo 34 = .ok (.getfield 16, 3) := by decide +kernel
theorem dX10_undo_37 : decode cX10_undo 37 = .ok (.iload_n 1, 1) := by decide +kernel
theorem dX10_undo_38 : decode cX10_undo 38 = .ok (.aload_n 0, 1) := by decide +kernel
theorem dX10_undo_39 : decode cX10_undo 39 = .ok (.getfield 22, 3) := by decide +kernel
theorem dX10_undo_42 : decode cX10_undo 42 = .ok (.bipush 22, 2) := by decide +kernel
theorem dX10_undo_44 : decode cX10_undo 44 = .ok (.aload_n 0, 1) := by decide +kernel
theorem dX10_undo_45 : decode cX10_undo 45 = .ok (.getfield 79, 3) := by decide +kernel
theorem dX10_undo_48 : decode cX10_undo 48 = .ok (.imul, 1) := by decide +kernel
theorem dX10_undo_49 : decode cX10_undo 49 = .ok (.iload_n 1, 1) := by decide +kernel
theorem dX10_undo_50 : decode cX10_undo 50 = .ok (.iadd, 1) := by decide +kernel
theorem dX10_undo_51 : decode cX10_undo 51 = .ok (.iaload, 1) := by decide +kernel
theorem dX10_undo_52 : decode cX10_undo 52 = .ok (.iastore, 1) := by decide +kernel
theorem dX10_undo_53 : decode cX10_undo 53 = .ok (.iinc 1 1, 3) := by decide +kernel
theorem dX10_undo_56 : decode cX10_undo 56 = .ok (.goto (-29), 3) := by decide +kernel
theorem dX10_undo_59 : decode cX10_undo 59 = .ok (.aload_n 0, 1) := by decide +kernel
theorem dX10_undo_60 : decode cX10_undo 60 = .ok (.getfield 79, 3) := by decide +kernel
theorem dX10_undo_63 : decode cX10_undo 63 = .ok (.ireturn, 1) := by decide +kernel
theorem dX10_begin_0 : decode cX10_begin 0 = .ok (.iconst 0, 1) := by decide +kernel
theorem dX10_begin_1 : decode cX10_begin 1 = .ok (.istore_n 1, 1) := by decide +kernel
theorem dX10_begin_2 : decode cX10_begin 2 = .ok (.iload_n 1, 1) := by decide +kernel
theorem dX10_begin_3 : decode cX10_begin 3 = .ok (.bipush 22, 2) := by decide +kernel
theorem dX10_begin_5 : decode cX10_begin 5 = .ok (.if_icmp .ge 21, 3) := by decide +kernel
theorem dX10_begin_8 : decode cX10_begin 8 = .ok (.aload_n 0, 1) := by decide +kernel
theorem dX10_begin_9 : decode cX10_begin 9 = .ok (.getfield 19, 3) := by decide +kernel
theorem dX10_begin_12 : decode cX10_begin 12 = .ok (.iload_n 1, 1) := by decide +kernel
theorem dX10_begin_13 : decode cX10_begin 13 = .ok (.aload_n 0, 1) := by decide +kernel
theorem dX10_begin_14 : decode cX10_begin 14 = .ok (.getfield 16, 3) := by decide +kernel
theorem dX10_begin_17 : decode cX10_begin 17 = .ok (.iload_n 1, 1) := by decide +kernel
theorem dX10_begin_18 : decode cX10_begin 18 = .ok (.iaload, 1) := by decide +kernel
theorem dX10_begin_19 : decode cX10_begin 19 = .ok (.iastore, 1) := by decide +kernel
theorem dX10_begin_20 : decode cX10_begin 20 = .ok (.iinc 1 1, 3) := by decide +kernel
theorem dX10_begin_23 : decode cX10_begin 23 = .ok (.goto (-21), 3) := by decide +kernel
theorem dX10_begin_26 : decode cX10_begin 26 = .ok (.return_, 1) := by decide +kernel
theorem dX10_heir_0 : decode cX10_heir 0 = .ok (.aload_n 0, 1) := by decide +kernel
theorem dX10_heir_1 : decode cX10_heir 1 = .ok (.iconst 0, 1) := by decide +kernel
theorem dX10_heir_2 : decode cX10_heir 2 = .ok (.putfield 41, 3) := by decide +kernel
theorem dX10_heir_5 : decode cX10_heir 5 = .ok (.aload_n 0, 1) := by decide +kernel
theorem dX10_heir_6 : decode cX10_heir 6 = .ok (.iload_n 1, 1) := by decide +kernel
theorem dX10_heir_7 : decode cX10_heir 7 = .ok (.invokevirtual 104, 3) := by decide +kernel
theorem dX10_heir_10 : decode cX10_heir 10 = .ok (.ifCond .eq 5, 3) := by decide +kernel
theorem dX10_heir_13 : decode cX10_heir 13 = .ok (.iconst (-1), 1) := by decide +kernel
theorem dX10_heir_14 : decode cX10_heir 14 = .ok (.ireturn, 1) := by decide +kernel
theorem dX10_heir_15 : decode cX10_heir 15 = .ok (.iload_n 2, 1) := by decide +kernel
theorem dX10_heir_16 : decode cX10_heir 16 = .ok (.invokestatic 121, 3) := by decide +kernel
theorem dX10_heir_19 : decode cX10_heir 19 = .ok (.ifCond .eq 8, 3) := by decide +kernel
theorem dX10_heir_22 : decode cX10_heir 22 = .ok (.bipush (-2), 2) := by decide +kernel
theorem dX10_heir_24 : decode cX10_heir 24 = .ok (.goto 13, 3) := by decide +kernel
theorem dX10_heir_27 : decode cX10_heir 27 = .ok (.aload_n 0, 1) := by decide +kernel
theorem dX10_heir_28 : decode cX10_heir 28 = .ok (.aload_n 0, 1) := by decide +kernel
theorem dX10_heir_29 : decode cX10_heir 29 = .ok (.getfield 16, 3) := by decide +kernel
theorem dX10_heir_32 : decode cX10_heir 32 = .ok (.iload_n 1, 1) := by decide +kernel
theorem dX10_heir_33 : decode cX10_heir 33 = .ok (.iload_n 2, 1) := by decide +kernel
theorem dX10_heir_34 : decode cX10_heir 34 = .ok (.invokevirtual 108, 3) := by decide +kernel
theorem dX10_heir_37 : decode cX10_heir 37 = .ok (.ireturn, 1) := by decide +kernel
theorem dX10_line_0 : decode cX10_line 0 = .ok (.aload_n 0, 1) := by decide +kernel
theorem dX10_line_1 : decode cX10_line 1 = .ok (.iconst 0, 1) := by decide +kernel
theorem dX10_line_2 : decode cX10_line 2 = .ok (.putfield 41, 3) := by decide +kernel
theorem dX10_line_5 : decode cX10_line 5 = .ok (.aload_n 0, 1) := by decide +kernel
theorem dX10_line_6 : decode cX10_line 6 = .ok (.iload_n 1, 1) := by decide +kernel
theorem dX10_line_7 : decode cX10_line 7 = .ok (.invokevirtual 104, 3) := by decide +kernel
theorem dX10_line_10 : decode cX10_line 10 = .ok (.ifCond .ne 11, 3) := by decide +kernel
theorem dX10_line_13 : decode cX10_line 13 = .ok (.aload_n 0, 1) := by decide +kernel
theorem dX10_line_14 : decode cX10_line 14 = .ok (.iload_n 2, 1) := by decide +kernel
theorem dX10_line_15 : decode cX10_line 15 = .ok (.invokevirtual 104, 3) := by decide +kernel
theorem dX10_line_18 : decode cX10_line 18 = .ok (.ifCond .eq 5, 3) := by decide +kernel
theorem dX10_line_21 : decode cX10_line 21 = .ok (.iconst (-1), 1) := by decide +kernel
theorem dX10_line_22 : decode cX10_line 22 = .ok (.ireturn, 1) := by decide +kernel
theorem dX10_line_23 : decode cX10_line 23 = .ok (.iload_n 3, 1) := by decide +kernel
theorem dX10_line_24 : decode cX10_line 24 = .ok (.invokestatic 121, 3) := by decide +kernel
theorem dX10_line_27 : decode cX10_line 27 = .ok (.ifCond .eq 6, 3) := by decide +kernel
theorem dX10_line_30 : decode cX10_line 30 = .ok (.bipush (-2), 2) := by decide +kernel
theorem dX10_line_32 : decode cX10_line 32 = .ok (.ireturn, 1) := by decide +kernel
theorem dX10_line_33 : decode cX10_line 33 = .ok (.aload_n 0, 1) := by decide +kernel
theorem dX10_line_34 : decode cX10_line 34 = .ok (.aload_n 0, 1) := by decide +kernel
theorem dX10_line_35 : decode cX10_line 35 = .ok (.getfield 16, 3) := by decide +kernel
theorem dX10_line_38 : decode cX10_line 38 = .ok (.iload_n 1, 1) := by decide +kernel
theorem dX10_line_39 : decode cX10_line 39 = .ok (.iload_n 3, 1) := by decide +kernel
theorem dX10_line_40 : decode cX10_line 40 = .ok (.invokevirtual 97, 3) := by decide +kernel
theorem dX10_line_43 : decode cX10_line 43 = .ok (.bipush (-9), 2) := by decide +kernel
theorem dX10_line_45 : decode cX10_line 45 = .ok (.istore 4, 2) := by decide +kernel
theorem dX10_line_47 : decode cX10_line 47 = .ok (.iconst 0, 1) := by decide +kernel
theorem dX10_line_48 : decode cX10_line 48 = .ok (.istore 5, 2) := by decide +kernel
theorem dX10_line_50 : decode cX10_line 50 = .ok (.iload 5, 2) := by decide +kernel
theorem dX10_line_52 : decode cX10_line 52 = .ok (.aload_n 0, 1) := by decide +kernel
theorem dX10_line_53 : decode cX10_line 53 = .ok (.getfield 86, 3) := by decide +kernel
theorem dX10_line_56 : decode cX10_line 56 = .ok (.if_icmp .ge 29, 3) := by decide +kernel
theorem dX10_line_59 : decode cX10_line 59 = .ok (.aload_n 0, 1) := by decide +kernel
theorem dX10_line_60 : decode cX10_line 60 = .ok (.getfield 32, 3) := by decide +kernel
theorem dX10_line_63 : decode cX10_line 63 = .ok (.iload 5, 2) := by decide +kernel
theorem dX10_line_65 : decode cX10_line 65 = .ok (.iaload, 1) := by decide +kernel
theorem dX10_line_66 : decode cX10_line 66 = .ok (.iload_n 2, 1) := by decide +kernel
theorem dX10_line_67 : decode cX10_line 67 = .ok (.if_icmp .ne 8, 3) := by decide +kernel
theorem dX10_line_70 : decode cX10_line 70 = .ok (.iload 5, 2) := by decide +kernel
theorem dX10_line_72 : decode cX10_line 72 = .ok (.goto 5, 3) := by decide +kernel
theorem dX10_line_75 : decode cX10_line 75 = .ok (.iload 4, 2) := by decide +kernel
theorem dX10_line_77 : decode cX10_line 77 = .ok (.istore 4, 2) := by decide +kernel
theorem dX10_line_79 : decode cX10_line 79 = .ok (.iinc 5 1, 3) := by decide +kernel
theorem dX10_line_82 : decode cX10_line 82 = .ok (.goto (-32), 3) := by decide +kernel
theorem dX10_line_85 : decode cX10_line 85 = .ok (.iload 4, 2) := by decide +kernel
theorem dX10_line_87 : decode cX10_line 87 = .ok (.ireturn, 1) := by decide +kernel
theorem dX10_next_0 : decode cX10_next 0 = .ok (.aload_n 0, 1) := by decide +kernel
theorem dX10_next_1 : decode cX10_next 1 = .ok (.iconst 0, 1) := by decide +kernel
theorem dX10_next_2 : decode cX10_next 2 = .ok (.putfield 41, 3) := by decide +kernel
theorem dX10_next_5 : decode cX10_next 5 = .ok (.iload_n 1, 1) := by decide +kernel
theorem dX10_next_6 : decode cX10_next 6 = .ok (.invokestatic 121, 3) := by decide +kernel
theorem dX10_next_9 : decode cX10_next 9 = .ok (.ifCond .eq 6, 3) := by decide +kernel
theorem dX10_next_12 : decode cX10_next 12 = .ok (.bipush (-2), 2) := by decide +kernel
theorem dX10_next_14 : decode cX10_next 14 = .ok (.ireturn, 1) := by decide +kernel
theorem dX10_next_15 : decode cX10_next 15 = .ok (.aload_n 0, 1) := by decide +kernel
theorem dX10_next_16 : decode cX10_next 16 = .ok (.invokevirtual 127, 3) := by decide +kernel
theorem dX10_next_19 : decode cX10_next 19 = .ok (.aload_n 0, 1) := by decide +kernel
theorem dX10_next_20 : decode cX10_next 20 = .ok (.getfield 19, 3) := by decide +kernel
theorem dX10_next_23 : decode cX10_next 23 = .ok (.iconst 2, 1) := by decide +kernel
theorem dX10_next_24 : decode cX10_next 24 = .ok (.iload_n 1, 1) := by decide +kernel
theorem dX10_next_25 : decode cX10_next 25 = .ok (.iastore, 1) := by decide +kernel
theorem dX10_next_26 : decode cX10_next 26 = .ok (.iconst 0, 1) := by decide +kernel
theorem dX10_next_27 : decode cX10_next 27 = .ok (.istore_n 2, 1) := by decide +kernel
theorem dX10_next_28 : decode cX10_next 28 = .ok (.aload_n 0, 1) := by decide +kernel
theorem dX10_next_29 : decode cX10_next 29 = .ok (.getfield 19, 3) := by decide +kernel
theorem dX10_next_32 : decode cX10_next 32 = .ok (.iconst 1, 1) := by decide +kernel
theorem dX10_next_33 : decode cX10_next 33 = .ok (.iaload, 1) := by decide +kernel
theorem dX10_next_34 : decode cX10_next 34 = .ok (.bipush (-9), 2) := by decide +kernel
theorem dX10_next_36 : decode cX10_next 36 = .ok (.if_icmp .eq 34, 3) := by decide +kernel
theorem dX10_next_39 : decode cX10_next 39 = .ok (.bipush 10, 2) := by decide +kernel
theorem dX10_next_41 : decode cX10_next 41 = .ok (.iload_n 2, 1) := by decide +kernel
theorem dX10_next_42 : decode cX10_next 42 = .ok (.imul, 1) := by decide +kernel
theorem dX10_next_43 : decode cX10_next 43 = .ok (.aload_n 0, 1) := by decide +kernel
theorem dX10_next_44 : decode cX10_next 44 = .ok (.getfield 19, 3) := by decide +kernel
theorem dX10_next_47 : decode cX10_next 47 = .ok (.iconst 1, 1) := by decide +kernel
theorem dX10_next_48 : decode cX10_next 48 = .ok (.iaload, 1) := by decide +kernel
theorem dX10_next_49 : decode cX10_next 49 = .ok (.iadd, 1) := by decide +kernel
theorem dX10_next_50 : decode cX10_next 50 = .ok (.iconst 1, 1) := by decide +kernel
theorem dX10_next_51 : decode cX10_next 51 = .ok (.iadd, 1) := by decide +kernel
theorem dX10_next_52 : decode cX10_next 52 = .ok (.istore_n 2, 1) := by decide +kernel
theorem dX10_next_53 : decode cX10_next 53 = .ok (.aload_n 0, 1) := by decide +kernel
theorem dX10_next_54 : decode cX10_next 54 = .ok (.aload_n 0, 1) := by decide +kernel
theorem dX10_next_55 : decode cX10_next 55 = .ok (.getfield 19, 3) := by decide +kernel
theorem dX10_next_58 : decode cX10_next 58 = .ok (.aload_n 0, 1) := by decide +kernel
theorem dX10_next_59 : decode cX10_next 59 = .ok (.getfield 19, 3) := by decide +kernel
theorem dX10_next_62 : decode cX10_next 62 = .ok (.iconst 1, 1) := by decide +kernel
theorem dX10_next_63 : decode cX10_next 63 = .ok (.iaload, 1) := by decide +kernel
theorem dX10_next_64 : decode cX10_next 64 = .ok (.invokevirtual 115, 3) := by decide +kernel
theorem dX10_next_67 : decode cX10_next 67 = .ok (.goto (-39), 3) := by decide +kernel
theorem dX10_next_70 : decode cX10_next 70 = .ok (.iload_n 2, 1) := by decide +kernel
theorem dX10_next_71 : decode cX10_next 71 = .ok (.ireturn, 1) := by decide +kernel
theorem dX10_ever_0 : decode cX10_ever 0 = .ok (.aload_n 0, 1) := by decide +kernel
theorem dX10_ever_1 : decode cX10_ever 1 = .ok (.iconst 0, 1) := by decide +kernel
theorem dX10_ever_2 : decode cX10_ever 2 = .ok (.putfield 41, 3) := by decide +kernel
theorem dX10_ever_5 : decode cX10_ever 5 = .ok (.iload_n 1, 1) := by decide +kernel
theorem dX10_ever_6 : decode cX10_ever 6 = .ok (.invokestatic 121, 3) := by decide +kernel
theorem dX10_ever_9 : decode cX10_ever 9 = .ok (.ifCond .eq 6, 3) := by decide +kernel
theorem dX10_ever_12 : decode cX10_ever 12 = .ok (.bipush (-2), 2) := by decide +kernel
theorem dX10_ever_14 : decode cX10_ever 14 = .ok (.ireturn, 1) := by decide +kernel
theorem dX10_ever_15 : decode cX10_ever 15 = .ok (.aload_n 0, 1) := by decide +kernel
theorem dX10_ever_16 : decode cX10_ever 16 = .ok (.getfield 16, 3) := by decide +kernel
theorem dX10_ever_19 : decode cX10_ever 19 = .ok (.iconst 1, 1) := by decide +kernel
theorem dX10_ever_20 : decode cX10_ever 20 = .ok (.iaload, 1) := by decide +kernel
theorem dX10_ever_21 : decode cX10_ever 21 = .ok (.istore_n 2, 1) := by decide +kernel
theorem dX10_ever_22 : decode cX10_ever 22 = .ok (.iload_n 2, 1) := by decide +kernel
theorem dX10_ever_23 : decode cX10_ever 23 = .ok (.bipush (-9), 2) := by decide +kernel
theorem dX10_ever_25 : decode cX10_ever 25 = .ok (.if_icmp .ne 5, 3) := by decide +kernel
theorem dX10_ever_28 : decode cX10_ever 28 = .ok (.iconst 0, 1) := by decide +kernel
theorem dX10_ever_29 : decode cX10_ever 29 = .ok (.ireturn, 1) := by decide +kernel
theorem dX10_ever_30 : decode cX10_ever 30 = .ok (.iconst 1, 1) := by decide +kernel
theorem dX10_ever_31 : decode cX10_ever 31 = .ok (.iload_n 2, 1) := by decide +kernel
theorem dX10_ever_32 : decode cX10_ever 32 = .ok (.ishl, 1) := by decide +kernel
theorem dX10_ever_33 : decode cX10_ever 33 = .ok (.istore_n 3, 1) := by decide +kernel
theorem dX10_ever_34 : decode cX10_ever 34 = .ok (.aload_n 0, 1) := by decide +kernel
theorem dX10_ever_35 : decode cX10_ever 35 = .ok (.invokevirtual 127, 3) := by decide +kernel
theorem dX10_ever_38 : decode cX10_ever 38 = .ok (.aload_n 0, 1) := by decide +kernel
theorem dX10_ever_39 : decode cX10_ever 39 = .ok (.getfield 19, 3) := by decide +kernel
theorem dX10_ever_42 : decode cX10_ever 42 = .ok (.iconst 0, 1) := by decide +kernel
theorem dX10_ever_43 : decode cX10_ever 43 = .ok (.dup2, 1) := by decide +kernel
theorem dX10_ever_44 : decode cX10_ever 44 = .ok (.iaload, 1) := by decide +kernel
theorem dX10_ever_45 : decode cX10_ever 45 = .ok (.iconst 1, 1) := by decide +kernel
theorem dX10_ever_46 : decode cX10_ever 46 = .ok (.iload_n 2, 1) := by decide +kernel
theorem dX10_ever_47 : decode cX10_ever 47 = .ok (.ishl, 1) := by decide +kernel
theorem dX10_ever_48 : decode cX10_ever 48 = .ok (.iconst (-1), 1) := by decide +kernel
theorem dX10_ever_49 : decode cX10_ever 49 = .ok (.ixor, 1) := by decide +kernel
theorem dX10_ever_50 : decode cX10_ever 50 = .ok (.iand, 1) := by decide +kernel
theorem dX10_ever_51 : decode cX10_ever 51 = .ok (.iastore, 1) := by decide +kernel
theorem dX10_ever_52 : decode cX10_ever 52 = .ok (.aload_n 0, 1) := by decide +kernel
theorem dX10_ever_53 : decode cX10_ever 53 = .ok (.aload_n 0, 1) := by decide +kernel
theorem dX10_ever_54 : decode cX10_ever 54 = .ok (.getfield 19, 3) := by decide +kernel
theorem dX10_ever_57 : decode cX10_ever 57 = .ok (.iload_n 2, 1) := by decide +kernel
theorem dX10_ever_58 : decode cX10_ever 58 = .ok (.iload_n 1, 1) := by decide +kernel
theorem dX10_ever_59 : decode cX10_ever 59 = .ok (.invokevirtual 108, 3) := by decide +kernel
theorem dX10_ever_62 : decode cX10_ever 62 = .ok (.istore 4, 2) := by decide +kernel
theorem dX10_ever_64 : decode cX10_ever 64 = .ok (.iload 4, 2) := by decide +kernel
theorem dX10_ever_66 : decode cX10_ever 66 = .ok (.bipush (-9), 2) := by decide +kernel
theorem dX10_ever_68 : decode cX10_ever 68 = .ok (.if_icmp .eq 40, 3) := by decide +kernel
theorem dX10_ever_71 : decode cX10_ever 71 = .ok (.iload_n 3, 1) := by decide +kernel
theorem dX10_ever_72 : decode cX10_ever 72 = .ok (.iconst 1, 1) := by decide +kernel
theorem dX10_ever_73 : decode cX10_ever 73 = .ok (.iload 4, 2) := by decide +kernel
theorem dX10_ever_75 : decode cX10_ever 75 = .ok (.ishl, 1) := by decide +kernel
theorem dX10_ever_76 : decode cX10_ever 76 = .ok (.ior, 1) := by decide +kernel
theorem dX10_ever_77 : decode cX10_ever 77 = .ok (.istore_n 3, 1) := by decide +kernel
theorem dX10_ever_78 : decode cX10_ever 78 = .ok (.aload_n 0, 1) := by decide +kernel
theorem dX10_ever_79 : decode cX10_ever 79 = .ok (.getfield 19, 3) := by decide +kernel
theorem dX10_ever_82 : decode cX10_ever 82 = .ok (.iconst 0, 1) := by decide +kernel
theorem dX10_ever_83 : decode cX10_ever 83 = .ok (.dup2, 1) := by decide +kernel
theorem dX10_ever_84 : decode cX10_ever 84 = .ok (.iaload, 1) := by decide +kernel
theorem dX10_ever_85 : decode cX10_ever 85 = .ok (.iconst 1, 1) := by decide +kernel
theorem dX10_ever_86 : decode cX10_ever 86 = .ok (.iload 4, 2) := by decide +kernel
theorem dX10_ever_88 : decode cX10_ever 88 = .ok (.ishl, 1) := by decide +kernel
theorem dX10_ever_89 : decode cX10_ever 89 = .ok (.iconst (-1), 1) := by decide +kernel
theorem dX10_ever_90 : decode cX10_ever 90 = .ok (.ixor, 1) := by decide +kernel
theorem dX10_ever_91 : decode cX10_ever 91 = .ok (.iand, 1) := by decide +kernel
theorem dX10_ever_92 : decode cX10_ever 92 = .ok (.iastore, 1) := by decide +kernel
theorem dX10_ever_93 : decode cX10_ever 93 = .ok (.aload_n 0, 1) := by decide +kernel
theorem dX10_ever_94 : decode cX10_ever 94 = .ok (.aload_n 0, 1) := by decide +kernel
theorem dX10_ever_95 : decode cX10_ever 95 = .ok (.getfield 19, 3) := by decide +kernel
theorem dX10_ever_98 : decode cX10_ever 98 = .ok (.iload_n 2, 1) := by decide +kernel
theorem dX10_ever_99 : decode cX10_ever 99 = .ok (.iload_n 1, 1) := by decide +kernel
theorem dX10_ever_100 : decode cX10_ever 100 = .ok (.invokevirtual 108, 3) := by decide +kernel
theorem dX10_ever_103 : decode cX10_ever 103 = .ok (.istore 4, 2) := by decide +kernel
theorem dX10_ever_105 : decode cX10_ever 105 = .ok (.goto (-41), 3) := by decide +kernel
theorem dX10_ever_108 : decode cX10_ever 108 = .ok (.iload_n 3, 1) := by decide +kernel
theorem dX10_ever_109 : decode cX10_ever 109 = .ok (.ireturn, 1) := by decide +kernel
theorem dX10_power_0 : decode cX10_power 0 = .ok (.iconst 1, 1) := by decide +kernel
theorem dX10_power_1 : decode cX10_power 1 = .ok (.istore_n 2, 1) := by decide +kernel
theorem dX10_power_2 : decode cX10_power 2 = .ok (.iconst 0, 1) := by decide +kernel
theorem dX10_power_3 : decode cX10_power 3 = .ok (.istore_n 3, 1) := by decide +kernel
theorem dX10_power_4 : decode cX10_power 4 = .ok (.iload_n 3, 1) := by decide +kernel
theorem dX10_power_5 : decode cX10_power 5 = .ok (.iload_n 1, 1) := by decide +kernel
theorem dX10_power_6 : decode cX10_power 6 = .ok (.if_icmp .ge 13, 3) := by decide +kernel
theorem dX10_power_9 : decode cX10_power 9 = .ok (.iload_n 2, 1) := by decide +kernel
theorem dX10_power_10 : decode cX10_power 10 = .ok (.iload_n 0, 1) := by decide +kernel
theorem dX10_power_11 : decode cX10_power 11 = .ok (.imul, 1) := by decide +kernel
theorem dX10_power_12 : decode cX10_power 12 = .ok (.istore_n 2, 1) := by decide +kernel
theorem dX10_power_13 : decode cX10_power 13 = .ok (.iinc 3 1, 3) := by decide +kernel
theorem dX10_power_16 : decode cX10_power 16 = .ok (.goto (-12), 3) := by decide +kernel
theorem dX10_power_19 : decode cX10_power 19 = .ok (.iload_n 2, 1) := by decide +kernel
theorem dX10_power_20 : decode cX10_power 20 = .ok (.ireturn, 1) := by decide +kernel
theorem dX10_findBest_0 : decode cX10_findBest 0 = .ok (.aload_n 0, 1) := by decide +kernel
theorem dX10_findBest_1 : decode cX10_findBest 1 = .ok (.bipush (-9), 2) := by decide +kernel
theorem dX10_findBest_3 : decode cX10_findBest 3 = .ok (.putfield 130, 3) := by decide +kernel
theorem dX10_findBest_6 : decode cX10_findBest 6 = .ok (.aload_n 0, 1) := by decide +kernel
theorem dX10_findBest_7 : decode cX10_findBest 7 = .ok (.iconst 0, 1) := by decide +kernel
theorem dX10_findBest_8 : decode cX10_findBest 8 = .ok (.putfield 133, 3) := by decide +kernel
theorem dX10_findBest_11 : decode cX10_findBest 11 = .ok (.iconst 0, 1) := by decide +kernel
theorem dX10_findBest_12 : decode cX10_findBest 12 = .ok (.istore_n 3, 1) := by decide +kernel
theorem dX10_findBest_13 : decode cX10_findBest 13 = .ok (.iload_n 3, 1) := by decide +kernel
theorem dX10_findBest_14 : decode cX10_findBest 14 = .ok (.iconst 4, 1) := by decide +kernel
theorem dX10_findBest_15 : decode cX10_findBest 15 = .ok (.iload_n 1, 1) := by decide +kernel
theorem dX10_findBest_16 : decode cX10_findBest 16 = .ok (.invokestatic 136, 3) := by decide +kernel
theorem dX10_findBest_19 : decode cX10_findBest 19 = .ok (.if_icmp .ge 158, 3) := by decide +kernel
theorem dX10_findBest_22 : decode cX10_findBest 22 = .ok (.aload_n 0, 1) := by decide +kernel
theorem dX10_findBest_23 : decode cX10_findBest 23 = .ok (.getfield 16, 3) := by decide +kernel
theorem dX10_findBest_26 : decode cX10_findBest 26 = .ok (.iconst 3, 1) := by decide +kernel
theorem dX10_findBest_27 : decode cX10_findBest 27 = .ok (.iaload, 1) := by decide +kernel
theorem dX10_findBest_28 : decode cX10_findBest 28 = .ok (.istore 4, 2) := by decide +kernel
theorem dX10_findBest_30 : decode cX10_findBest 30 = .ok (.iconst 0, 1) := by decide +kernel
theorem dX10_findBest_31 : decode cX10_findBest 31 = .ok (.istore 5, 2) := by decide +kernel
theorem dX10_findBest_33 : decode cX10_findBest 33 = .ok (.iconst 1, 1) := by decide +kernel
theorem dX10_findBest_34 : decode cX10_findBest 34 = .ok (.istore 6, 2) := by decide +kernel
theorem dX10_findBest_36 : decode cX10_findBest 36 = .ok (.iconst 1, 1) := by decide +kernel
theorem dX10_findBest_37 : decode cX10_findBest 37 = .ok (.istore 7, 2) := by decide +kernel
theorem dX10_findBest_39 : decode cX10_findBest 39 = .ok (.iload_n 1, 1) := by decide +kernel
theorem dX10_findBest_40 : decode cX10_findBest 40 = .ok (.iconst 1, 1) := by decide +kernel
theorem dX10_findBest_41 : decode cX10_findBest 41 = .ok (.isub, 1) := by decide +kernel
theorem dX10_findBest_42 : decode cX10_findBest 42 = .ok (.istore 8, 2) := by decide +kernel
theorem dX10_findBest_44 : decode cX10_findBest 44 = .ok (.iload 8, 2) := by decide +kernel
theorem dX10_findBest_46 : decode cX10_findBest 46 = .ok (.ifCond .lt 82, 3) := by decide +kernel
theorem dX10_findBest_49 : decode cX10_findBest 49 = .ok (.iload 7, 2) := by decide +kernel
theorem dX10_findBest_51 : decode cX10_findBest 51 = .ok (.ifCond .eq 77, 3) := by decide +kernel
theorem dX10_findBest_54 : decode cX10_findBest 54 = .ok (.iload_n 3, 1) := by decide +kernel
theorem dX10_findBest_55 : decode cX10_findBest 55 = .ok (.iconst 4, 1) := by decide +kernel
theorem dX10_findBest_56 : decode cX10_findBest 56 = .ok (.iload 8, 2) := by decide +kernel
theorem dX10_findBest_58 : decode cX10_findBest 58 = .ok (.invokestatic 136, 3) := by decide +kernel
theorem dX10_findBest_61 : decode cX10_findBest 61 = .ok (.idiv, 1) := by decide +kernel
theorem dX10_findBest_62 : decode cX10_findBest 62 = .ok (.iconst 4, 1) := by decide +kernel
theorem dX10_findBest_63 : decode cX10_findBest 63 = .ok (.irem, 1) := by decide +kernel
theorem dX10_findBest_64 : decode cX10_findBest 64 = .ok (.istore 9, 2) := by decide +kernel
theorem dX10_findBest_66 : decode cX10_findBest 66 = .ok (.iload 9, 2) := by decide +kernel
theorem dX10_findBest_68 : decode cX10_findBest 68 = .ok (.iload 4, 2) := by decide +kernel
theorem dX10_findBest_70 : decode cX10_findBest 70 = .ok (.if_icmp .gt 7, 3) := by decide +kernel
theorem dX10_findBest_73 : decode cX10_findBest 73 = .ok (.iconst 1, 1) := by decide +kernel
theorem dX10_findBest_74 : decode cX10_findBest 74 = .ok (.goto 4, 3) := by decide +kernel
theorem dX10_findBest_77 : decode cX10_findBest 77 = .ok (.iconst 0, 1) := by decide +kernel
theorem dX10_findBest_78 : decode cX10_findBest 78 = .ok (.istore 7, 2) := by decide +kernel
theorem dX10_findBest_80 : decode cX10_findBest 80 = .ok (.iload 4, 2) := by decide +kernel
theorem dX10_findBest_82 : decode cX10_findBest 82 = .ok (.iload 9, 2) := by decide +kernel
theorem dX10_findBest_84 : decode cX10_findBest 84 = .ok (.ifCond .ne 14, 3) := by decide +kernel
theorem dX10_findBest_87 : decode cX10_findBest 87 = .ok (.iload 4, 2) := by decide +kernel
theorem dX10_findBest_89 : decode cX10_findBest 89 = .ok (.bipush 9, 2) := by decide +kernel
theorem dX10_findBest_91 : decode cX10_findBest 91 = .ok (.if_icmp .ne 7, 3) := by decide +kernel
theorem dX10_findBest_94 : decode cX10_findBest 94 = .ok (.iconst 0, 1) := by decide +kernel
theorem dX10_findBest_95 : decode cX10_findBest 95 = .ok (.goto 7, 3) := by decide +kernel
theorem dX10_findBest_98 : decode cX10_findBest 98 = .ok (.iconst 1, 1) := by decide +kernel
theorem dX10_findBest_99 : decode cX10_findBest 99 = .ok (.iload 9, 2) := by decide +kernel
theorem dX10_findBest_101 : decode cX10_findBest 101 = .ok (.isub, 1) := by decide +kernel
theorem dX10_findBest_102 : decode cX10_findBest 102 = .ok (.iadd, 1) := by decide +kernel
theorem dX10_findBest_103 : decode cX10_findBest 103 = .ok (.istore 4, 2) := by decide +kernel
theorem dX10_findBest_105 : decode cX10_findBest 105 = .ok (.iload 5, 2) := by decide +kernel
theorem dX10_findBest_107 : decode cX10_findBest 107 = .ok (.iload 9, 2) := by decide +kernel
theorem dX10_findBest_109 : decode cX10_findBest 109 = .ok (.iadd, 1) := by decide +kernel
theorem dX10_findBest_110 : decode cX10_findBest 110 = .ok (.istore 5, 2) := by decide +kernel
theorem dX10_findBest_112 : decode cX10_findBest 112 = .ok (.bipush 10, 2) := by decide +kernel
theorem dX10_findBest_114 : decode cX10_findBest 114 = .ok (.iload 6, 2) := by decide +kernel
theorem dX10_findBest_116 : decode cX10_findBest 116 = .ok (.imul, 1) := by decide +kernel
theorem dX10_findBest_117 : decode cX10_findBest 117 = .ok (.iload 9, 2) := by decide +kernel
theorem dX10_findBest_119 : decode cX10_findBest 119 = .ok (.iadd, 1) := by decide +kernel
theorem dX10_findBest_120 : decode cX10_findBest 120 = .ok (.istore 6, 2) := by decide +kernel
theorem dX10_findBest_122 : decode cX10_findBest 122 = .ok (.iinc 8 (-1), 3) := by decide +kernel
theorem dX10_findBest_125 : decode cX10_findBest 125 = .ok (.goto (-81), 3) := by decide +kernel
theorem dX10_findBest_128 : decode cX10_findBest 128 = .ok (.iload 5, 2) := by decide +kernel
theorem dX10_findBest_130 : decode cX10_findBest 130 = .ok (.iload_n 2, 1) := by decide +kernel
theorem dX10_findBest_131 : decode cX10_findBest 131 = .ok (.ifCond .eq 10, 3) := by decide +kernel
theorem dX10_findBest_134 : decode cX10_findBest 134 = .ok (.iconst 2, 1) := by decide +kernel
theorem dX10_findBest_135 : decode cX10_findBest 135 = .ok (.iload 4, 2) := by decide +kernel
theorem dX10_findBest_137 : decode cX10_findBest 137 = .ok (.imul, 1) := by decide +kernel
theorem dX10_findBest_138 : decode cX10_findBest 138 = .ok (.goto 4, 3) := by decide +kernel
theorem dX10_findBest_141 : decode cX10_findBest 141 = .ok (.iconst 0, 1) := by decide +kernel
theorem dX10_findBest_142 : decode cX10_findBest 142 = .ok (.iadd, 1) := by decide +kernel
theorem dX10_findBest_143 : decode cX10_findBest 143 = .ok (.istore 8, 2) := by decide +kernel
theorem dX10_findBest_145 : decode cX10_findBest 145 = .ok (.iload 7, 2) := by decide +kernel
theorem dX10_findBest_147 : decode cX10_findBest 147 = .ok (.ifCond .eq 24, 3) := by decide +kernel
theorem dX10_findBest_150 : decode cX10_findBest 150 = .ok (.iload 8, 2) := by decide +kernel
theorem dX10_findBest_152 : decode cX10_findBest 152 = .ok (.aload_n 0, 1) := by decide +kernel
theorem dX10_findBest_153 : decode cX10_findBest 153 = .ok (.getfield 130, 3) := by decide +kernel
theorem dX10_findBest_156 : decode cX10_findBest 156 = .ok (.if_icmp .le 15, 3) := by decide +kernel
theorem dX10_findBest_159 : decode cX10_findBest 159 = .ok (.aload_n 0, 1) := by decide +kernel
theorem dX10_findBest_160 : decode cX10_findBest 160 = .ok (.iload 8, 2) := by decide +kernel
theorem dX10_findBest_162 : decode cX10_findBest 162 = .ok (.putfield 130, 3) := by decide +kernel
theorem dX10_findBest_165 : decode cX10_findBest 165 = .ok (.aload_n 0, 1) := by decide +kernel
theorem dX10_findBest_166 : decode cX10_findBest 166 = .ok (.iload 6, 2) := by decide +kernel
theorem dX10_findBest_168 : decode cX10_findBest 168 = .ok (.putfield 133, 3) := by decide +kernel
theorem dX10_findBest_171 : decode cX10_findBest 171 = .ok (.iinc 3 1, 3) := by decide +kernel
theorem dX10_findBest_174 : decode cX10_findBest 174 = .ok (.goto (-161), 3) := by decide +kernel
theorem dX10_findBest_177 : decode cX10_findBest 177 = .ok (.return_, 1) := by decide +kernel
theorem dX10_best_0 : decode cX10_best 0 = .ok (.aload_n 0, 1) := by decide +kernel
theorem dX10_best_1 : decode cX10_best 1 = .ok (.iconst 0, 1) := by decide +kernel
theorem dX10_best_2 : decode cX10_best 2 = .ok (.putfield 41, 3) := by decide +kernel
theorem dX10_best_5 : decode cX10_best 5 = .ok (.iload_n 1, 1) := by decide +kernel
theorem dX10_best_6 : decode cX10_best 6 = .ok (.i2l, 1) := by decide +kernel
theorem dX10_best_7 : decode cX10_best 7 = .ok (.lconst 1, 1) := by decide +kernel
theorem dX10_best_8 : decode cX10_best 8 = .ok (.ldc2_w 139, 3) := by decide +kernel
theorem dX10_best_11 : decode cX10_best 11 = .ok (.invokestatic 45, 3) := by decide +kernel
theorem dX10_best_14 : decode cX10_best 14 = .ok (.ifCond .ne 6, 3) := by decide +kernel
theorem dX10_best_17 : decode cX10_best 17 = .ok (.bipush (-2), 2) := by decide +kernel
theorem dX10_best_19 : decode cX10_best 19 = .ok (.ireturn, 1) := by decide +kernel
theorem dX10_best_20 : decode cX10_best 20 = .ok (.aload_n 0, 1) := by decide +kernel
theorem dX10_best_21 : decode cX10_best 21 = .ok (.getfield 16, 3) := by decide +kernel
theorem dX10_best_24 : decode cX10_best 24 = .ok (.iconst 1, 1) := by decide +kernel
theorem dX10_best_25 : decode cX10_best 25 = .ok (.iaload, 1) := by decide +kernel
theorem dX10_best_26 : decode cX10_best 26 = .ok (.bipush (-9), 2) := by decide +kernel
theorem dX10_best_28 : decode cX10_best 28 = .ok (.if_icmp .ne 6, 3) := by decide +kernel
theorem dX10_best_31 : decode cX10_best 31 = .ok (.bipush (-3), 2) := by decide +kernel
theorem dX10_best_33 : decode cX10_best 33 = .ok (.ireturn, 1) := by decide +kernel
theorem dX10_best_34 : decode cX10_best 34 = .ok (.aload_n 0, 1) := by decide +kernel
theorem dX10_best_35 : decode cX10_best 35 = .ok (.iload_n 1, 1) := by decide +kernel
theorem dX10_best_36 : decode cX10_best 36 = .ok (.iload_n 2, 1) := by decide +kernel
theorem dX10_best_37 : decode cX10_best 37 = .ok (.invokevirtual 141, 3) := by decide +kernel
theorem dX10_best_40 : decode cX10_best 40 = .ok (.iload_n 3, 1) := by decide +kernel
theorem dX10_best_41 : decode cX10_best 41 = .ok (.ifCond .eq 10, 3) := by decide +kernel
theorem dX10_best_44 : decode cX10_best 44 = .ok (.aload_n 0, 1) := by decide +kernel
theorem dX10_best_45 : decode cX10_best 45 = .ok (.getfield 133, 3) := by decide +kernel
theorem dX10_best_48 : decode cX10_best 48 = .ok (.goto 7, 3) := by decide +kernel
theorem dX10_best_51 : decode cX10_best 51 = .ok (.aload_n 0, 1) := by decide +kernel
theorem dX10_best_52 : decode cX10_best 52 = .ok (.getfield 130, 3) := by decide +kernel
theorem dX10_best_55 : decode cX10_best 55 = .ok (.ireturn, 1) := by decide +kernel
theorem dX10_noDeaths_0 : decode cX10_noDeaths 0 = .ok (.iload_n 1, 1) := by decide +kernel
theorem dX10_noDeaths_1 : decode cX10_noDeaths 1 = .ok (.i2l, 1) := by decide +kernel
theorem dX10_noDeaths_2 : decode cX10_noDeaths 2 = .ok (.lconst 1, 1) := by decide +kernel
theorem dX10_noDeaths_3 : decode cX10_noDeaths 3 = .ok (.ldc2_w 139, 3) := by decide +kernel
theorem dX10_noDeaths_6 : decode cX10_noDeaths 6 = .ok (.invokestatic 45, 3) := by decide +kernel
theorem dX10_noDeaths_9 : decode cX10_noDeaths 9 = .ok (.ifCond .eq 21, 3) := by decide +kernel
theorem dX10_noDeaths_12 : decode cX10_noDeaths 12 = .ok (.iload_n 2, 1) := by decide +kernel
theorem dX10_noDeaths_13 : decode cX10_noDeaths 13 = .ok (.i2l, 1) := by decide +kernel
theorem dX10_noDeaths_14 : decode cX10_noDeaths 14 = .ok (.lconst 0, 1) := by decide +kernel
theorem dX10_noDeaths_15 : decode cX10_noDeaths 15 = .ok (.bipush 10, 2) := by decide +kernel
theorem dX10_noDeaths_17 : decode cX10_noDeaths 17 = .ok (.iload_n 1, 1) := by decide +kernel
theorem dX10_noDeaths_18 : decode cX10_noDeaths 18 = .ok (.invokestatic 136, 3) := by decide +kernel
theorem dX10_noDeaths_21 : decode cX10_noDeaths 21 = .ok (.iconst 1, 1) := by decide +kernel
theorem dX10_noDeaths_22 : decode cX10_noDeaths 22 = .ok (.isub, 1) := by decide +kernel
theorem dX10_noDeaths_23 : decode cX10_noDeaths 23 = .ok (.i2l, 1) := by decide +kernel
theorem dX10_noDeaths_24 : decode cX10_noDeaths 24 = .ok (.invokestatic 45, 3) := by decide +kernel
theorem dX10_noDeaths_27 : decode cX10_noDeaths 27 = .ok (.ifCond .ne 5, 3) := by decide +kernel
theorem dX10_noDeaths_30 : decode cX10_noDeaths 30 = .ok (.iconst 1, 1) := by decide +kernel
theorem dX10_noDeaths_31 : decode cX10_noDeaths 31 = .ok (.ireturn, 1) := by decide +kernel
theorem dX10_noDeaths_32 : decode cX10_noDeaths 32 = .ok (.iconst 0, 1) := by decide +kernel
theorem dX10_noDeaths_33 : decode cX10_noDeaths 33 = .ok (.istore_n 3, 1) := by decide +kernel
theorem dX10_noDeaths_34 : decode cX10_noDeaths 34 = .ok (.iconst 1, 1) := by decide +kernel
theorem dX10_noDeaths_35 : decode cX10_noDeaths 35 = .ok (.istore 4, 2) := by decide +kernel
theorem dX10_noDeaths_37 : decode cX10_noDeaths 37 = .ok (.iconst 0, 1) := by decide +kernel
theorem dX10_noDeaths_38 : decode cX10_noDeaths 38 = .ok (.istore 5, 2) := by decide +kernel
theorem dX10_noDeaths_40 : decode cX10_noDeaths 40 = .ok (.iload 5, 2) := by decide +kernel
theorem dX10_noDeaths_42 : decode cX10_noDeaths 42 = .ok (.iload_n 1, 1) := by decide +kernel
theorem dX10_noDeaths_43 : decode cX10_noDeaths 43 = .ok (.if_icmp .ge 85, 3) := by decide +kernel
theorem dX10_noDeaths_46 : decode cX10_noDeaths 46 = .ok (.iload 4, 2) := by decide +kernel
theorem dX10_noDeaths_48 : decode cX10_noDeaths 48 = .ok (.ifCond .eq 80, 3) := by decide +kernel
theorem dX10_noDeaths_51 : decode cX10_noDeaths 51 = .ok (.iload_n 2, 1) := by decide +kernel
theorem dX10_noDeaths_52 : decode cX10_noDeaths 52 = .ok (.bipush 10, 2) := by decide +kernel
theorem dX10_noDeaths_54 : decode cX10_noDeaths 54 = .ok (.iload 5, 2) := by decide +kernel
theorem dX10_noDeaths_56 : decode cX10_noDeaths 56 = .ok (.invokestatic 136, 3) := by decide +kernel
theorem dX10_noDeaths_59 : decode cX10_noDeaths 59 = .ok (.idiv, 1) := by decide +kernel
theorem dX10_noDeaths_60 : decode cX10_noDeaths 60 = .ok (.bipush 10, 2) := by decide +kernel
theorem dX10_noDeaths_62 : decode cX10_noDeaths 62 = .ok (.irem, 1) := by decide +kernel
theorem dX10_noDeaths_63 : decode cX10_noDeaths 63 = .ok (.iconst 1, 1) := by decide +kernel
theorem dX10_noDeaths_64 : decode cX10_noDeaths 64 = .ok (.isub, 1) := by decide +kernel
theorem dX10_noDeaths_65 : decode cX10_noDeaths 65 = .ok (.istore 6, 2) := by decide +kernel
theorem dX10_noDeaths_67 : decode cX10_noDeaths 67 = .ok (.aload_n 0, 1) := by decide +kernel
theorem dX10_noDeaths_68 : decode cX10_noDeaths 68 = .ok (.iload 6, 2) := by decide +kernel
theorem dX10_noDeaths_70 : decode cX10_noDeaths 70 = .ok (.invokevirtual 104, 3) := by decide +kernel
theorem dX10_noDeaths_73 : decode cX10_noDeaths 73 = .ok (.ifCond .ne 30, 3) := by decide +kernel
theorem dX10_noDeaths_76 : decode cX10_noDeaths 76 = .ok (.aload_n 0, 1) := by decide +kernel
theorem dX10_noDeaths_77 : decode cX10_noDeaths 77 = .ok (.getfield 16, 3) := by decide +kernel
theorem dX10_noDeaths_80 : decode cX10_noDeaths 80 = .ok (.iconst 0, 1) := by decide +kernel
theorem dX10_noDeaths_81 : decode cX10_noDeaths 81 = .ok (.iaload, 1) := by decide +kernel
theorem dX10_noDeaths_82 : decode cX10_noDeaths 82 = .ok (.iload 6, 2) := by decide +kernel
theorem dX10_noDeaths_84 : decode cX10_noDeaths 84 = .ok (.invokestatic 82, 3) := by decide +kernel
theorem dX10_noDeaths_87 : decode cX10_noDeaths 87 = .ok (.ifCond .eq 16, 3) := by decide +kernel
theorem dX10_noDeaths_90 : decode cX10_noDeaths 90 = .ok (.iload_n 3, 1) := by decide +kernel
theorem dX10_noDeaths_91 : decode cX10_noDeaths 91 = .ok (.iload 6, 2) := by decide +kernel
theorem dX10_noDeaths_93 : decode cX10_noDeaths 93 = .ok (.invokestatic 82, 3) := by decide +kernel
theorem dX10_noDeaths_96 : decode cX10_noDeaths 96 = .ok (.ifCond .ne 7, 3) := by decide +kernel
theorem dX10_noDeaths_99 : decode cX10_noDeaths 99 = .ok (.iconst 1, 1) := by decide +kernel
theorem dX10_noDeaths_100 : decode cX10_noDeaths 100 = .ok (.goto 4, 3) := by decide +kernel
theorem dX10_noDeaths_103 : decode cX10_noDeaths 103 = .ok (.iconst 0, 1) := by decide +kernel
theorem dX10_noDeaths_104 : decode cX10_noDeaths 104 = .ok (.istore 4, 2) := by decide +kernel
theorem dX10_noDeaths_106 : decode cX10_noDeaths 106 = .ok (.iload_n 3, 1) := by decide +kernel
theorem dX10_noDeaths_107 : decode cX10_noDeaths 107 = .ok (.iload 4, 2) := by decide +kernel
theorem dX10_noDeaths_109 : decode cX10_noDeaths 109 = .ok (.ifCond .eq 10, 3) := by decide +kernel
theorem dX10_noDeaths_112 : decode cX10_noDeaths 112 = .ok (.iconst 1, 1) := by decide +kernel
theorem dX10_noDeaths_113 : decode cX10_noDeaths 113 = .ok (.iload 6, 2) := by decide +kernel
theorem dX10_noDeaths_115 : decode cX10_noDeaths 115 = .ok (.ishl, 1) := by decide +kernel
theorem dX10_noDeaths_116 : decode cX10_noDeaths 116 = .ok (.goto 4, 3) := by decide +kernel
theorem dX10_noDeaths_119 : decode cX10_noDeaths 119 = .ok (.iconst 0, 1) := by decide +kernel
theorem dX10_noDeaths_120 : decode cX10_noDeaths 120 = .ok (.ior, 1) := by decide +kernel
theorem dX10_noDeaths_121 : decode cX10_noDeaths 121 = .ok (.istore_n 3, 1) := by decide +kernel
theorem dX10_noDeaths_122 : decode cX10_noDeaths 122 = .ok (.iinc 5 1, 3) := by decide +kernel
theorem dX10_noDeaths_125 : decode cX10_noDeaths 125 = .ok (.goto (-85), 3) := by decide +kernel
theorem dX10_noDeaths_128 : decode cX10_noDeaths 128 = .ok (.iload 4, 2) := by decide +kernel
theorem dX10_noDeaths_130 : decode cX10_noDeaths 130 = .ok (.ifCond .ne 7, 3) := by decide +kernel
theorem dX10_noDeaths_133 : decode cX10_noDeaths 133 = .ok (.iconst 1, 1) := by decide +kernel
theorem dX10_noDeaths_134 : decode cX10_noDeaths 134 = .ok (.goto 4, 3) := by decide +kernel
theorem dX10_noDeaths_137 : decode cX10_noDeaths 137 = .ok (.iconst 0, 1) := by decide +kernel
theorem dX10_noDeaths_138 : decode cX10_noDeaths 138 = .ok (.ireturn, 1) := by decide +kernel
theorem dX10_ties_0 : decode cX10_ties 0 = .ok (.aload_n 0, 1) := by decide +kernel
theorem dX10_ties_1 : decode cX10_ties 1 = .ok (.iconst 0, 1) := by decide +kernel
theorem dX10_ties_2 : decode cX10_ties 2 = .ok (.putfield 41, 3) := by decide +kernel
theorem dX10_ties_5 : decode cX10_ties 5 = .ok (.aload_n 0, 1) := by decide +kernel
theorem dX10_ties_6 : decode cX10_ties 6 = .ok (.iload_n 1, 1) := by decide +kernel
theorem dX10_ties_7 : decode cX10_ties 7 = .ok (.iload_n 2, 1) := by decide +kernel
theorem dX10_ties_8 : decode cX10_ties 8 = .ok (.invokevirtual 145, 3) := by decide +kernel
theorem dX10_ties_11 : decode cX10_ties 11 = .ok (.ifCond .eq 6, 3) := by decide +kernel
theorem dX10_ties_14 : decode cX10_ties 14 = .ok (.bipush (-2), 2) := by decide +kernel
theorem dX10_ties_16 : decode cX10_ties 16 = .ok (.ireturn, 1) := by decide +kernel
theorem dX10_ties_17 : decode cX10_ties 17 = .ok (.aload_n 0, 1) := by decide +kernel
theorem dX10_ties_18 : decode cX10_ties 18 = .ok (.iload_n 3, 1) := by decide +kernel
theorem dX10_ties_19 : decode cX10_ties 19 = .ok (.invokevirtual 104, 3) := by decide +kernel
theorem dX10_ties_22 : decode cX10_ties 22 = .ok (.ifCond .eq 5, 3) := by decide +kernel
theorem dX10_ties_25 : decode cX10_ties 25 = .ok (.iconst (-1), 1) := by decide +kernel
theorem dX10_ties_26 : decode cX10_ties 26 = .ok (.ireturn, 1) := by decide +kernel
theorem dX10_ties_27 : decode cX10_ties 27 = .ok (.iconst 0, 1) := by decide +kernel
theorem dX10_ties_28 : decode cX10_ties 28 = .ok (.istore 4, 2) := by decide +kernel
theorem dX10_ties_30 : decode cX10_ties 30 = .ok (.iconst 0, 1) := by decide +kernel
theorem dX10_ties_31 : decode cX10_ties 31 = .ok (.istore 5, 2) := by decide +kernel
theorem dX10_ties_33 : decode cX10_ties 33 = .ok (.iload 5, 2) := by decide +kernel
theorem dX10_ties_35 : decode cX10_ties 35 = .ok (.iconst 4, 1) := by decide +kernel
theorem dX10_ties_36 : decode cX10_ties 36 = .ok (.if_icmp .ge 82, 3) := by decide +kernel
theorem dX10_ties_39 : decode cX10_ties 39 = .ok (.aload_n 0, 1) := by decide +kernel
theorem dX10_ties_40 : decode cX10_ties 40 = .ok (.invokevirtual 127, 3) := by decide +kernel
theorem dX10_ties_43 : decode cX10_ties 43 = .ok (.aload_n 0, 1) := by decide +kernel
theorem dX10_ties_44 : decode cX10_ties 44 = .ok (.getfield 19, 3) := by decide +kernel
theorem dX10_ties_47 : decode cX10_ties 47 = .ok (.iconst 2, 1) := by decide +kernel
theorem dX10_ties_48 : decode cX10_ties 48 = .ok (.iload 5, 2) := by decide +kernel
theorem dX10_ties_50 : decode cX10_ties 50 = .ok (.iastore, 1) := by decide +kernel
theorem dX10_ties_51 : decode cX10_ties 51 = .ok (.iload_n 1, 1) := by decide +kernel
theorem dX10_ties_52 : decode cX10_ties 52 = .ok (.iconst 1, 1) := by decide +kernel
theorem dX10_ties_53 : decode cX10_ties 53 = .ok (.isub, 1) := by decide +kernel
theorem dX10_ties_54 : decode cX10_ties 54 = .ok (.istore 6, 2) := by decide +kernel
theorem dX10_ties_56 : decode cX10_ties 56 = .ok (.iload 6, 2) := by decide +kernel
theorem dX10_ties_58 : decode cX10_ties 58 = .ok (.ifCond .lt 31, 3) := by decide +kernel
theorem dX10_ties_61 : decode cX10_ties 61 = .ok (.aload_n 0, 1) := by decide +kernel
theorem dX10_ties_62 : decode cX10_ties 62 = .ok (.aload_n 0, 1) := by decide +kernel
theorem dX10_ties_63 : decode cX10_ties 63 = .ok (.getfield 19, 3) := by decide +kernel
theorem dX10_ties_66 : decode cX10_ties 66 = .ok (.iload_n 2, 1) := by decide +kernel
theorem dX10_ties_67 : decode cX10_ties 67 = .ok (.bipush 10, 2) := by decide +kernel
theorem dX10_ties_69 : decode cX10_ties 69 = .ok (.iload 6, 2) := by decide +kernel
theorem dX10_ties_71 : decode cX10_ties 71 = .ok (.invokestatic 136, 3) := by decide +kernel
theorem dX10_ties_74 : decode cX10_ties 74 = .ok (.idiv, 1) := by decide +kernel
theorem dX10_ties_75 : decode cX10_ties 75 = .ok (.bipush 10, 2) := by decide +kernel
theorem dX10_ties_77 : decode cX10_ties 77 = .ok (.irem, 1) := by decide +kernel
theorem dX10_ties_78 : decode cX10_ties 78 = .ok (.iconst 1, 1) := by decide +kernel
theorem dX10_ties_79 : decode cX10_ties 79 = .ok (.isub, 1) := by decide +kernel
theorem dX10_ties_80 : decode cX10_ties 80 = .ok (.invokevirtual 115, 3) := by decide +kernel
theorem dX10_ties_83 : decode cX10_ties 83 = .ok (.iinc 6 (-1), 3) := by decide +kernel
theorem dX10_ties_86 : decode cX10_ties 86 = .ok (.goto (-30), 3) := by decide +kernel
theorem dX10_ties_89 : decode cX10_ties 89 = .ok (.iload 4, 2) := by decide +kernel
theorem dX10_ties_91 : decode cX10_ties 91 = .ok (.aload_n 0, 1) := by decide +kernel
theorem dX10_ties_92 : decode cX10_ties 92 = .ok (.getfield 19, 3) := by decide +kernel
theorem dX10_ties_95 : decode cX10_ties 95 = .ok (.iconst 1, 1) := by decide +kernel
theorem dX10_ties_96 : decode cX10_ties 96 = .ok (.iaload, 1) := by decide +kernel
theorem dX10_ties_97 : decode cX10_ties 97 = .ok (.iload_n 3, 1) := by decide +kernel
theorem dX10_ties_98 : decode cX10_ties 98 = .ok (.if_icmp .ne 10, 3) := by decide +kernel
theorem dX10_ties_101 : decode cX10_ties 101 = .ok (.iconst 1, 1) := by decide +kernel
theorem dX10_ties_102 : decode cX10_ties 102 = .ok (.iload 5, 2) := by decide +kernel
theorem dX10_ties_104 : decode cX10_ties 104 = .ok (.ishl, 1) := by decide +kernel
theorem dX10_ties_105 : decode cX10_ties 105 = .ok (.goto 4, 3) := by decide +kernel
theorem dX10_ties_108 : decode cX10_ties 108 = .ok (.iconst 0, 1) := by decide +kernel
theorem dX10_ties_109 : decode cX10_ties 109 = .ok (.ior, 1) := by decide +kernel
theorem dX10_ties_110 : decode cX10_ties 110 = .ok (.istore 4, 2) := by decide +kernel
theorem dX10_ties_112 : decode cX10_ties 112 = .ok (.iinc 5 1, 3) := by decide +kernel
theorem dX10_ties_115 : decode cX10_ties 115 = .ok (.goto (-82), 3) := by decide +kernel
theorem dX10_ties_118 : decode cX10_ties 118 = .ok (.iload 4, 2) := by decide +kernel
theorem dX10_ties_120 : decode cX10_ties 120 = .ok (.ireturn, 1) := by decide +kernel
theorem dX10_gainOf_0 : decode cX10_gainOf 0 = .ok (.iload_n 1, 1) := by decide +kernel
theorem dX10_gainOf_1 : decode cX10_gainOf 1 = .ok (.iload_n 0, 1) := by decide +kernel
theorem dX10_gainOf_2 : decode cX10_gainOf 2 = .ok (.if_icmp .ge 7, 3) := by decide +kernel
theorem dX10_gainOf_5 : decode cX10_gainOf 5 = .ok (.iconst 0, 1) := by decide +kernel
theorem dX10_gainOf_6 : decode cX10_gainOf 6 = .ok (.goto 14, 3) := by decide +kernel
theorem dX10_gainOf_9 : decode cX10_gainOf 9 = .ok (.iload_n 3, 1) := by decide +kernel
theorem dX10_gainOf_10 : decode cX10_gainOf 10 = .ok (.ifCond .eq 7, 3) := by decide +kernel
theorem dX10_gainOf_13 : decode cX10_gainOf 13 = .ok (.iload_n 1, 1) := by decide +kernel
theorem dX10_gainOf_14 : decode cX10_gainOf 14 = .ok (.goto 6, 3) := by decide +kernel
theorem dX10_gainOf_17 : decode cX10_gainOf 17 = .ok (.iload_n 2, 1) := by decide +kernel
theorem dX10_gainOf_18 : decode cX10_gainOf 18 = .ok (.iload_n 1, 1) := by decide +kernel
theorem dX10_gainOf_19 : decode cX10_gainOf 19 = .ok (.isub, 1) := by decide +kernel
theorem dX10_gainOf_20 : decode cX10_gainOf 20 = .ok (.ireturn, 1) := by decide +kernel
theorem dX10_findRests_0 : decode cX10_findRests 0 = .ok (.aload_n 0, 1) := by decide +kernel
theorem dX10_findRests_1 : decode cX10_findRests 1 = .ok (.iconst 0, 1) := by decide +kernel
theorem dX10_findRests_2 : decode cX10_findRests 2 = .ok (.putfield 148, 3) := by decide +kernel
theorem dX10_findRests_5 : decode cX10_findRests 5 = .ok (.aload_n 0, 1) := by decide +kernel
theorem dX10_findRests_6 : decode cX10_findRests 6 = .ok (.bipush (-9), 2) := by decide +kernel
theorem dX10_findRests_8 : decode cX10_findRests 8 = .ok (.putfield 151, 3) := by decide +kernel
theorem dX10_findRests_11 : decode cX10_findRests 11 = .ok (.iconst 0, 1) := by decide +kernel
theorem dX10_findRests_12 : decode cX10_findRests 12 = .ok (.istore_n 2, 1) := by decide +kernel
theorem dX10_findRests_13 : decode cX10_findRests 13 = .ok (.iload_n 2, 1) := by decide +kernel
theorem dX10_findRests_14 : decode cX10_findRests 14 = .ok (.iconst 5, 1) := by decide +kernel
theorem dX10_findRests_15 : decode cX10_findRests 15 = .ok (.if_icmp .ge 136, 3) := by decide +kernel
theorem dX10_findRests_18 : decode cX10_findRests 18 = .ok (.iconst 0, 1) := by decide +kernel
theorem dX10_findRests_19 : decode cX10_findRests 19 = .ok (.istore_n 3, 1) := by decide +kernel
theorem dX10_findRests_20 : decode cX10_findRests 20 = .ok (.iload_n 3, 1) := by decide +kernel
theorem dX10_findRests_21 : decode cX10_findRests 21 = .ok (.iconst 5, 1) := by decide +kernel
theorem dX10_findRests_22 : decode cX10_findRests 22 = .ok (.if_icmp .ge 123, 3) := by decide +kernel
theorem dX10_findRests_25 : decode cX10_findRests 25 = .ok (.iconst 1, 1) := by decide +kernel
theorem dX10_findRests_26 : decode cX10_findRests 26 = .ok (.istore 4, 2) := by decide +kernel
theorem dX10_findRests_28 : decode cX10_findRests 28 = .ok (.iconst 0, 1) := by decide +kernel
theorem dX10_findRests_29 : decode cX10_findRests 29 = .ok (.istore 5, 2) := by decide +kernel
theorem dX10_findRests_31 : decode cX10_findRests 31 = .ok (.iload 5, 2) := by decide +kernel
theorem dX10_findRests_33 : decode cX10_findRests 33 = .ok (.iconst 5, 1) := by decide +kernel
theorem dX10_findRests_34 : decode cX10_findRests 34 = .ok (.if_icmp .ge 57, 3) := by decide +kernel
theorem dX10_findRests_37 : decode cX10_findRests 37 = .ok (.iload 4, 2) := by decide +kernel
theorem dX10_findRests_39 : decode cX10_findRests 39 = .ok (.ifCond .eq 43, 3) := by decide +kernel
theorem dX10_findRests_42 : decode cX10_findRests 42 = .ok (.iload 5, 2) := by decide +kernel
theorem dX10_findRests_44 : decode cX10_findRests 44 = .ok (.iload_n 3, 1) := by decide +kernel
theorem dX10_findRests_45 : decode cX10_findRests 45 = .ok (.iload_n 1, 1) := by decide +kernel
theorem dX10_findRests_46 : decode cX10_findRests 46 = .ok (.iconst 1, 1) := by decide +kernel
theorem dX10_findRests_47 : decode cX10_findRests 47 = .ok (.invokestatic 154, 3) := by decide +kernel
theorem dX10_findRests_50 : decode cX10_findRests 50 = .ok (.iload_n 2, 1) := by decide +kernel
theorem dX10_findRests_51 : decode cX10_findRests 51 = .ok (.iload_n 3, 1) := by decide +kernel
theorem dX10_findRests_52 : decode cX10_findRests 52 = .ok (.iload_n 1, 1) := by decide +kernel
theorem dX10_findRests_53 : decode cX10_findRests 53 = .ok (.iconst 1, 1) := by decide +kernel
theorem dX10_findRests_54 : decode cX10_findRests 54 = .ok (.invokestatic 154, 3) := by decide +kernel
theorem dX10_findRests_57 : decode cX10_findRests 57 = .ok (.if_icmp .gt 25, 3) := by decide +kernel
theorem dX10_findRests_60 : decode cX10_findRests 60 = .ok (.iload_n 2, 1) := by decide +kernel
theorem dX10_findRests_61 : decode cX10_findRests 61 = .ok (.iload 5, 2) := by decide +kernel
theorem dX10_findRests_63 : decode cX10_findRests 63 = .ok (.iload_n 1, 1) := by decide +kernel
theorem dX10_findRests_64 : decode cX10_findRests 64 = .ok (.iconst 0, 1) := by decide +kernel
theorem dX10_findRests_65 : decode cX10_findRests 65 = .ok (.invokestatic 154, 3) := by decide +kernel
theorem dX10_findRests_68 : decode cX10_findRests 68 = .ok (.iload_n 2, 1) := by decide +kernel
theorem dX10_findRests_69 : decode cX10_findRests 69 = .ok (.iload_n 3, 1) := by decide +kernel
theorem dX10_findRests_70 : decode cX10_findRests 70 = .ok (.iload_n 1, 1) := by decide +kernel
theorem dX10_findRests_71 : decode cX10_findRests 71 = .ok (.iconst 0, 1) := by decide +kernel
theorem dX10_findRests_72 : decode cX10_findRests 72 = .ok (.invokestatic 154, 3) := by decide +kernel
theorem dX10_findRests_75 : decode cX10_findRests 75 = .ok (.if_icmp .gt 7, 3) := by decide +kernel
theorem dX10_findRests_78 : decode cX10_findRests 78 = .ok (.iconst 1, 1) := by decide +kernel
theorem dX10_findRests_79 : decode cX10_findRests 79 = .ok (.goto 4, 3) := by decide +kernel
theorem dX10_findRests_82 : decode cX10_findRests 82 = .ok (.iconst 0, 1) := by decide +kernel
theorem dX10_findRests_83 : decode cX10_findRests 83 = .ok (.istore 4, 2) := by decide +kernel
theorem dX10_findRests_85 : decode cX10_findRests 85 = .ok (.iinc 5 1, 3) := by decide +kernel
theorem dX10_findRests_88 : decode cX10_findRests 88 = .ok (.goto (-57), 3) := by decide +kernel
theorem dX10_findRests_91 : decode cX10_findRests 91 = .ok (.aload_n 0, 1) := by decide +kernel
theorem dX10_findRests_92 : decode cX10_findRests 92 = .ok (.iload 4, 2) := by decide +kernel
theorem dX10_findRests_94 : decode cX10_findRests 94 = .ok (.ifCond .eq 19, 3) := by decide +kernel
theorem dX10_findRests_97 : decode cX10_findRests 97 = .ok (.aload_n 0, 1) := by decide +kernel
theorem dX10_findRests_98 : decode cX10_findRests 98 = .ok (.getfield 148, 3) := by decide +kernel
theorem dX10_findRests_101 : decode cX10_findRests 101 = .ok (.ifCond .ne 12, 3) := by decide +kernel
theorem dX10_findRests_104 : decode cX10_findRests 104 = .ok (.bipush 10, 2) := by decide +kernel
theorem dX10_findRests_106 : decode cX10_findRests 106 = .ok (.iload_n 2, 1) := by decide +kernel
theorem dX10_findRests_107 : decode cX10_findRests 107 = .ok (.imul, 1) := by decide +kernel
theorem dX10_findRests_108 : decode cX10_findRests 108 = .ok (.iload_n 3, 1) := by decide +kernel
theorem dX10_findRests_109 : decode cX10_findRests 109 = .ok (.iadd, 1) := by decide +kernel
theorem dX10_findRests_110 : decode cX10_findRests 110 = .ok (.goto 7, 3) := by decide +kernel
theorem dX10_findRests_113 : decode cX10_findRests 113 = .ok (.aload_n 0, 1) := by decide +kernel
theorem dX10_findRests_114 : decode cX10_findRests 114 = .ok (.getfield 151, 3) := by decide +kernel
theorem dX10_findRests_117 : decode cX10_findRests 117 = .ok (.putfield 151, 3) := by decide +kernel
theorem dX10_findRests_120 : decode cX10_findRests 120 = .ok (.aload_n 0, 1) := by decide +kernel
theorem dX10_findRests_121 : decode cX10_findRests 121 = .ok (.dup, 1) := by decide +kernel
theorem dX10_findRests_122 : decode cX10_findRests 122 = .ok (.getfield 148, 3) := by decide +kernel
theorem dX10_findRests_125 : decode cX10_findRests 125 = .ok (.iload 4, 2) := by decide +kernel
theorem dX10_findRests_127 : decode cX10_findRests 127 = .ok (.ifCond .eq 7, 3) := by decide +kernel
theorem dX10_findRests_130 : decode cX10_findRests 130 = .ok (.iconst 1, 1) := by decide +kernel
theorem dX10_findRests_131 : decode cX10_findRests 131 = .ok (.goto 4, 3) := by decide +kernel
theorem dX10_findRests_134 : decode cX10_findRests 134 = .ok (.iconst 0, 1) := by decide +kernel
theorem dX10_findRests_135 : decode cX10_findRests 135 = .ok (.iadd, 1) := by decide +kernel
theorem dX10_findRests_136 : decode cX10_findRests 136 = .ok (.putfield 148, 3) := by decide +kernel
theorem dX10_findRests_139 : decode cX10_findRests 139 = .ok (.iinc 3 1, 3) := by decide +kernel
theorem dX10_findRests_142 : decode cX10_findRests 142 = .ok (.goto (-122), 3) := by decide +kernel
theorem dX10_findRests_145 : decode cX10_findRests 145 = .ok (.iinc 2 1, 3) := by decide +kernel
theorem dX10_findRests_148 : decode cX10_findRests 148 = .ok (.goto (-135), 3) := by decide +kernel
theorem dX10_findRests_151 : decode cX10_findRests 151 = .ok (.return_, 1) := by decide +kernel
theorem dX10_rests_0 : decode cX10_rests 0 = .ok (.aload_n 0, 1) := by decide +kernel
theorem dX10_rests_1 : decode cX10_rests 1 = .ok (.iconst 0, 1) := by decide +kernel
theorem dX10_rests_2 : decode cX10_rests 2 = .ok (.putfield 41, 3) := by decide +kernel
theorem dX10_rests_5 : decode cX10_rests 5 = .ok (.iload_n 1, 1) := by decide +kernel
theorem dX10_rests_6 : decode cX10_rests 6 = .ok (.i2l, 1) := by decide +kernel
theorem dX10_rests_7 : decode cX10_rests 7 = .ok (.lconst 0, 1) := by decide +kernel
theorem dX10_rests_8 : decode cX10_rests 8 = .ok (.ldc2_w 119, 3) := by decide +kernel
theorem dX10_rests_11 : decode cX10_rests 11 = .ok (.invokestatic 45, 3) := by decide +kernel
theorem dX10_rests_14 : decode cX10_rests 14 = .ok (.ifCond .eq 13, 3) := by decide +kernel
theorem dX10_rests_17 : decode cX10_rests 17 = .ok (.iload_n 2, 1) := by decide +kernel
theorem dX10_rests_18 : decode cX10_rests 18 = .ok (.i2l, 1) := by decide +kernel
theorem dX10_rests_19 : decode cX10_rests 19 = .ok (.lconst 0, 1) := by decide +kernel
theorem dX10_rests_20 : decode cX10_rests 20 = .ok (.lconst 1, 1) := by decide +kernel
theorem dX10_rests_21 : decode cX10_rests 21 = .ok (.invokestatic 45, 3) := by decide +kernel
theorem dX10_rests_24 : decode cX10_rests 24 = .ok (.ifCond .ne 6, 3) := by decide +kernel
theorem dX10_rests_27 : decode cX10_rests 27 = .ok (.bipush (-2), 2) := by decide +kernel
theorem dX10_rests_29 : decode cX10_rests 29 = .ok (.ireturn, 1) := by decide +kernel
theorem dX10_rests_30 : decode cX10_rests 30 = .ok (.aload_n 0, 1) := by decide +kernel
theorem dX10_rests_31 : decode cX10_rests 31 = .ok (.invokevirtual 124, 3) := by decide +kernel
theorem dX10_rests_34 : decode cX10_rests 34 = .ok (.ifCond .ne 6, 3) := by decide +kernel
theorem dX10_rests_37 : decode cX10_rests 37 = .ok (.bipush (-3), 2) := by decide +kernel
theorem dX10_rests_39 : decode cX10_rests 39 = .ok (.ireturn, 1) := by decide +kernel
theorem dX10_rests_40 : decode cX10_rests 40 = .ok (.aload_n 0, 1) := by decide +kernel
theorem dX10_rests_41 : decode cX10_rests 41 = .ok (.iload_n 1, 1) := by decide +kernel
theorem dX10_rests_42 : decode cX10_rests 42 = .ok (.invokevirtual 158, 3) := by decide +kernel
theorem dX10_rests_45 : decode cX10_rests 45 = .ok (.iload_n 2, 1) := by decide +kernel
theorem dX10_rests_46 : decode cX10_rests 46 = .ok (.ifCond .ne 10, 3) := by decide +kernel
theorem dX10_rests_49 : decode cX10_rests 49 = .ok (.aload_n 0, 1) := by decide +kernel
theorem dX10_rests_50 : decode cX10_rests 50 = .ok (.getfield 148, 3) := by decide +kernel
theorem dX10_rests_53 : decode cX10_rests 53 = .ok (.goto 7, 3) := by decide +kernel
theorem dX10_rests_56 : decode cX10_rests 56 = .ok (.aload_n 0, 1) := by decide +kernel
theorem dX10_rests_57 : decode cX10_rests 57 = .ok (.getfield 151, 3) := by decide +kernel
theorem dX10_rests_60 : decode cX10_rests 60 = .ok (.ireturn, 1) := by decide +kernel
theorem dX10_divisor_0 : decode cX10_divisor 0 = .ok (.iload_n 0, 1) := by decide +kernel
theorem dX10_divisor_1 : decode cX10_divisor 1 = .ok (.ifCond .ge 8, 3) := by decide +kernel
theorem dX10_divisor_4 : decode cX10_divisor 4 = .ok (.iload_n 0, 1) := by decide +kernel
theorem dX10_divisor_5 : decode cX10_divisor 5 = .ok (.ineg, 1) := by decide +kernel
theorem dX10_divisor_6 : decode cX10_divisor 6 = .ok (.goto 4, 3) := by decide +kernel
theorem dX10_divisor_9 : decode cX10_divisor 9 = .ok (.iload_n 0, 1) := by decide +kernel
theorem dX10_divisor_10 : decode cX10_divisor 10 = .ok (.istore_n 2, 1) := by decide +kernel
theorem dX10_divisor_11 : decode cX10_divisor 11 = .ok (.iload_n 1, 1) := by decide +kernel
theorem dX10_divisor_12 : decode cX10_divisor 12 = .ok (.istore_n 3, 1) := by decide +kernel
theorem dX10_divisor_13 : decode cX10_divisor 13 = .ok (.iload_n 3, 1) := by decide +kernel
theorem dX10_divisor_14 : decode cX10_divisor 14 = .ok (.ifCond .eq 16, 3) := by decide +kernel
theorem dX10_divisor_17 : decode cX10_divisor 17 = .ok (.iload_n 2, 1) := by decide +kernel
theorem dX10_divisor_18 : decode cX10_divisor 18 = .ok (.iload_n 3, 1) := by decide +kernel
theorem dX10_divisor_19 : decode cX10_divisor 19 = .ok (.irem, 1) := by decide +kernel
theorem dX10_divisor_20 : decode cX10_divisor 20 = .ok (.istore 4, 2) := by decide +kernel
theorem dX10_divisor_22 : decode cX10_divisor 22 = .ok (.iload_n 3, 1) := by decide +kernel
theorem dX10_divisor_23 : decode cX10_divisor 23 = .ok (.istore_n 2, 1) := by decide +kernel
theorem dX10_divisor_24 : decode cX10_divisor 24 = .ok (.iload 4, 2) := by decide +kernel
theorem dX10_divisor_26 : decode cX10_divisor 26 = .ok (.istore_n 3, 1) := by decide +kernel
theorem dX10_divisor_27 : decode cX10_divisor 27 = .ok (.goto (-14), 3) := by decide +kernel
theorem dX10_divisor_30 : decode cX10_divisor 30 = .ok (.iload_n 2, 1) := by decide +kernel
theorem dX10_divisor_31 : decode cX10_divisor 31 = .ok (.ireturn, 1) := by decide +kernel
theorem dX10_fraction_0 : decode cX10_fraction 0 = .ok (.iload_n 0, 1) := by decide +kernel
theorem dX10_fraction_1 : decode cX10_fraction 1 = .ok (.iload_n 1, 1) := by decide +kernel
theorem dX10_fraction_2 : decode cX10_fraction 2 = .ok (.invokestatic 162, 3) := by decide +kernel
theorem dX10_fraction_5 : decode cX10_fraction 5 = .ok (.istore_n 3, 1) := by decide +kernel
theorem dX10_fraction_6 : decode cX10_fraction 6 = .ok (.iload_n 2, 1) := by decide +kernel
theorem dX10_fraction_7 : decode cX10_fraction 7 = .ok (.ifCond .eq 9, 3) := by decide +kernel
theorem dX10_fraction_10 : decode cX10_fraction 10 = .ok (.iload_n 0, 1) := by decide +kernel
theorem dX10_fraction_11 : decode cX10_fraction 11 = .ok (.iload_n 3, 1) := by decide +kernel
theorem dX10_fraction_12 : decode cX10_fraction 12 = .ok (.idiv, 1) := by decide +kernel
theorem dX10_fraction_13 : decode cX10_fraction 13 = .ok (.goto 6, 3) := by decide +kernel
theorem dX10_fraction_16 : decode cX10_fraction 16 = .ok (.iload_n 1, 1) := by decide +kernel
theorem dX10_fraction_17 : decode cX10_fraction 17 = .ok (.iload_n 3, 1) := by decide +kernel
theorem dX10_fraction_18 : decode cX10_fraction 18 = .ok (.idiv, 1) := by decide +kernel
theorem dX10_fraction_19 : decode cX10_fraction 19 = .ok (.ireturn, 1) := by decide +kernel
theorem dX10_goOn_0 : decode cX10_goOn 0 = .ok (.iconst 0, 1) := by decide +kernel
theorem dX10_goOn_1 : decode cX10_goOn 1 = .ok (.istore 6, 2) := by decide +kernel
theorem dX10_goOn_3 : decode cX10_goOn 3 = .ok (.iload 6, 2) := by decide +kernel
theorem dX10_goOn_5 : decode cX10_goOn 5 = .ok (.aload_n 0, 1) := by decide +kernel
theorem dX10_goOn_6 : decode cX10_goOn 6 = .ok (.getfield 16, 3) := by decide +kernel
theorem dX10_goOn_9 : decode cX10_goOn 9 = .ok (.bipush 6, 2) := by decide +kernel
theorem dX10_goOn_11 : decode cX10_goOn 11 = .ok (.iaload, 1) := by decide +kernel
theorem dX10_goOn_12 : decode cX10_goOn 12 = .ok (.if_icmp .ge 137, 3) := by decide +kernel
theorem dX10_goOn_15 : decode cX10_goOn 15 = .ok (.aload_n 0, 1) := by decide +kernel
theorem dX10_goOn_16 : decode cX10_goOn 16 = .ok (.getfield 16, 3) := by decide +kernel
theorem dX10_goOn_19 : decode cX10_goOn 19 = .ok (.iconst 0, 1) := by decide +kernel
theorem dX10_goOn_20 : decode cX10_goOn 20 = .ok (.iaload, 1) := by decide +kernel
theorem dX10_goOn_21 : decode cX10_goOn 21 = .ok (.iload_n 2, 1) := by decide +kernel
theorem dX10_goOn_22 : decode cX10_goOn 22 = .ok (.iconst (-1), 1) := by decide +kernel
theorem dX10_goOn_23 : decode cX10_goOn 23 = .ok (.ixor, 1) := by decide +kernel
theorem dX10_goOn_24 : decode cX10_goOn 24 = .ok (.iand, 1) := by decide +kernel
theorem dX10_goOn_25 : decode cX10_goOn 25 = .ok (.iload 6, 2) := by decide +kernel
theorem dX10_goOn_27 : decode cX10_goOn 27 = .ok (.invokestatic 82, 3) := by decide +kernel
theorem dX10_goOn_30 : decode cX10_goOn 30 = .ok (.ifCond .eq 113, 3) := by decide +kernel
theorem dX10_goOn_33 : decode cX10_goOn 33 = .ok (.aload_n 0, 1) := by decide +kernel
theorem dX10_goOn_34 : decode cX10_goOn 34 = .ok (.invokevirtual 127, 3) := by decide +kernel
theorem dX10_goOn_37 : decode cX10_goOn 37 = .ok (.aload_n 0, 1) := by decide +kernel
theorem dX10_goOn_38 : decode cX10_goOn 38 = .ok (.getfield 19, 3) := by decide +kernel
theorem dX10_goOn_41 : decode cX10_goOn 41 = .ok (.iconst 0, 1) := by decide +kernel
theorem dX10_goOn_42 : decode cX10_goOn 42 = .ok (.dup2, 1) := by decide +kernel
theorem dX10_goOn_43 : decode cX10_goOn 43 = .ok (.iaload, 1) := by decide +kernel
theorem dX10_goOn_44 : decode cX10_goOn 44 = .ok (.iload_n 2, 1) := by decide +kernel
theorem dX10_goOn_45 : decode cX10_goOn 45 = .ok (.iconst (-1), 1) := by decide +kernel
theorem dX10_goOn_46 : decode cX10_goOn 46 = .ok (.ixor, 1) := by decide +kernel
theorem dX10_goOn_47 : decode cX10_goOn 47 = .ok (.iand, 1) := by decide +kernel
theorem dX10_goOn_48 : decode cX10_goOn 48 = .ok (.iastore, 1) := by decide +kernel
theorem dX10_goOn_49 : decode cX10_goOn 49 = .ok (.aload_n 0, 1) := by decide +kernel
theorem dX10_goOn_50 : decode cX10_goOn 50 = .ok (.getfield 19, 3) := by decide +kernel
theorem dX10_goOn_53 : decode cX10_goOn 53 = .ok (.iconst 1, 1) := by decide +kernel
theorem dX10_goOn_54 : decode cX10_goOn 54 = .ok (.iload_n 3, 1) := by decide +kernel
theorem dX10_goOn_55 : decode cX10_goOn 55 = .ok (.iastore, 1) := by decide +kernel
theorem dX10_goOn_56 : decode cX10_goOn 56 = .ok (.aload_n 0, 1) := by decide +kernel
theorem dX10_goOn_57 : decode cX10_goOn 57 = .ok (.aload_n 0, 1) := by decide +kernel
theorem dX10_goOn_58 : decode cX10_goOn 58 = .ok (.getfield 19, 3) := by decide +kernel
theorem dX10_goOn_61 : decode cX10_goOn 61 = .ok (.iload 6, 2) := by decide +kernel
theorem dX10_goOn_63 : decode cX10_goOn 63 = .ok (.invokevirtual 115, 3) := by decide +kernel
theorem dX10_goOn_66 : decode cX10_goOn 66 = .ok (.aload_n 0, 1) := by decide +kernel
theorem dX10_goOn_67 : decode cX10_goOn 67 = .ok (.getfield 19, 3) := by decide +kernel
theorem dX10_goOn_70 : decode cX10_goOn 70 = .ok (.iconst 1, 1) := by decide +kernel
theorem dX10_goOn_71 : decode cX10_goOn 71 = .ok (.iaload, 1) := by decide +kernel
theorem dX10_goOn_72 : decode cX10_goOn 72 = .ok (.bipush (-9), 2) := by decide +kernel
theorem dX10_goOn_74 : decode cX10_goOn 74 = .ok (.if_icmp .ne 8, 3) := by decide +kernel
theorem dX10_goOn_77 : decode cX10_goOn 77 = .ok (.bipush 7, 2) := by decide +kernel
theorem dX10_goOn_79 : decode cX10_goOn 79 = .ok (.goto 9, 3) := by decide +kernel
theorem dX10_goOn_82 : decode cX10_goOn 82 = .ok (.aload_n 0, 1) := by decide +kernel
theorem dX10_goOn_83 : decode cX10_goOn 83 = .ok (.getfield 19, 3) := by decide +kernel
theorem dX10_goOn_86 : decode cX10_goOn 86 = .ok (.iconst 1, 1) := by decide +kernel
theorem dX10_goOn_87 : decode cX10_goOn 87 = .ok (.iaload, 1) := by decide +kernel
theorem dX10_goOn_88 : decode cX10_goOn 88 = .ok (.istore 7, 2) := by decide +kernel
theorem dX10_goOn_90 : decode cX10_goOn 90 = .ok (.iload 4, 2) := by decide +kernel
theorem dX10_goOn_92 : decode cX10_goOn 92 = .ok (.ifCond .ne 9, 3) := by decide +kernel
theorem dX10_goOn_95 : decode cX10_goOn 95 = .ok (.iload 7, 2) := by decide +kernel
theorem dX10_goOn_97 : decode cX10_goOn 97 = .ok (.iload_n 1, 1) := by decide +kernel
theorem dX10_goOn_98 : decode cX10_goOn 98 = .ok (.if_icmp .ne 7, 3) := by decide +kernel
theorem dX10_goOn_101 : decode cX10_goOn 101 = .ok (.iconst 1, 1) := by decide +kernel
theorem dX10_goOn_102 : decode cX10_goOn 102 = .ok (.goto 4, 3) := by decide +kernel
theorem dX10_goOn_105 : decode cX10_goOn 105 = .ok (.iconst 0, 1) := by decide +kernel
theorem dX10_goOn_106 : decode cX10_goOn 106 = .ok (.istore 8, 2) := by decide +kernel
theorem dX10_goOn_108 : decode cX10_goOn 108 = .ok (.aload_n 0, 1) := by decide +kernel
theorem dX10_goOn_109 : decode cX10_goOn 109 = .ok (.getfield 38, 3) := by decide +kernel
theorem dX10_goOn_112 : decode cX10_goOn 112 = .ok (.bipush 16, 2) := by decide +kernel
theorem dX10_goOn_114 : decode cX10_goOn 114 = .ok (.iload_n 2, 1) := by decide +kernel
theorem dX10_goOn_115 : decode cX10_goOn 115 = .ok (.iconst 1, 1) := by decide +kernel
theorem dX10_goOn_116 : decode cX10_goOn 116 = .ok (.iload 6, 2) := by decide +kernel
theorem dX10_goOn_118 : decode cX10_goOn 118 = .ok (.ishl, 1) := by decide +kernel
theorem dX10_goOn_119 : decode cX10_goOn 119 = .ok (.ior, 1) := by decide +kernel
theorem dX10_goOn_120 : decode cX10_goOn 120 = .ok (.imul, 1) := by decide +kernel
theorem dX10_goOn_121 : decode cX10_goOn 121 = .ok (.iconst 2, 1) := by decide +kernel
theorem dX10_goOn_122 : decode cX10_goOn 122 = .ok (.iload 7, 2) := by decide +kernel
theorem dX10_goOn_124 : decode cX10_goOn 124 = .ok (.imul, 1) := by decide +kernel
theorem dX10_goOn_125 : decode cX10_goOn 125 = .ok (.iadd, 1) := by decide +kernel
theorem dX10_goOn_126 : decode cX10_goOn 126 = .ok (.iload 8, 2) := by decide +kernel
theorem dX10_goOn_128 : decode cX10_goOn 128 = .ok (.ifCond .eq 7, 3) := by decide +kernel
theorem dX10_goOn_131 : decode cX10_goOn 131 = .ok (.iconst 1, 1) := by decide +kernel
theorem dX10_goOn_132 : decode cX10_goOn 132 = .ok (.goto 4, 3) := by decide +kernel
theorem dX10_goOn_135 : decode cX10_goOn 135 = .ok (.iconst 0, 1) := by decide +kernel
theorem dX10_goOn_136 : decode cX10_goOn 136 = .ok (.iadd, 1) := by decide +kernel
theorem dX10_goOn_137 : decode cX10_goOn 137 = .ok (.dup2, 1) := by decide +kernel
theorem dX10_goOn_138 : decode cX10_goOn 138 = .ok (.iaload, 1) := by decide +kernel
theorem dX10_goOn_139 : decode cX10_goOn 139 = .ok (.iload 5, 2) := by decide +kernel
theorem dX10_goOn_141 : decode cX10_goOn 141 = .ok (.iadd, 1) := by decide +kernel
theorem dX10_goOn_142 : decode cX10_goOn 142 = .ok (.iastore, 1) := by decide +kernel
theorem dX10_goOn_143 : decode cX10_goOn 143 = .ok (.iinc 6 1, 3) := by decide +kernel
theorem dX10_goOn_146 : decode cX10_goOn 146 = .ok (.goto (-143), 3) := by decide +kernel
theorem dX10_goOn_149 : decode cX10_goOn 149 = .ok (.return_, 1) := by decide +kernel
theorem dX10_odds_0 : decode cX10_odds 0 = .ok (.aload_n 0, 1) := by decide +kernel
theorem dX10_odds_1 : decode cX10_odds 1 = .ok (.iconst 0, 1) := by decide +kernel
theorem dX10_odds_2 : decode cX10_odds 2 = .ok (.putfield 41, 3) := by decide +kernel
theorem dX10_odds_5 : decode cX10_odds 5 = .ok (.aload_n 0, 1) := by decide +kernel
theorem dX10_odds_6 : decode cX10_odds 6 = .ok (.iload_n 1, 1) := by decide +kernel
theorem dX10_odds_7 : decode cX10_odds 7 = .ok (.invokevirtual 104, 3) := by decide +kernel
theorem dX10_odds_10 : decode cX10_odds 10 = .ok (.ifCond .eq 5, 3) := by decide +kernel
theorem dX10_odds_13 : decode cX10_odds 13 = .ok (.iconst (-1), 1) := by decide +kernel
theorem dX10_odds_14 : decode cX10_odds 14 = .ok (.ireturn, 1) := by decide +kernel
theorem dX10_odds_15 : decode cX10_odds 15 = .ok (.aload_n 0, 1) := by decide +kernel
theorem dX10_odds_16 : decode cX10_odds 16 = .ok (.getfield 16, 3) := by decide +kernel
theorem dX10_odds_19 : decode cX10_odds 19 = .ok (.iconst 0, 1) := by decide +kernel
theorem dX10_odds_20 : decode cX10_odds 20 = .ok (.iaload, 1) := by decide +kernel
theorem dX10_odds_21 : decode cX10_odds 21 = .ok (.iload_n 1, 1) := by decide +kernel
theorem dX10_odds_22 : decode cX10_odds 22 = .ok (.invokestatic 82, 3) := by decide +kernel
theorem dX10_odds_25 : decode cX10_odds 25 = .ok (.ifCond .ne 13, 3) := by decide +kernel
theorem dX10_odds_28 : decode cX10_odds 28 = .ok (.iload_n 2, 1) := by decide +kernel
theorem dX10_odds_29 : decode cX10_odds 29 = .ok (.ifCond .eq 7, 3) := by decide +kernel
theorem dX10_odds_32 : decode cX10_odds 32 = .ok (.iconst 0, 1) := by decide +kernel
theorem dX10_odds_33 : decode cX10_odds 33 = .ok (.goto 4, 3) := by decide +kernel
theorem dX10_odds_36 : decode cX10_odds 36 = .ok (.iconst 1, 1) := by decide +kernel
theorem dX10_odds_37 : decode cX10_odds 37 = .ok (.ireturn, 1) := by decide +kernel
theorem dX10_odds_38 : decode cX10_odds 38 = .ok (.iconst 0, 1) := by decide +kernel
theorem dX10_odds_39 : decode cX10_odds 39 = .ok (.istore_n 3, 1) := by decide +kernel
theorem dX10_odds_40 : decode cX10_odds 40 = .ok (.iload_n 3, 1) := by decide +kernel
theorem dX10_odds_41 : decode cX10_odds 41 = .ok (.sipush 2048, 3) := by decide +kernel
theorem dX10_odds_44 : decode cX10_odds 44 = .ok (.if_icmp .ge 16, 3) := by decide +kernel
theorem dX10_odds_47 : decode cX10_odds 47 = .ok (.aload_n 0, 1) := by decide +kernel
theorem dX10_odds_48 : decode cX10_odds 48 = .ok (.getfield 38, 3) := by decide +kernel
theorem dX10_odds_51 : decode cX10_odds 51 = .ok (.iload_n 3, 1) := by decide +kernel
theorem dX10_odds_52 : decode cX10_odds 52 = .ok (.iconst 0, 1) := by decide +kernel
theorem dX10_odds_53 : decode cX10_odds 53 = .ok (.iastore, 1) := by decide +kernel
theorem dX10_odds_54 : decode cX10_odds 54 = .ok (.iinc 3 1, 3) := by decide +kernel
theorem dX10_odds_57 : decode cX10_odds 57 = .ok (.goto (-17), 3) := by decide +kernel
theorem dX10_odds_60 : decode cX10_odds 60 = .ok (.aload_n 0, 1) := by decide +kernel
theorem dX10_odds_61 : decode cX10_odds 61 = .ok (.getfield 16, 3) := by decide +kernel
theorem dX10_odds_64 : decode cX10_odds 64 = .ok (.iconst 1, 1) := by decide +kernel
theorem dX10_odds_65 : decode cX10_odds 65 = .ok (.iaload, 1) := by decide +kernel
theorem dX10_odds_66 : decode cX10_odds 66 = .ok (.bipush (-9), 2) := by decide +kernel
theorem dX10_odds_68 : decode cX10_odds 68 = .ok (.if_icmp .ne 8, 3) := by decide +kernel
theorem dX10_odds_71 : decode cX10_odds 71 = .ok (.bipush 7, 2) := by decide +kernel
theorem dX10_odds_73 : decode cX10_odds 73 = .ok (.goto 9, 3) := by decide +kernel
theorem dX10_odds_76 : decode cX10_odds 76 = .ok (.aload_n 0, 1) := by decide +kernel
theorem dX10_odds_77 : decode cX10_odds 77 = .ok (.getfield 16, 3) := by decide +kernel
theorem dX10_odds_80 : decode cX10_odds 80 = .ok (.iconst 1, 1) := by decide +kernel
theorem dX10_odds_81 : decode cX10_odds 81 = .ok (.iaload, 1) := by decide +kernel
theorem dX10_odds_82 : decode cX10_odds 82 = .ok (.istore_n 3, 1) := by decide +kernel
theorem dX10_odds_83 : decode cX10_odds 83 = .ok (.aload_n 0, 1) := by decide +kernel
theorem dX10_odds_84 : decode cX10_odds 84 = .ok (.getfield 38, 3) := by decide +kernel
theorem dX10_odds_87 : decode cX10_odds 87 = .ok (.iconst 2, 1) := by decide +kernel
theorem dX10_odds_88 : decode cX10_odds 88 = .ok (.iload_n 3, 1) := by decide +kernel
theorem dX10_odds_89 : decode cX10_odds 89 = .ok (.imul, 1) := by decide +kernel
theorem dX10_odds_90 : decode cX10_odds 90 = .ok (.iload_n 3, 1) := by decide +kernel
theorem dX10_odds_91 : decode cX10_odds 91 = .ok (.iload_n 1, 1) := by decide +kernel
theorem dX10_odds_92 : decode cX10_odds 92 = .ok (.if_icmp .ne 7, 3) := by decide +kernel
theorem dX10_odds_95 : decode cX10_odds 95 = .ok (.iconst 1, 1) := by decide +kernel
theorem dX10_odds_96 : decode cX10_odds 96 = .ok (.goto 4, 3) := by decide +kernel
theorem dX10_odds_99 : decode cX10_odds 99 = .ok (.iconst 0, 1) := by decide +kernel
theorem dX10_odds_100 : decode cX10_odds 100 = .ok (.iadd, 1) := by decide +kernel
theorem dX10_odds_101 : decode cX10_odds 101 = .ok (.iconst 1, 1) := by decide +kernel
theorem dX10_odds_102 : decode cX10_odds 102 = .ok (.iastore, 1) := by decide +kernel
theorem dX10_odds_103 : decode cX10_odds 103 = .ok (.iconst 0, 1) := by decide +kernel
theorem dX10_odds_104 : decode cX10_odds 104 = .ok (.istore 4, 2) := by decide +kernel
theorem dX10_odds_106 : decode cX10_odds 106 = .ok (.iload 4, 2) := by decide +kernel
theorem dX10_odds_108 : decode cX10_odds 108 = .ok (.bipush 16, 2) := by decide +kernel
theorem dX10_odds_110 : decode cX10_odds 110 = .ok (.aload_n 0, 1) := by decide +kernel
theorem dX10_odds_111 : decode cX10_odds 111 = .ok (.getfield 16, 3) := by decide +kernel
theorem dX10_odds_114 : decode cX10_odds 114 = .ok (.iconst 0, 1) := by decide +kernel
theorem dX10_odds_115 : decode cX10_odds 115 = .ok (.iaload, 1) := by decide +kernel
theorem dX10_odds_116 : decode cX10_odds 116 = .ok (.imul, 1) := by decide +kernel
theorem dX10_odds_117 : decode cX10_odds 117 = .ok (.if_icmp .ge 72, 3) := by decide +kernel
theorem dX10_odds_120 : decode cX10_odds 120 = .ok (.aload_n 0, 1) := by decide +kernel
theorem dX10_odds_121 : decode cX10_odds 121 = .ok (.getfield 38, 3) := by decide +kernel
theorem dX10_odds_124 : decode cX10_odds 124 = .ok (.iload 4, 2) := by decide +kernel
theorem dX10_odds_126 : decode cX10_odds 126 = .ok (.iaload, 1) := by decide +kernel
theorem dX10_odds_127 : decode cX10_odds 127 = .ok (.ifCond .le 56, 3) := by decide +kernel
theorem dX10_odds_130 : decode cX10_odds 130 = .ok (.iload 4, 2) := by decide +kernel
theorem dX10_odds_132 : decode cX10_odds 132 = .ok (.bipush 16, 2) := by decide +kernel
theorem dX10_odds_134 : decode cX10_odds 134 = .ok (.irem, 1) := by decide +kernel
theorem dX10_odds_135 : decode cX10_odds 135 = .ok (.iconst 2, 1) := by decide +kernel
theorem dX10_odds_136 : decode cX10_odds 136 = .ok (.idiv, 1) := by decide +kernel
theorem dX10_odds_137 : decode cX10_odds 137 = .ok (.istore 5, 2) := by decide +kernel
theorem dX10_odds_139 : decode cX10_odds 139 = .ok (.aload_n 0, 1) := by decide +kernel
theorem dX10_odds_140 : decode cX10_odds 140 = .ok (.iload_n 1, 1) := by decide +kernel
theorem dX10_odds_141 : decode cX10_odds 141 = .ok (.iload 4, 2) := by decide +kernel
theorem dX10_odds_143 : decode cX10_odds 143 = .ok (.bipush 16, 2) := by decide +kernel
theorem dX10_odds_145 : decode cX10_odds 145 = .ok (.idiv, 1) := by decide +kernel
theorem dX10_odds_146 : decode cX10_odds 146 = .ok (.iload 5, 2) := by decide +kernel
theorem dX10_odds_148 : decode cX10_odds 148 = .ok (.bipush 7, 2) := by decide +kernel
theorem dX10_odds_150 : decode cX10_odds 150 = .ok (.if_icmp .ne 8, 3) := by decide +kernel
theorem dX10_odds_153 : decode cX10_odds 153 = .ok (.bipush (-9), 2) := by decide +kernel
theorem dX10_odds_155 : decode cX10_odds 155 = .ok (.goto 5, 3) := by decide +kernel
theorem dX10_odds_158 : decode cX10_odds 158 = .ok (.iload 5, 2) := by decide +kernel
theorem dX10_odds_160 : decode cX10_odds 160 = .ok (.iload 4, 2) := by decide +kernel
theorem dX10_odds_162 : decode cX10_odds 162 = .ok (.iconst 2, 1) := by decide +kernel
theorem dX10_odds_163 : decode cX10_odds 163 = .ok (.irem, 1) := by decide +kernel
theorem dX10_odds_164 : decode cX10_odds 164 = .ok (.iconst 1, 1) := by decide +kernel
theorem dX10_odds_165 : decode cX10_odds 165 = .ok (.if_icmp .ne 7, 3) := by decide +kernel
theorem dX10_odds_168 : decode cX10_odds 168 = .ok (.iconst 1, 1) := by decide +kernel
theorem dX10_odds_169 : decode cX10_odds 169 = .ok (.goto 4, 3) := by decide +kernel
theorem dX10_odds_172 : decode cX10_odds 172 = .ok (.iconst 0, 1) := by decide +kernel
theorem dX10_odds_173 : decode cX10_odds 173 = .ok (.aload_n 0, 1) := by decide +kernel
theorem dX10_odds_174 : decode cX10_odds 174 = .ok (.getfield 38, 3) := by decide +kernel
theorem dX10_odds_177 : decode cX10_odds 177 = .ok (.iload 4, 2) := by decide +kernel
theorem dX10_odds_179 : decode cX10_odds 179 = .ok (.iaload, 1) := by decide +kernel
theorem dX10_odds_180 : decode cX10_odds 180 = .ok (.invokevirtual 165, 3) := by decide +kernel
theorem dX10_odds_183 : decode cX10_odds 183 = .ok (.iinc 4 1, 3) := by decide +kernel
theorem dX10_odds_186 : decode cX10_odds 186 = .ok (.goto (-80), 3) := by decide +kernel
theorem dX10_odds_189 : decode cX10_odds 189 = .ok (.iconst 0, 1) := by decide +kernel
theorem dX10_odds_190 : decode cX10_odds 190 = .ok (.istore 4, 2) := by decide +kernel
theorem dX10_odds_192 : decode cX10_odds 192 = .ok (.iconst 0, 1) := by decide +kernel
theorem dX10_odds_193 : decode cX10_odds 193 = .ok (.istore 5, 2) := by decide +kernel
theorem dX10_odds_195 : decode cX10_odds 195 = .ok (.iconst 0, 1) := by decide +kernel
theorem dX10_odds_196 : decode cX10_odds 196 = .ok (.istore 6, 2) := by decide +kernel
theorem dX10_odds_198 : decode cX10_odds 198 = .ok (.iload 6, 2) := by decide +kernel
theorem dX10_odds_200 : decode cX10_odds 200 = .ok (.bipush 16, 2) := by decide +kernel
theorem dX10_odds_202 : decode cX10_odds 202 = .ok (.if_icmp .ge 54, 3) := by decide +kernel
theorem dX10_odds_205 : decode cX10_odds 205 = .ok (.aload_n 0, 1) := by decide +kernel
theorem dX10_odds_206 : decode cX10_odds 206 = .ok (.getfield 38, 3) := by decide +kernel
theorem dX10_odds_209 : decode cX10_odds 209 = .ok (.bipush 16, 2) := by decide +kernel
theorem dX10_odds_211 : decode cX10_odds 211 = .ok (.aload_n 0, 1) := by decide +kernel
theorem dX10_odds_212 : decode cX10_odds 212 = .ok (.getfield 16, 3) := by decide +kernel
theorem dX10_odds_215 : decode cX10_odds 215 = .ok (.iconst 0, 1) := by decide +kernel
theorem dX10_odds_216 : decode cX10_odds 216 = .ok (.iaload, 1) := by decide +kernel
theorem dX10_odds_217 : decode cX10_odds 217 = .ok (.imul, 1) := by decide +kernel
theorem dX10_odds_218 : decode cX10_odds 218 = .ok (.iload 6, 2) := by decide +kernel
theorem dX10_odds_220 : decode cX10_odds 220 = .ok (.iadd, 1) := by decide +kernel
theorem dX10_odds_221 : decode cX10_odds 221 = .ok (.iaload, 1) := by decide +kernel
theorem dX10_odds_222 : decode cX10_odds 222 = .ok (.istore 7, 2) := by decide +kernel
theorem dX10_odds_224 : decode cX10_odds 224 = .ok (.iload 5, 2) := by decide +kernel
theorem dX10_odds_226 : decode cX10_odds 226 = .ok (.iload 7, 2) := by decide +kernel
theorem dX10_odds_228 : decode cX10_odds 228 = .ok (.iadd, 1) := by decide +kernel
theorem dX10_odds_229 : decode cX10_odds 229 = .ok (.istore 5, 2) := by decide +kernel
theorem dX10_odds_231 : decode cX10_odds 231 = .ok (.iload 4, 2) := by decide +kernel
theorem dX10_odds_233 : decode cX10_odds 233 = .ok (.iload 6, 2) := by decide +kernel
theorem dX10_odds_235 : decode cX10_odds 235 = .ok (.iconst 2, 1) := by decide +kernel
theorem dX10_odds_236 : decode cX10_odds 236 = .ok (.irem, 1) := by decide +kernel
theorem dX10_odds_237 : decode cX10_odds 237 = .ok (.iconst 1, 1) := by decide +kernel
theorem dX10_odds_238 : decode cX10_odds 238 = .ok (.if_icmp .ne 8, 3) := by decide +kernel
theorem dX10_odds_241 : decode cX10_odds 241 = .ok (.iload 7, 2) := by decide +kernel
theorem dX10_odds_243 : decode cX10_odds 243 = .ok (.goto 4, 3) := by decide +kernel
theorem dX10_odds_246 : decode cX10_odds 246 = .ok (.iconst 0, 1) := by decide +kernel
theorem dX10_odds_247 : decode cX10_odds 247 = .ok (.iadd, 1) := by decide +kernel
theorem dX10_odds_248 : decode cX10_odds 248 = .ok (.istore 4, 2) := by decide +kernel
theorem dX10_odds_250 : decode cX10_odds 250 = .ok (.iinc 6 1, 3) := by decide +kernel
theorem dX10_odds_253 : decode cX10_odds 253 = .ok (.goto (-55), 3) := by decide +kernel
theorem dX10_odds_256 : decode cX10_odds 256 = .ok (.iload 4, 2) := by decide +kernel
theorem dX10_odds_258 : decode cX10_odds 258 = .ok (.iload 5, 2) := by decide +kernel
theorem dX10_odds_260 : decode cX10_odds 260 = .ok (.iload_n 2, 1) := by decide +kernel
theorem dX10_odds_261 : decode cX10_odds 261 = .ok (.invokestatic 169, 3) := by decide +kernel
theorem dX10_odds_264 : decode cX10_odds 264 = .ok (.ireturn, 1) := by decide +kernel
theorem dX10_lender_0 : decode cX10_lender 0 = .ok (.aload_n 0, 1) := by decide +kernel
theorem dX10_lender_1 : decode cX10_lender 1 = .ok (.iconst 0, 1) := by decide +kernel
theorem dX10_lender_2 : decode cX10_lender 2 = .ok (.putfield 41, 3) := by decide +kernel
theorem dX10_lender_5 : decode cX10_lender 5 = .ok (.iload_n 1, 1) := by decide +kernel
theorem dX10_lender_6 : decode cX10_lender 6 = .ok (.i2l, 1) := by decide +kernel
theorem dX10_lender_7 : decode cX10_lender 7 = .ok (.lconst 1, 1) := by decide +kernel
theorem dX10_lender_8 : decode cX10_lender 8 = .ok (.ldc2_w 173, 3) := by decide +kernel
theorem dX10_lender_11 : decode cX10_lender 11 = .ok (.invokestatic 45, 3) := by decide +kernel
theorem dX10_lender_14 : decode cX10_lender 14 = .ok (.ifCond .eq 15, 3) := by decide +kernel
theorem dX10_lender_17 : decode cX10_lender 17 = .ok (.iload_n 2, 1) := by decide +kernel
theorem dX10_lender_18 : decode cX10_lender 18 = .ok (.i2l, 1) := by decide +kernel
theorem dX10_lender_19 : decode cX10_lender 19 = .ok (.lconst 0, 1) := by decide +kernel
theorem dX10_lender_20 : decode cX10_lender 20 = .ok (.ldc2_w 119, 3) := by decide +kernel
theorem dX10_lender_23 : decode cX10_lender 23 = .ok (.invokestatic 45, 3) := by decide +kernel
theorem dX10_lender_26 : decode cX10_lender 26 = .ok (.ifCond .ne 6, 3) := by decide +kernel
theorem dX10_lender_29 : decode cX10_lender 29 = .ok (.bipush (-2), 2) := by decide +kernel
theorem dX10_lender_31 : decode cX10_lender 31 = .ok (.ireturn, 1) := by decide +kernel
theorem dX10_lender_32 : decode cX10_lender 32 = .ok (.aload_n 0, 1) := by decide +kernel
theorem dX10_lender_33 : decode cX10_lender 33 = .ok (.getfield 16, 3) := by decide +kernel
theorem dX10_lender_36 : decode cX10_lender 36 = .ok (.iconst 1, 1) := by decide +kernel
theorem dX10_lender_37 : decode cX10_lender 37 = .ok (.iaload, 1) := by decide +kernel
theorem dX10_lender_38 : decode cX10_lender 38 = .ok (.bipush (-9), 2) := by decide +kernel
theorem dX10_lender_40 : decode cX10_lender 40 = .ok (.if_icmp .ne 7, 3) := by decide +kernel
theorem dX10_lender_43 : decode cX10_lender 43 = .ok (.iconst 0, 1) := by decide +kernel
theorem dX10_lender_44 : decode cX10_lender 44 = .ok (.goto 4, 3) := by decide +kernel
theorem dX10_lender_47 : decode cX10_lender 47 = .ok (.iconst 1, 1) := by decide +kernel
theorem dX10_lender_48 : decode cX10_lender 48 = .ok (.istore 4, 2) := by decide +kernel
theorem dX10_lender_50 : decode cX10_lender 50 = .ok (.aload_n 0, 1) := by decide +kernel
theorem dX10_lender_51 : decode cX10_lender 51 = .ok (.getfield 16, 3) := by decide +kernel
theorem dX10_lender_54 : decode cX10_lender 54 = .ok (.iconst 1, 1) := by decide +kernel
theorem dX10_lender_55 : decode cX10_lender 55 = .ok (.iaload, 1) := by decide +kernel
theorem dX10_lender_56 : decode cX10_lender 56 = .ok (.bipush (-9), 2) := by decide +kernel
theorem dX10_lender_58 : decode cX10_lender 58 = .ok (.if_icmp .ne 7, 3) := by decide +kernel
theorem dX10_lender_61 : decode cX10_lender 61 = .ok (.iconst 1, 1) := by decide +kernel
theorem dX10_lender_62 : decode cX10_lender 62 = .ok (.goto 9, 3) := by decide +kernel
theorem dX10_lender_65 : decode cX10_lender 65 = .ok (.bipush 10, 2) := by decide +kernel
theorem dX10_lender_67 : decode cX10_lender 67 = .ok (.iload_n 1, 1) := by decide +kernel
theorem dX10_lender_68 : decode cX10_lender 68 = .ok (.invokestatic 136, 3) := by decide +kernel
theorem dX10_lender_71 : decode cX10_lender 71 = .ok (.istore 5, 2) := by decide +kernel
theorem dX10_lender_73 : decode cX10_lender 73 = .ok (.iconst 0, 1) := by decide +kernel
theorem dX10_lender_74 : decode cX10_lender 74 = .ok (.istore 6, 2) := by decide +kernel
theorem dX10_lender_76 : decode cX10_lender 76 = .ok (.iload 6, 2) := by decide +kernel
theorem dX10_lender_78 : decode cX10_lender 78 = .ok (.iload_n 1, 1) := by decide +kernel
theorem dX10_lender_79 : decode cX10_lender 79 = .ok (.if_icmp .ge 56, 3) := by decide +kernel
theorem dX10_lender_82 : decode cX10_lender 82 = .ok (.iload 4, 2) := by decide +kernel
theorem dX10_lender_84 : decode cX10_lender 84 = .ok (.ifCond .le 51, 3) := by decide +kernel
theorem dX10_lender_87 : decode cX10_lender 87 = .ok (.iload_n 2, 1) := by decide +kernel
theorem dX10_lender_88 : decode cX10_lender 88 = .ok (.aload_n 0, 1) := by decide +kernel
theorem dX10_lender_89 : decode cX10_lender 89 = .ok (.getfield 16, 3) := by decide +kernel
theorem dX10_lender_92 : decode cX10_lender 92 = .ok (.bipush 15, 2) := by decide +kernel
theorem dX10_lender_94 : decode cX10_lender 94 = .ok (.aload_n 0, 1) := by decide +kernel
theorem dX10_lender_95 : decode cX10_lender 95 = .ok (.getfield 16, 3) := by decide +kernel
theorem dX10_lender_98 : decode cX10_lender 98 = .ok (.iconst 1, 1) := by decide +kernel
theorem dX10_lender_99 : decode cX10_lender 99 = .ok (.iaload, 1) := by decide +kernel
theorem dX10_lender_100 : decode cX10_lender 100 = .ok (.iadd, 1) := by decide +kernel
theorem dX10_lender_101 : decode cX10_lender 101 = .ok (.iaload, 1) := by decide +kernel
theorem dX10_lender_102 : decode cX10_lender 102 = .ok (.iadd, 1) := by decide +kernel
theorem dX10_lender_103 : decode cX10_lender 103 = .ok (.iload 6, 2) := by decide +kernel
theorem dX10_lender_105 : decode cX10_lender 105 = .ok (.iadd, 1) := by decide +kernel
theorem dX10_lender_106 : decode cX10_lender 106 = .ok (.istore 7, 2) := by decide +kernel
theorem dX10_lender_108 : decode cX10_lender 108 = .ok (.iload 4, 2) := by decide +kernel
theorem dX10_lender_110 : decode cX10_lender 110 = .ok (.iload 7, 2) := by decide +kernel
theorem dX10_lender_112 : decode cX10_lender 112 = .ok (.bipush 10, 2) := by decide +kernel
theorem dX10_lender_114 : decode cX10_lender 114 = .ok (.if_icmp .le 7, 3) := by decide +kernel
theorem dX10_lender_117 : decode cX10_lender 117 = .ok (.iconst 0, 1) := by decide +kernel
theorem dX10_lender_118 : decode cX10_lender 118 = .ok (.goto 8, 3) := by decide +kernel
theorem dX10_lender_121 : decode cX10_lender 121 = .ok (.bipush 10, 2) := by decide +kernel
theorem dX10_lender_123 : decode cX10_lender 123 = .ok (.iload 7, 2) := by decide +kernel
theorem dX10_lender_125 : decode cX10_lender 125 = .ok (.isub, 1) := by decide +kernel
theorem dX10_lender_126 : decode cX10_lender 126 = .ok (.imul, 1) := by decide +kernel
theorem dX10_lender_127 : decode cX10_lender 127 = .ok (.istore 4, 2) := by decide +kernel
theorem dX10_lender_129 : decode cX10_lender 129 = .ok (.iinc 6 1, 3) := by decide +kernel
theorem dX10_lender_132 : decode cX10_lender 132 = .ok (.goto (-56), 3) := by decide +kernel
theorem dX10_lender_135 : decode cX10_lender 135 = .ok (.iload 4, 2) := by decide +kernel
theorem dX10_lender_137 : decode cX10_lender 137 = .ok (.iload 5, 2) := by decide +kernel
theorem dX10_lender_139 : decode cX10_lender 139 = .ok (.iload_n 3, 1) := by decide +kernel
theorem dX10_lender_140 : decode cX10_lender 140 = .ok (.invokestatic 169, 3) := by decide +kernel
theorem dX10_lender_143 : decode cX10_lender 143 = .ok (.ireturn, 1) := by decide +kernel
theorem dX10_seed_0 : decode cX10_seed 0 = .ok (.aload_n 0, 1) := by decide +kernel
theorem dX10_seed_1 : decode cX10_seed 1 = .ok (.iconst 0, 1) := by decide +kernel
theorem dX10_seed_2 : decode cX10_seed 2 = .ok (.putfield 41, 3) := by decide +kernel
theorem dX10_seed_5 : decode cX10_seed 5 = .ok (.aload_n 0, 1) := by decide +kernel
theorem dX10_seed_6 : decode cX10_seed 6 = .ok (.getfield 175, 3) := by decide +kernel
theorem dX10_seed_9 : decode cX10_seed 9 = .ok (.lstore_n 3, 1) := by decide +kernel
theorem dX10_seed_10 : decode cX10_seed 10 = .ok (.aload_n 0, 1) := by decide +kernel
theorem dX10_seed_11 : decode cX10_seed 11 = .ok (.lload_n 1, 1) := by decide +kernel
theorem dX10_seed_12 : decode cX10_seed 12 = .ok (.putfield 175, 3) := by decide +kernel
theorem dX10_seed_15 : decode cX10_seed 15 = .ok (.lload_n 3, 1) := by decide +kernel
theorem dX10_seed_16 : decode cX10_seed 16 = .ok (.lreturn, 1) := by decide +kernel
theorem dX10_families_0 : decode cX10_families 0 = .ok (.aload_n 0, 1) := by decide +kernel
theorem dX10_families_1 : decode cX10_families 1 = .ok (.iconst 0, 1) := by decide +kernel
theorem dX10_families_2 : decode cX10_families 2 = .ok (.putfield 41, 3) := by decide +kernel
theorem dX10_families_5 : decode cX10_families 5 = .ok (.iload_n 1, 1) := by decide +kernel
theorem dX10_families_6 : decode cX10_families 6 = .ok (.i2l, 1) := by decide +kernel
theorem dX10_families_7 : decode cX10_families 7 = .ok (.lconst 1, 1) := by decide +kernel
theorem dX10_families_8 : decode cX10_families 8 = .ok (.ldc2_w 179, 3) := by decide +kernel
theorem dX10_families_11 : decode cX10_families 11 = .ok (.invokestatic 45, 3) := by decide +kernel
theorem dX10_families_14 : decode cX10_families 14 = .ok (.ifCond .ne 6, 3) := by decide +kernel
theorem dX10_families_17 : decode cX10_families 17 = .ok (.bipush (-2), 2) := by decide +kernel
theorem dX10_families_19 : decode cX10_families 19 = .ok (.ireturn, 1) := by decide +kernel
theorem dX10_families_20 : decode cX10_families 20 = .ok (.aload_n 0, 1) := by decide +kernel
theorem dX10_families_21 : decode cX10_families 21 = .ok (.invokevirtual 127, 3) := by decide +kernel
theorem dX10_families_24 : decode cX10_families 24 = .ok (.iconst 0, 1) := by decide +kernel
theorem dX10_families_25 : decode cX10_families 25 = .ok (.istore_n 2, 1) := by decide +kernel
theorem dX10_families_26 : decode cX10_families 26 = .ok (.iconst 0, 1) := by decide +kernel
theorem dX10_families_27 : decode cX10_families 27 = .ok (.istore_n 3, 1) := by decide +kernel
theorem dX10_families_28 : decode cX10_families 28 = .ok (.iload_n 3, 1) := by decide +kernel
theorem dX10_families_29 : decode cX10_families 29 = .ok (.iload_n 1, 1) := by decide +kernel
theorem dX10_families_30 : decode cX10_families 30 = .ok (.if_icmp .ge 99, 3) := by decide +kernel
theorem dX10_families_33 : decode cX10_families 33 = .ok (.aload_n 0, 1) := by decide +kernel
theorem dX10_families_34 : decode cX10_families 34 = .ok (.aload_n 0, 1) := by decide +kernel
theorem dX10_families_35 : decode cX10_families 35 = .ok (.getfield 175, 3) := by decide +kernel
theorem dX10_families_38 : decode cX10_families 38 = .ok (.ldc2_w 181, 3) := by decide +kernel
theorem dX10_families_41 : decode cX10_families 41 = .ok (.lmul, 1) := by decide +kernel
theorem dX10_families_42 : decode cX10_families 42 = .ok (.ldc2_w 183, 3) := by decide +kernel
theorem dX10_families_45 : decode cX10_families 45 = .ok (.ladd, 1) := by decide +kernel
theorem dX10_families_46 : decode cX10_families 46 = .ok (.putfield 175, 3) := by decide +kernel
theorem dX10_families_49 : decode cX10_families 49 = .ok (.aload_n 0, 1) := by decide +kernel
theorem dX10_families_50 : decode cX10_families 50 = .ok (.getfield 175, 3) := by decide +kernel
theorem dX10_families_53 : decode cX10_families 53 = .ok (.bipush 33, 2) := by decide +kernel
theorem dX10_families_55 : decode cX10_families 55 = .ok (.lushr, 1) := by decide +kernel
theorem dX10_families_56 : decode cX10_families 56 = .ok (.ldc2_w 185, 3) := by decide +kernel
theorem dX10_families_59 : decode cX10_families 59 = .ok (.lrem, 1) := by decide +kernel
theorem dX10_families_60 : decode cX10_families 60 = .ok (.l2i, 1) := by decide +kernel
theorem dX10_families_61 : decode cX10_families 61 = .ok (.istore 4, 2) := by decide +kernel
theorem dX10_families_63 : decode cX10_families 63 = .ok (.aload_n 0, 1) := by decide +kernel
theorem dX10_families_64 : decode cX10_families 64 = .ok (.iload 4, 2) := by decide +kernel
theorem dX10_families_66 : decode cX10_families 66 = .ok (.invokevirtual 104, 3) := by decide +kernel
theorem dX10_families_69 : decode cX10_families 69 = .ok (.ifCond .ne 54, 3) := by decide +kernel
theorem dX10_families_72 : decode cX10_families 72 = .ok (.aload_n 0, 1) := by decide +kernel
theorem dX10_families_73 : decode cX10_families 73 = .ok (.getfield 19, 3) := by decide +kernel
theorem dX10_families_76 : decode cX10_families 76 = .ok (.iconst 0, 1) := by decide +kernel
theorem dX10_families_77 : decode cX10_families 77 = .ok (.iaload, 1) := by decide +kernel
theorem dX10_families_78 : decode cX10_families 78 = .ok (.iload 4, 2) := by decide +kernel
theorem dX10_families_80 : decode cX10_families 80 = .ok (.invokestatic 82, 3) := by decide +kernel
theorem dX10_families_83 : decode cX10_families 83 = .ok (.ifCond .eq 40, 3) := by decide +kernel
theorem dX10_families_86 : decode cX10_families 86 = .ok (.aload_n 0, 1) := by decide +kernel
theorem dX10_families_87 : decode cX10_families 87 = .ok (.getfield 19, 3) := by decide +kernel
theorem dX10_families_90 : decode cX10_families 90 = .ok (.iconst 1, 1) := by decide +kernel
theorem dX10_families_91 : decode cX10_families 91 = .ok (.iaload, 1) := by decide +kernel
theorem dX10_families_92 : decode cX10_families 92 = .ok (.istore 5, 2) := by decide +kernel
theorem dX10_families_94 : decode cX10_families 94 = .ok (.aload_n 0, 1) := by decide +kernel
theorem dX10_families_95 : decode cX10_families 95 = .ok (.aload_n 0, 1) := by decide +kernel
theorem dX10_families_96 : decode cX10_families 96 = .ok (.getfield 19, 3) := by decide +kernel
theorem dX10_families_99 : decode cX10_families 99 = .ok (.iload 4, 2) := by decide +kernel
theorem dX10_families_101 : decode cX10_families 101 = .ok (.invokevirtual 115, 3) := by decide +kernel
theorem dX10_families_104 : decode cX10_families 104 = .ok (.iload_n 2, 1) := by decide +kernel
theorem dX10_families_105 : decode cX10_families 105 = .ok (.aload_n 0, 1) := by decide +kernel
theorem dX10_families_106 : decode cX10_families 106 = .ok (.getfield 19, 3) := by decide +kernel
theorem dX10_families_109 : decode cX10_families 109 = .ok (.iconst 1, 1) := by decide +kernel
theorem dX10_families_110 : decode cX10_families 110 = .ok (.iaload, 1) := by decide +kernel
theorem dX10_families_111 : decode cX10_families 111 = .ok (.iload 5, 2) := by decide +kernel
theorem dX10_families_113 : decode cX10_families 113 = .ok (.if_icmp .eq 7, 3) := by decide +kernel
theorem dX10_families_116 : decode cX10_families 116 = .ok (.iconst 1, 1) := by decide +kernel
theorem dX10_families_117 : decode cX10_families 117 = .ok (.goto 4, 3) := by decide +kernel
theorem dX10_families_120 : decode cX10_families 120 = .ok (.iconst 0, 1) := by decide +kernel
theorem dX10_families_121 : decode cX10_families 121 = .ok (.iadd, 1) := by decide +kernel
theorem dX10_families_122 : decode cX10_families 122 = .ok (.istore_n 2, 1) := by decide +kernel
theorem dX10_families_123 : decode cX10_families 123 = .ok (.iinc 3 1, 3) := by decide +kernel
theorem dX10_families_126 : decode cX10_families 126 = .ok (.goto (-98), 3) := by decide +kernel
theorem dX10_families_129 : decode cX10_families 129 = .ok (.iload_n 2, 1) := by decide +kernel
theorem dX10_families_130 : decode cX10_families 130 = .ok (.ireturn, 1) := by decide +kernel
theorem dX10_keep_0 : decode cX10_keep 0 = .ok (.aload_n 0, 1) := by decide +kernel
theorem dX10_keep_1 : decode cX10_keep 1 = .ok (.iconst 0, 1) := by decide +kernel
theorem dX10_keep_2 : decode cX10_keep 2 = .ok (.putfield 41, 3) := by decide +kernel
theorem dX10_keep_5 : decode cX10_keep 5 = .ok (.iload_n 1, 1) := by decide +kernel
theorem dX10_keep_6 : decode cX10_keep 6 = .ok (.i2l, 1) := by decide +kernel
theorem dX10_keep_7 : decode cX10_keep 7 = .ok (.lconst 0, 1) := by decide +kernel
theorem dX10_keep_8 : decode cX10_keep 8 = .ok (.lconst 1, 1) := by decide +kernel
theorem dX10_keep_9 : decode cX10_keep 9 = .ok (.invokestatic 45, 3) := by decide +kernel
theorem dX10_keep_12 : decode cX10_keep 12 = .ok (.ifCond .ne 5, 3) := by decide +kernel
theorem dX10_keep_15 : decode cX10_keep 15 = .ok (.iconst (-1), 1) := by decide +kernel
theorem dX10_keep_16 : decode cX10_keep 16 = .ok (.ireturn, 1) := by decide +kernel
theorem dX10_keep_17 : decode cX10_keep 17 = .ok (.aload_n 0, 1) := by decide +kernel
theorem dX10_keep_18 : decode cX10_keep 18 = .ok (.getfield 28, 3) := by decide +kernel
theorem dX10_keep_21 : decode cX10_keep 21 = .ok (.iload_n 1, 1) := by decide +kernel
theorem dX10_keep_22 : decode cX10_keep 22 = .ok (.iconst 1, 1) := by decide +kernel
theorem dX10_keep_23 : decode cX10_keep 23 = .ok (.bastore, 1) := by decide +kernel
theorem dX10_keep_24 : decode cX10_keep 24 = .ok (.iconst 0, 1) := by decide +kernel
theorem dX10_keep_25 : decode cX10_keep 25 = .ok (.istore_n 2, 1) := by decide +kernel
theorem dX10_keep_26 : decode cX10_keep 26 = .ok (.iload_n 2, 1) := by decide +kernel
theorem dX10_keep_27 : decode cX10_keep 27 = .ok (.bipush 22, 2) := by decide +kernel
theorem dX10_keep_29 : decode cX10_keep 29 = .ok (.if_icmp .ge 26, 3) := by decide +kernel
theorem dX10_keep_32 : decode cX10_keep 32 = .ok (.aload_n 0, 1) := by decide +kernel
theorem dX10_keep_33 : decode cX10_keep 33 = .ok (.getfield 25, 3) := by decide +kernel
theorem dX10_keep_36 : decode cX10_keep 36 = .ok (.bipush 22, 2) := by decide +kernel
theorem dX10_keep_38 : decode cX10_keep 38 = .ok (.iload_n 1, 1) := by decide +kernel
theorem dX10_keep_39 : decode cX10_keep 39 = .ok (.imul, 1) := by decide +kernel
theorem dX10_keep_40 : decode cX10_keep 40 = .ok (.iload_n 2, 1) := by decide +kernel
theorem dX10_keep_41 : decode cX10_keep 41 = .ok (.iadd, 1) := by decide +kernel
theorem dX10_keep_42 : decode cX10_keep 42 = .ok (.aload_n 0, 1) := by decide +kernel
theorem dX10_keep_43 : decode cX10_keep 43 = .ok (.getfield 16, 3) := by decide +kernel
theorem dX10_keep_46 : decode cX10_keep 46 = .ok (.iload_n 2, 1) := by decide +kernel
theorem dX10_keep_47 : decode cX10_keep 47 = .ok (.iaload, 1) := by decide +kernel
theorem dX10_keep_48 : decode cX10_keep 48 = .ok (.iastore, 1) := by decide +kernel
theorem dX10_keep_49 : decode cX10_keep 49 = .ok (.iinc 2 1, 3) := by decide +kernel
theorem dX10_keep_52 : decode cX10_keep 52 = .ok (.goto (-26), 3) := by decide +kernel
theorem dX10_keep_55 : decode cX10_keep 55 = .ok (.aload_n 0, 1) := by decide +kernel
theorem dX10_keep_56 : decode cX10_keep 56 = .ok (.getfield 16, 3) := by decide +kernel
theorem dX10_keep_59 : decode cX10_keep 59 = .ok (.iconst 5, 1) := by decide +kernel
theorem dX10_keep_60 : decode cX10_keep 60 = .ok (.iaload, 1) := by decide +kernel
theorem dX10_keep_61 : decode cX10_keep 61 = .ok (.ireturn, 1) := by decide +kernel
theorem dX10_again_0 : decode cX10_again 0 = .ok (.aload_n 0, 1) := by decide +kernel
theorem dX10_again_1 : decode cX10_again 1 = .ok (.iconst 0, 1) := by decide +kernel
theorem dX10_again_2 : decode cX10_again 2 = .ok (.putfield 41, 3) := by decide +kernel
theorem dX10_again_5 : decode cX10_again 5 = .ok (.iload_n 1, 1) := by decide +kernel
theorem dX10_again_6 : decode cX10_again 6 = .ok (.i2l, 1) := by decide +kernel
theorem dX10_again_7 : decode cX10_again 7 = .ok (.lconst 0, 1) := by decide +kernel
theorem dX10_again_8 : decode cX10_again 8 = .ok (.lconst 1, 1) := by decide +kernel
theorem dX10_again_9 : decode cX10_again 9 = .ok (.invokestatic 45, 3) := by decide +kernel
theorem dX10_again_12 : decode cX10_again 12 = .ok (.ifCond .ne 5, 3) := by decide +kernel
theorem dX10_again_15 : decode cX10_again 15 = .ok (.iconst (-1), 1) := by decide +kernel
theorem dX10_again_16 : decode cX10_again 16 = .ok (.ireturn, 1) := by decide +kernel
theorem dX10_again_17 : decode cX10_again 17 = .ok (.aload_n 0, 1) := by decide +kernel
theorem dX10_again_18 : decode cX10_again 18 = .ok (.getfield 28, 3) := by decide +kernel
theorem dX10_again_21 : decode cX10_again 21 = .ok (.iload_n 1, 1) := by decide +kernel
theorem dX10_again_22 : decode cX10_again 22 = .ok (.baload, 1) := by decide +kernel
theorem dX10_again_23 : decode cX10_again 23 = .ok (.ifCond .ne 6, 3) := by decide +kernel
theorem dX10_again_26 : decode cX10_again 26 = .ok (.bipush (-3), 2) := by decide +kernel
theorem dX10_again_28 : decode cX10_again 28 = .ok (.ireturn, 1) := by decide +kernel
theorem dX10_again_29 : decode cX10_again 29 = .ok (.iconst 0, 1) := by decide +kernel
theorem dX10_again_30 : decode cX10_again 30 = .ok (.istore_n 2, 1) := by decide +kernel
theorem dX10_again_31 : decode cX10_again 31 = .ok (.iload_n 2, 1) := by decide +kernel
theorem dX10_again_32 : decode cX10_again 32 = .ok (.bipush 22, 2) := by decide +kernel
theorem dX10_again_34 : decode cX10_again 34 = .ok (.if_icmp .ge 26, 3) := by decide +kernel
theorem dX10_again_37 : decode cX10_again 37 = .ok (.aload_n 0, 1) := by decide +kernel
theorem dX10_again_38 : decode cX10_again 38 = .ok (.getfield 16, 3) := by decide +kernel
theorem dX10_again_41 : decode cX10_again 41 = .ok (.iload_n 2, 1) := by decide +kernel
theorem dX10_again_42 : decode cX10_again 42 = .ok (.aload_n 0, 1) := by decide +kernel
theorem dX10_again_43 : decode cX10_again 43 = .ok (.getfield 25, 3) := by decide +kernel
theorem dX10_again_46 : decode cX10_again 46 = .ok (.bipush 22, 2) := by decide +kernel
theorem dX10_again_48 : decode cX10_again 48 = .ok (.iload_n 1, 1) := by decide +kernel
theorem dX10_again_49 : decode cX10_again 49 = .ok (.imul, 1) := by decide +kernel
theorem dX10_again_50 : decode cX10_again 50 = .ok (.iload_n 2, 1) := by decide +kernel
theorem dX10_again_51 : decode cX10_again 51 = .ok (.iadd, 1) := by decide +kernel
theorem dX10_again_52 : decode cX10_again 52 = .ok (.iaload, 1) := by decide +kernel
theorem dX10_again_53 : decode cX10_again 53 = .ok (.iastore, 1) := by decide +kernel
theorem dX10_again_54 : decode cX10_again 54 = .ok (.iinc 2 1, 3) := by decide +kernel
theorem dX10_again_57 : decode cX10_again 57 = .ok (.goto (-26), 3) := by decide +kernel
theorem dX10_again_60 : decode cX10_again 60 = .ok (.aload_n 0, 1) := by decide +kernel
theorem dX10_again_61 : decode cX10_again 61 = .ok (.iconst 0, 1) := by decide +kernel
theorem dX10_again_62 : decode cX10_again 62 = .ok (.putfield 79, 3) := by decide +kernel
theorem dX10_again_65 : decode cX10_again 65 = .ok (.aload_n 0, 1) := by decide +kernel
theorem dX10_again_66 : decode cX10_again 66 = .ok (.getfield 16, 3) := by decide +kernel
theorem dX10_again_69 : decode cX10_again 69 = .ok (.iconst 5, 1) := by decide +kernel
theorem dX10_again_70 : decode cX10_again 70 = .ok (.iaload, 1) := by decide +kernel
theorem dX10_again_71 : decode cX10_again 71 = .ok (.ireturn, 1) := by decide +kernel
theorem dJ6_bitCount_0f7a4_0 : decode cJ6_bitCount_0f7a4 0 = .ok (.iload_n 0, 1) := by decide +kernel
theorem dJ6_bitCount_0f7a4_1 : decode cJ6_bitCount_0f7a4 1 = .ok (.iload_n 0, 1) := by decide +kernel
theorem dJ6_bitCount_0f7a4_2 : decode cJ6_bitCount_0f7a4 2 = .ok (.iconst 1, 1) := by decide +kernel
theorem dJ6_bitCount_0f7a4_3 : decode cJ6_bitCount_0f7a4 3 = .ok (.iushr, 1) := by decide +kernel
theorem dJ6_bitCount_0f7a4_4 : decode cJ6_bitCount_0f7a4 4 = .ok (.ldc_w 265, 3) := by decide +kernel
theorem dJ6_bitCount_0f7a4_7 : decode cJ6_bitCount_0f7a4 7 = .ok (.iand, 1) := by decide +kernel
theorem dJ6_bitCount_0f7a4_8 : decode cJ6_bitCount_0f7a4 8 = .ok (.isub, 1) := by decide +kernel
theorem dJ6_bitCount_0f7a4_9 : decode cJ6_bitCount_0f7a4 9 = .ok (.istore_n 0, 1) := by decide +kernel
theorem dJ6_bitCount_0f7a4_10 : decode cJ6_bitCount_0f7a4 10 = .ok (.iload_n 0, 1) := by decide +kernel
theorem dJ6_bitCount_0f7a4_11 : decode cJ6_bitCount_0f7a4 11 = .ok (.ldc_w 266, 3) := by decide +kernel
theorem dJ6_bitCount_0f7a4_14 : decode cJ6_bitCount_0f7a4 14 = .ok (.iand, 1) := by decide +kernel
theorem dJ6_bitCount_0f7a4_15 : decode cJ6_bitCount_0f7a4 15 = .ok (.iload_n 0, 1) := by decide +kernel
theorem dJ6_bitCount_0f7a4_16 : decode cJ6_bitCount_0f7a4 16 = .ok (.iconst 2, 1) := by decide +kernel
theorem dJ6_bitCount_0f7a4_17 : decode cJ6_bitCount_0f7a4 17 = .ok (.iushr, 1) := by decide +kernel
theorem dJ6_bitCount_0f7a4_18 : decode cJ6_bitCount_0f7a4 18 = .ok (.ldc_w 266, 3) := by decide +kernel
theorem dJ6_bitCount_0f7a4_21 : decode cJ6_bitCount_0f7a4 21 = .ok (.iand, 1) := by decide +kernel
theorem dJ6_bitCount_0f7a4_22 : decode cJ6_bitCount_0f7a4 22 = .ok (.iadd, 1) := by decide +kernel
theorem dJ6_bitCount_0f7a4_23 : decode cJ6_bitCount_0f7a4 23 = .ok (.istore_n 0, 1) := by decide +kernel
theorem dJ6_bitCount_0f7a4_24 : decode cJ6_bitCount_0f7a4 24 = .ok (.iload_n 0, 1) := by decide +kernel
theorem dJ6_bitCount_0f7a4_25 : decode cJ6_bitCount_0f7a4 25 = .ok (.iload_n 0, 1) := by decide +kernel
theorem dJ6_bitCount_0f7a4_26 : decode cJ6_bitCount_0f7a4 26 = .ok (.iconst 4, 1) := by decide +kernel
theorem dJ6_bitCount_0f7a4_27 : decode cJ6_bitCount_0f7a4 27 = .ok (.iushr, 1) := by decide +kernel
theorem dJ6_bitCount_0f7a4_28 : decode cJ6_bitCount_0f7a4 28 = .ok (.iadd, 1) := by decide +kernel
theorem dJ6_bitCount_0f7a4_29 : decode cJ6_bitCount_0f7a4 29 = .ok (.ldc_w 267, 3) := by decide +kernel
theorem dJ6_bitCount_0f7a4_32 : decode cJ6_bitCount_0f7a4 32 = .ok (.iand, 1) := by decide +kernel
theorem dJ6_bitCount_0f7a4_33 : decode cJ6_bitCount_0f7a4 33 = .ok (.istore_n 0, 1) := by decide +kernel
theorem dJ6_bitCount_0f7a4_34 : decode cJ6_bitCount_0f7a4 34 = .ok (.iload_n 0, 1) := by decide +kernel
theorem dJ6_bitCount_0f7a4_35 : decode cJ6_bitCount_0f7a4 35 = .ok (.iload_n 0, 1) := by decide +kernel
theorem dJ6_bitCount_0f7a4_36 : decode cJ6_bitCount_0f7a4 36 = .ok (.bipush 8, 2) := by decide +kernel
theorem dJ6_bitCount_0f7a4_38 : decode cJ6_bitCount_0f7a4 38 = .ok (.iushr, 1) := by decide +kernel
theorem dJ6_bitCount_0f7a4_39 : decode cJ6_bitCount_0f7a4 39 = .ok (.iadd, 1) := by decide +kernel
theorem dJ6_bitCount_0f7a4_40 : decode cJ6_bitCount_0f7a4 40 = .ok (.istore_n 0, 1) := by decide +kernel
theorem dJ6_bitCount_0f7a4_41 : decode cJ6_bitCount_0f7a4 41 = .ok (.iload_n 0, 1) := by decide +kernel
theorem dJ6_bitCount_0f7a4_42 : decode cJ6_bitCount_0f7a4 42 = .ok (.iload_n 0, 1) := by decide +kernel
theorem dJ6_bitCount_0f7a4_43 : decode cJ6_bitCount_0f7a4 43 = .ok (.bipush 16, 2) := by decide +kernel
theorem dJ6_bitCount_0f7a4_45 : decode cJ6_bitCount_0f7a4 45 = .ok (.iushr, 1) := by decide +kernel
theorem dJ6_bitCount_0f7a4_46 : decode cJ6_bitCount_0f7a4 46 = .ok (.iadd, 1) := by decide +kernel
theorem dJ6_bitCount_0f7a4_47 : decode cJ6_bitCount_0f7a4 47 = .ok (.istore_n 0, 1) := by decide +kernel
theorem dJ6_bitCount_0f7a4_48 : decode cJ6_bitCount_0f7a4 48 = .ok (.iload_n 0, 1) := by decide +kernel
theorem dJ6_bitCount_0f7a4_49 : decode cJ6_bitCount_0f7a4 49 = .ok (.bipush 63, 2) := by decide +kernel
theorem dJ6_bitCount_0f7a4_51 : decode cJ6_bitCount_0f7a4 51 = .ok (.iand, 1) := by decide +kernel
theorem dJ6_bitCount_0f7a4_52 : decode cJ6_bitCount_0f7a4 52 = .ok (.ireturn, 1) := by decide +kernel
theorem dJ9_max_7cf53_0 : decode cJ9_max_7cf53 0 = .ok (.iload_n 0, 1) := by decide +kernel
theorem dJ9_max_7cf53_1 : decode cJ9_max_7cf53 1 = .ok (.iload_n 1, 1) := by decide +kernel
theorem dJ9_max_7cf53_2 : decode cJ9_max_7cf53 2 = .ok (.if_icmp .lt 7, 3) := by decide +kernel
theorem dJ9_max_7cf53_5 : decode cJ9_max_7cf53 5 = .ok (.iload_n 0, 1) := by decide +kernel
theorem dJ9_max_7cf53_6 : decode cJ9_max_7cf53 6 = .ok (.goto 4, 3) := by decide +kernel
theorem dJ9_max_7cf53_9 : decode cJ9_max_7cf53 9 = .ok (.iload_n 1, 1) := by decide +kernel
theorem dJ9_max_7cf53_10 : decode cJ9_max_7cf53 10 = .ok (.ireturn, 1) := by decide +kernel
theorem dJ9_min_7cf53_0 : decode cJ9_min_7cf53 0 = .ok (.iload_n 0, 1) := by decide +kernel
theorem dJ9_min_7cf53_1 : decode cJ9_min_7cf53 1 = .ok (.iload_n 1, 1) := by decide +kernel
theorem dJ9_min_7cf53_2 : decode cJ9_min_7cf53 2 = .ok (.if_icmp .gt 7, 3) := by decide +kernel
theorem dJ9_min_7cf53_5 : decode cJ9_min_7cf53 5 = .ok (.iload_n 0, 1) := by decide +kernel
theorem dJ9_min_7cf53_6 : decode cJ9_min_7cf53 6 = .ok (.goto 4, 3) := by decide +kernel
theorem dJ9_min_7cf53_9 : decode cJ9_min_7cf53 9 = .ok (.iload_n 1, 1) := by decide +kernel
theorem dJ9_min_7cf53_10 : decode cJ9_min_7cf53 10 = .ok (.ireturn, 1) := by decide +kernel
theorem dJ7_fill_53178_0 : decode cJ7_fill_53178 0 = .ok (.iconst 0, 1) := by decide +kernel
theorem dJ7_fill_53178_1 : decode cJ7_fill_53178 1 = .ok (.istore_n 2, 1) := by decide +kernel
theorem dJ7_fill_53178_2 : decode cJ7_fill_53178 2 = .ok (.aload_n 0, 1) := by decide +kernel
theorem dJ7_fill_53178_3 : decode cJ7_fill_53178 3 = .ok (.arraylength, 1) := by decide +kernel
theorem dJ7_fill_53178_4 : decode cJ7_fill_53178 4 = .ok (.istore_n 3, 1) := by decide +kernel
theorem dJ7_fill_53178_5 : decode cJ7_fill_53178 5 = .ok (.iload_n 2, 1) := by decide +kernel
theorem dJ7_fill_53178_6 : decode cJ7_fill_53178 6 = .ok (.iload_n 3, 1) := by decide +kernel
theorem dJ7_fill_53178_7 : decode cJ7_fill_53178 7 = .ok (.if_icmp .ge 13, 3) := by decide +kernel
theorem dJ7_fill_53178_10 : decode cJ7_fill_53178 10 = .ok (.aload_n 0, 1) := by decide +kernel
theorem dJ7_fill_53178_11 : decode cJ7_fill_53178 11 = .ok (.iload_n 2, 1) := by decide +kernel
theorem dJ7_fill_53178_12 : decode cJ7_fill_53178 12 = .ok (.iload_n 1, 1) := by decide +kernel
theorem dJ7_fill_53178_13 : decode cJ7_fill_53178 13 = .ok (.iastore, 1) := by decide +kernel
theorem dJ7_fill_53178_14 : decode cJ7_fill_53178 14 = .ok (.iinc 2 1, 3) := by decide +kernel
theorem dJ7_fill_53178_17 : decode cJ7_fill_53178 17 = .ok (.goto (-12), 3) := by decide +kernel
theorem dJ7_fill_53178_20 : decode cJ7_fill_53178 20 = .ok (.return_, 1) := by decide +kernel
theorem dL_law_0 : decode cL_law 0 = .ok (.new 7, 3) := by decide +kernel
theorem dL_law_3 : decode cL_law 3 = .ok (.dup, 1) := by decide +kernel
theorem dL_law_4 : decode cL_law 4 = .ok (.invokespecial 9, 3) := by decide +kernel
theorem dL_law_7 : decode cL_law 7 = .ok (.astore_n 1, 1) := by decide +kernel
theorem dL_law_8 : decode cL_law 8 = .ok (.new 10, 3) := by decide +kernel
theorem dL_law_11 : decode cL_law 11 = .ok (.dup, 1) := by decide +kernel
theorem dL_law_12 : decode cL_law 12 = .ok (.invokespecial 12, 3) := by decide +kernel
theorem dL_law_15 : decode cL_law 15 = .ok (.astore_n 2, 1) := by decide +kernel
theorem dL_law_16 : decode cL_law 16 = .ok (.iconst 0, 1) := by decide +kernel
theorem dL_law_17 : decode cL_law 17 = .ok (.istore_n 3, 1) := by decide +kernel
theorem dL_law_18 : decode cL_law 18 = .ok (.iload_n 3, 1) := by decide +kernel
theorem dL_law_19 : decode cL_law 19 = .ok (.aload_n 0, 1) := by decide +kernel
theorem dL_law_20 : decode cL_law 20 = .ok (.arraylength, 1) := by decide +kernel
theorem dL_law_21 : decode cL_law 21 = .ok (.iconst 4, 1) := by decide +kernel
theorem dL_law_22 : decode cL_law 22 = .ok (.isub, 1) := by decide +kernel
theorem dL_law_23 : decode cL_law 23 = .ok (.if_icmp .gt 908, 3) := by decide +kernel
theorem dL_law_26 : decode cL_law 26 = .ok (.aload_n 0, 1) := by decide +kernel
theorem dL_law_27 : decode cL_law 27 = .ok (.iload_n 3, 1) := by decide +kernel
theorem dL_law_28 : decode cL_law 28 = .ok (.iaload, 1) := by decide +kernel
theorem dL_law_29 : decode cL_law 29 = .ok (.bipush 31, 2) := by decide +kernel
theorem dL_law_31 : decode cL_law 31 = .ok (.iand, 1) := by decide +kernel
theorem dL_law_32 : decode cL_law 32 = .ok (.tableswitch 893 0 25 #[120, 143, 156, 169, 182, 205, 238, 261, 294, 317, 340, 363, 376, 389, 422, 465, 488, 511, 586, 629, 662, 711, 770, 824, 847, 870], 120) := by decide +kernel
theorem dL_law_152 : decode cL_law 152 = .ok (.aload_n 1, 1) := by decide +kernel
theorem dL_law_153 : decode cL_law 153 = .ok (.aload_n 0, 1) := by decide +kernel
theorem dL_law_154 : decode cL_law 154 = .ok (.iload_n 3, 1) := by decide +kernel
theorem dL_law_155 : decode cL_law 155 = .ok (.iconst 1, 1) := by decide +kernel
theorem dL_law_156 : decode cL_law 156 = .ok (.iadd, 1) := by decide +kernel
theorem dL_law_157 : decode cL_law 157 = .ok (.iaload, 1) := by decide +kernel
theorem dL_law_158 : decode cL_law 158 = .ok (.invokevirtual 13, 3) := by decide +kernel
theorem dL_law_161 : decode cL_law 161 = .ok (.aload_n 2, 1) := by decide +kernel
theorem dL_law_162 : decode cL_law 162 = .ok (.aload_n 0, 1) := by decide +kernel
theorem dL_law_163 : decode cL_law 163 = .ok (.iload_n 3, 1) := by decide +kernel
theorem dL_law_164 : decode cL_law 164 = .ok (.iconst 1, 1) := by decide +kernel
theorem dL_law_165 : decode cL_law 165 = .ok (.iadd, 1) := by decide +kernel
theorem dL_law_166 : decode cL_law 166 = .ok (.iaload, 1) := by decide +kernel
theorem dL_law_167 : decode cL_law 167 = .ok (.invokevirtual 17, 3) := by decide +kernel
theorem dL_law_170 : decode cL_law 170 = .ok (.if_icmp .eq 755, 3) := by decide +kernel
theorem dL_law_173 : decode cL_law 173 = .ok (.iconst 0, 1) := by decide +kernel
theorem dL_law_174 : decode cL_law 174 = .ok (.ireturn, 1) := by decide +kernel
theorem dL_law_175 : decode cL_law 175 = .ok (.aload_n 1, 1) := by decide +kernel
theorem dL_law_176 : decode cL_law 176 = .ok (.invokevirtual 18, 3) := by decide +kernel
theorem dL_law_179 : decode cL_law 179 = .ok (.aload_n 2, 1) := by decide +kernel
theorem dL_law_180 : decode cL_law 180 = .ok (.invokevirtual 22, 3) := by decide +kernel
theorem dL_law_183 : decode cL_law 183 = .ok (.if_icmp .eq 742, 3) := by decide +kernel
theorem dL_law_186 : decode cL_law 186 = .ok (.iconst 0, 1) := by decide +kernel
theorem dL_law_187 : decode cL_law 187 = .ok (.ireturn, 1) := by decide +kernel
theorem dL_law_188 : decode cL_law 188 = .ok (.aload_n 1, 1) := by decide +kernel
theorem dL_law_189 : decode cL_law 189 = .ok (.invokevirtual 23, 3) := by decide +kernel
theorem dL_law_192 : decode cL_law 192 = .ok (.aload_n 2, 1) := by decide +kernel
theorem dL_law_193 : decode cL_law 193 = .ok (.invokevirtual 26, 3) := by decide +kernel
theorem dL_law_196 : decode cL_law 196 = .ok (.if_icmp .eq 729, 3) := by decide +kernel
theorem dL_law_199 : decode cL_law 199 = .ok (.iconst 0, 1) := by decide +kernel
theorem dL_law_200 : decode cL_law 200 = .ok (.ireturn, 1) := by decide +kernel
theorem dL_law_201 : decode cL_law 201 = .ok (.aload_n 1, 1) := by decide +kernel
theorem dL_law_202 : decode cL_law 202 = .ok (.invokevirtual 27, 3) := by decide +kernel
theorem dL_law_205 : decode cL_law 205 = .ok (.aload_n 2, 1) := by decide +kernel
theorem dL_law_206 : decode cL_law 206 = .ok (.invokevirtual 30, 3) := by decide +kernel
theorem dL_law_209 : decode cL_law 209 = .ok (.if_icmp .eq 716, 3) := by decide +kernel
theorem dL_law_212 : decode cL_law 212 = .ok (.iconst 0, 1) := by decide +kernel
theorem dL_law_213 : decode cL_law 213 = .ok (.ireturn, 1) := by decide +kernel
theorem dL_law_214 : decode cL_law 214 = .ok (.aload_n 1, 1) := by decide +kernel
theorem dL_law_215 : decode cL_law 215 = .ok (.aload_n 0, 1) := by decide +kernel
theorem dL_law_216 : decode cL_law 216 = .ok (.iload_n 3, 1) := by decide +kernel
theorem dL_law_217 : decode cL_law 217 = .ok (.iconst 1, 1) := by decide +kernel
theorem dL_law_218 : decode cL_law 218 = .ok (.iadd, 1) := by decide +kernel
theorem dL_law_219 : decode cL_law 219 = .ok (.iaload, 1) := by decide +kernel
theorem dL_law_220 : decode cL_law 220 = .ok (.invokevirtual 31, 3) := by decide +kernel
theorem dL_law_223 : decode cL_law 223 = .ok (.aload_n 2, 1) := by decide +kernel
theorem dL_law_224 : decode cL_law 224 = .ok (.aload_n 0, 1) := by decide +kernel
theorem dL_law_225 : decode cL_law 225 = .ok (.iload_n 3, 1) := by decide +kernel
theorem dL_law_226 : decode cL_law 226 = .ok (.iconst 1, 1) := by decide +kernel
theorem dL_law_227 : decode cL_law 227 = .ok (.iadd, 1) := by decide +kernel
theorem dL_law_228 : decode cL_law 228 = .ok (.iaload, 1) := by decide +kernel
theorem dL_law_229 : decode cL_law 229 = .ok (.invokevirtual 34, 3) := by decide +kernel
theorem dL_law_232 : decode cL_law 232 = .ok (.if_icmp .eq 693, 3) := by decide +kernel
theorem dL_law_235 : decode cL_law 235 = .ok (.iconst 0, 1) := by decide +kernel
theorem dL_law_236 : decode cL_law 236 = .ok (.ireturn, 1) := by decide +kernel
theorem dL_law_237 : decode cL_law 237 = .ok (.aload_n 1, 1) := by decide +kernel
theorem dL_law_238 : decode cL_law 238 = .ok (.aload_n 0, 1) := by decide +kernel
theorem dL_law_239 : decode cL_law 239 = .ok (.iload_n 3, 1) := by decide +kernel
theorem dL_law_240 : decode cL_law 240 = .ok (.iconst 1, 1) := by decide +kernel
theorem dL_law_241 : decode cL_law 241 = .ok (.iadd, 1) := by decide +kernel
theorem dL_law_242 : decode cL_law 242 = .ok (.iaload, 1) := by decide +kernel
theorem dL_law_243 : decode cL_law 243 = .ok (.aload_n 0, 1) := by decide +kernel
theorem dL_law_244 : decode cL_law 244 = .ok (.iload_n 3, 1) := by decide +kernel
theorem dL_law_245 : decode cL_law 245 = .ok (.iconst 2, 1) := by decide +kernel
theorem dL_law_246 : decode cL_law 246 = .ok (.iadd, 1) := by decide +kernel
theorem dL_law_247 : decode cL_law 247 = .ok (.iaload, 1) := by decide +kernel
theorem dL_law_248 : decode cL_law 248 = .ok (.invokevirtual 35, 3) := by decide +kernel
theorem dL_law_251 : decode cL_law 251 = .ok (.aload_n 2, 1) := by decide +kernel
theorem dL_law_252 : decode cL_law 252 = .ok (.aload_n 0, 1) := by decide +kernel
theorem dL_law_253 : decode cL_law 253 = .ok (.iload_n 3, 1) := by decide +kernel
theorem dL_law_254 : decode cL_law 254 = .ok (.iconst 1, 1) := by decide +kernel
theorem dL_law_255 : decode cL_law 255 = .ok (.iadd, 1) := by decide +kernel
theorem dL_law_256 : decode cL_law 256 = .ok (.iaload, 1) := by decide +kernel
theorem dL_law_257 : decode cL_law 257 = .ok (.aload_n 0, 1) := by decide +kernel
theorem dL_law_258 : decode cL_law 258 = .ok (.iload_n 3, 1) := by decide +kernel
theorem dL_law_259 : decode cL_law 259 = .ok (.iconst 2, 1) := by decide +kernel
theorem dL_law_260 : decode cL_law 260 = .ok (.iadd, 1) := by decide +kernel
theorem dL_law_261 : decode cL_law 261 = .ok (.iaload, 1) := by decide +kernel
theorem dL_law_262 : decode cL_law 262 = .ok (.invokevirtual 39, 3) := by decide +kernel
theorem dL_law_265 : decode cL_law 265 = .ok (.if_icmp .eq 660, 3) := by decide +kernel
theorem dL_law_268 : decode cL_law 268 = .ok (.iconst 0, 1) := by decide +kernel
theorem dL_law_269 : decode cL_law 269 = .ok (.ireturn, 1) := by decide +kernel
theorem dL_law_270 : decode cL_law 270 = .ok (.aload_n 1, 1) := by decide +kernel
theorem dL_law_271 : decode cL_law 271 = .ok (.aload_n 0, 1) := by decide +kernel
theorem dL_law_272 : decode cL_law 272 = .ok (.iload_n 3, 1) := by decide +kernel
theorem dL_law_273 : decode cL_law 273 = .ok (.iconst 1, 1) := by decide +kernel
theorem dL_law_274 : decode cL_law 274 = .ok (.iadd, 1) := by decide +kernel
theorem dL_law_275 : decode cL_law 275 = .ok (.iaload, 1) := by decide +kernel
theorem dL_law_276 : decode cL_law 276 = .ok (.invokevirtual 40, 3) := by decide +kernel
theorem dL_law_279 : decode cL_law 279 = .ok (.aload_n 2, 1) := by decide +kernel
theorem dL_law_280 : decode cL_law 280 = .ok (.aload_n 0, 1) := by decide +kernel
theorem dL_law_281 : decode cL_law 281 = .ok (.iload_n 3, 1) := by decide +kernel
theorem dL_law_282 : decode cL_law 282 = .ok (.iconst 1, 1) := by decide +kernel
theorem dL_law_283 : decode cL_law 283 = .ok (.iadd, 1) := by decide +kernel
theorem dL_law_284 : decode cL_law 284 = .ok (.iaload, 1) := by decide +kernel
theorem dL_law_285 : decode cL_law 285 = .ok (.invokevirtual 43, 3) := by decide +kernel
theorem dL_law_288 : decode cL_law 288 = .ok (.if_icmp .eq 637, 3) := by decide +kernel
theorem dL_law_291 : decode cL_law 291 = .ok (.iconst 0, 1) := by decide +kernel
theorem dL_law_292 : decode cL_law 292 = .ok (.ireturn, 1) := by decide +kernel
theorem dL_law_293 : decode cL_law 293 = .ok (.aload_n 1, 1) := by decide +kernel
theorem dL_law_294 : decode cL_law 294 = .ok (.aload_n 0, 1) := by decide +kernel
theorem dL_law_295 : decode cL_law 295 = .ok (.iload_n 3, 1) := by decide +kernel
theorem dL_law_296 : decode cL_law 296 = .ok (.iconst 1, 1) := by decide +kernel
theorem dL_law_297 : decode cL_law 297 = .ok (.iadd, 1) := by decide +kernel
theorem dL_law_298 : decode cL_law 298 = .ok (.iaload, 1) := by decide +kernel
theorem dL_law_299 : decode cL_law 299 = .ok (.aload_n 0, 1) := by decide +kernel
theorem dL_law_300 : decode cL_law 300 = .ok (.iload_n 3, 1) := by decide +kernel
theorem dL_law_301 : decode cL_law 301 = .ok (.iconst 2, 1) := by decide +kernel
theorem dL_law_302 : decode cL_law 302 = .ok (.iadd, 1) := by decide +kernel
theorem dL_law_303 : decode cL_law 303 = .ok (.iaload, 1) := by decide +kernel
theorem dL_law_304 : decode cL_law 304 = .ok (.invokevirtual 44, 3) := by decide +kernel
theorem dL_law_307 : decode cL_law 307 = .ok (.aload_n 2, 1) := by decide +kernel
theorem dL_law_308 : decode cL_law 308 = .ok (.aload_n 0, 1) := by decide +kernel
theorem dL_law_309 : decode cL_law 309 = .ok (.iload_n 3, 1) := by decide +kernel
theorem dL_law_310 : decode cL_law 310 = .ok (.iconst 1, 1) := by decide +kernel
theorem dL_law_311 : decode cL_law 311 = .ok (.iadd, 1) := by decide +kernel
theorem dL_law_312 : decode cL_law 312 = .ok (.iaload, 1) := by decide +kernel
theorem dL_law_313 : decode cL_law 313 = .ok (.aload_n 0, 1) := by decide +kernel
theorem dL_law_314 : decode cL_law 314 = .ok (.iload_n 3, 1) := by decide +kernel
theorem dL_law_315 : decode cL_law 315 = .ok (.iconst 2, 1) := by decide +kernel
theorem dL_law_316 : decode cL_law 316 = .ok (.iadd, 1) := by decide +kernel
theorem dL_law_317 : decode cL_law 317 = .ok (.iaload, 1) := by decide +kernel
theorem dL_law_318 : decode cL_law 318 = .ok (.invokevirtual 47, 3) := by decide +kernel
theorem dL_law_321 : decode cL_law 321 = .ok (.if_icmp .eq 604, 3) := by decide +kernel
theorem dL_law_324 : decode cL_law 324 = .ok (.iconst 0, 1) := by decide +kernel
theorem dL_law_325 : decode cL_law 325 = .ok (.ireturn, 1) := by decide +kernel
theorem dL_law_326 : decode cL_law 326 = .ok (.aload_n 1, 1) := by decide +kernel
theorem dL_law_327 : decode cL_law 327 = .ok (.aload_n 0, 1) := by decide +kernel
theorem dL_law_328 : decode cL_law 328 = .ok (.iload_n 3, 1) := by decide +kernel
theorem dL_law_329 : decode cL_law 329 = .ok (.iconst 1, 1) := by decide +kernel
theorem dL_law_330 : decode cL_law 330 = .ok (.iadd, 1) := by decide +kernel
theorem dL_law_331 : decode cL_law 331 = .ok (.iaload, 1) := by decide +kernel
theorem dL_law_332 : decode cL_law 332 = .ok (.invokevirtual 48, 3) := by decide +kernel
theorem dL_law_335 : decode cL_law 335 = .ok (.aload_n 2, 1) := by decide +kernel
theorem dL_law_336 : decode cL_law 336 = .ok (.aload_n 0, 1) := by decide +kernel
theorem dL_law_337 : decode cL_law 337 = .ok (.iload_n 3, 1) := by decide +kernel
theorem dL_law_338 : decode cL_law 338 = .ok (.iconst 1, 1) := by decide +kernel
theorem dL_law_339 : decode cL_law 339 = .ok (.iadd, 1) := by decide +kernel
theorem dL_law_340 : decode cL_law 340 = .ok (.iaload, 1) := by decide +kernel
theorem dL_law_341 : decode cL_law 341 = .ok (.invokevirtual 51, 3) := by decide +kernel
theorem dL_law_344 : decode cL_law 344 = .ok (.if_icmp .eq 581, 3) := by decide +kernel
theorem dL_law_347 : decode cL_law 347 = .ok (.iconst 0, 1) := by decide +kernel
theorem dL_law_348 : decode cL_law 348 = .ok (.ireturn, 1) := by decide +kernel
theorem dL_law_349 : decode cL_law 349 = .ok (.aload_n 1, 1) := by decide +kernel
theorem dL_law_350 : decode cL_law 350 = .ok (.aload_n 0, 1) := by decide +kernel
theorem dL_law_351 : decode cL_law 351 = .ok (.iload_n 3, 1) := by decide +kernel
theorem dL_law_352 : decode cL_law 352 = .ok (.iconst 1, 1) := by decide +kernel
theorem dL_law_353 : decode cL_law 353 = .ok (.iadd, 1) := by decide +kernel
theorem dL_law_354 : decode cL_law 354 = .ok (.iaload, 1) := by decide +kernel
theorem dL_law_355 : decode cL_law 355 = .ok (.invokevirtual 52, 3) := by decide +kernel
theorem dL_law_358 : decode cL_law 358 = .ok (.aload_n 2, 1) := by decide +kernel
theorem dL_law_359 : decode cL_law 359 = .ok (.aload_n 0, 1) := by decide +kernel
theorem dL_law_360 : decode cL_law 360 = .ok (.iload_n 3, 1) := by decide +kernel
theorem dL_law_361 : decode cL_law 361 = .ok (.iconst 1, 1) := by decide +kernel
theorem dL_law_362 : decode cL_law 362 = .ok (.iadd, 1) := by decide +kernel
theorem dL_law_363 : decode cL_law 363 = .ok (.iaload, 1) := by decide +kernel
theorem dL_law_364 : decode cL_law 364 = .ok (.invokevirtual 55, 3) := by decide +kernel
theorem dL_law_367 : decode cL_law 367 = .ok (.if_icmp .eq 558, 3) := by decide +kernel
theorem dL_law_370 : decode cL_law 370 = .ok (.iconst 0, 1) := by decide +kernel
theorem dL_law_371 : decode cL_law 371 = .ok (.ireturn, 1) := by decide +kernel
theorem dL_law_372 : decode cL_law 372 = .ok (.aload_n 1, 1) := by decide +kernel
theorem dL_law_373 : decode cL_law 373 = .ok (.aload_n 0, 1) := by decide +kernel
theorem dL_law_374 : decode cL_law 374 = .ok (.iload_n 3, 1) := by decide +kernel
theorem dL_law_375 : decode cL_law 375 = .ok (.iconst 1, 1) := by decide +kernel
theorem dL_law_376 : decode cL_law 376 = .ok (.iadd, 1) := by decide +kernel
theorem dL_law_377 : decode cL_law 377 = .ok (.iaload, 1) := by decide +kernel
theorem dL_law_378 : decode cL_law 378 = .ok (.invokevirtual 56, 3) := by decide +kernel
theorem dL_law_381 : decode cL_law 381 = .ok (.aload_n 2, 1) := by decide +kernel
theorem dL_law_382 : decode cL_law 382 = .ok (.aload_n 0, 1) := by decide +kernel
theorem dL_law_383 : decode cL_law 383 = .ok (.iload_n 3, 1) := by decide +kernel
theorem dL_law_384 : decode cL_law 384 = .ok (.iconst 1, 1) := by decide +kernel
theorem dL_law_385 : decode cL_law 385 = .ok (.iadd, 1) := by decide +kernel
theorem dL_law_386 : decode cL_law 386 = .ok (.iaload, 1) := by decide +kernel
theorem dL_law_387 : decode cL_law 387 = .ok (.invokevirtual 59, 3) := by decide +kernel
theorem dL_law_390 : decode cL_law 390 = .ok (.if_icmp .eq 535, 3) := by decide +kernel
theorem dL_law_393 : decode cL_law 393 = .ok (.iconst 0, 1) := by decide +kernel
theorem dL_law_394 : decode cL_law 394 = .ok (.ireturn, 1) := by decide +kernel
theorem dL_law_395 : decode cL_law 395 = .ok (.aload_n 1, 1) := by decide +kernel
theorem dL_law_396 : decode cL_law 396 = .ok (.invokevirtual 60, 3) := by decide +kernel
theorem dL_law_399 : decode cL_law 399 = .ok (.aload_n 2, 1) := by decide +kernel
theorem dL_law_400 : decode cL_law 400 = .ok (.invokevirtual 63, 3) := by decide +kernel
theorem dL_law_403 : decode cL_law 403 = .ok (.if_icmp .eq 522, 3) := by decide +kernel
theorem dL_law_406 : decode cL_law 406 = .ok (.iconst 0, 1) := by decide +kernel
theorem dL_law_407 : decode cL_law 407 = .ok (.ireturn, 1) := by decide +kernel
theorem dL_law_408 : decode cL_law 408 = .ok (.aload_n 1, 1) := by decide +kernel
theorem dL_law_409 : decode cL_law 409 = .ok (.invokevirtual 64, 3) := by decide +kernel
theorem dL_law_412 : decode cL_law 412 = .ok (.aload_n 2, 1) := by decide +kernel
theorem dL_law_413 : decode cL_law 413 = .ok (.invokevirtual 67, 3) := by decide +kernel
theorem dL_law_416 : decode cL_law 416 = .ok (.if_icmp .eq 509, 3) := by decide +kernel
theorem dL_law_419 : decode cL_law 419 = .ok (.iconst 0, 1) := by decide +kernel
theorem dL_law_420 : decode cL_law 420 = .ok (.ireturn, 1) := by decide +kernel
theorem dL_law_421 : decode cL_law 421 = .ok (.aload_n 1, 1) := by decide +kernel
theorem dL_law_422 : decode cL_law 422 = .ok (.aload_n 0, 1) := by decide +kernel
theorem dL_law_423 : decode cL_law 423 = .ok (.iload_n 3, 1) := by decide +kernel
theorem dL_law_424 : decode cL_law 424 = .ok (.iconst 1, 1) := by decide +kernel
theorem dL_law_425 : decode cL_law 425 = .ok (.iadd, 1) := by decide +kernel
theorem dL_law_426 : decode cL_law 426 = .ok (.iaload, 1) := by decide +kernel
theorem dL_law_427 : decode cL_law 427 = .ok (.aload_n 0, 1) := by decide +kernel
theorem dL_law_428 : decode cL_law 428 = .ok (.iload_n 3, 1) := by decide +kernel
theorem dL_law_429 : decode cL_law 429 = .ok (.iconst 2, 1) := by decide +kernel
theorem dL_law_430 : decode cL_law 430 = .ok (.iadd, 1) := by decide +kernel
theorem dL_law_431 : decode cL_law 431 = .ok (.iaload, 1) := by decide +kernel
theorem dL_law_432 : decode cL_law 432 = .ok (.invokevirtual 68, 3) := by decide +kernel
theorem dL_law_435 : decode cL_law 435 = .ok (.aload_n 2, 1) := by decide +kernel
theorem dL_law_436 : decode cL_law 436 = .ok (.aload_n 0, 1) := by decide +kernel
theorem dL_law_437 : decode cL_law 437 = .ok (.iload_n 3, 1) := by decide +kernel
theorem dL_law_438 : decode cL_law 438 = .ok (.iconst 1, 1) := by decide +kernel
theorem dL_law_439 : decode cL_law 439 = .ok (.iadd, 1) := by decide +kernel
theorem dL_law_440 : decode cL_law 440 = .ok (.iaload, 1) := by decide +kernel
theorem dL_law_441 : decode cL_law 441 = .ok (.aload_n 0, 1) := by decide +kernel
theorem dL_law_442 : decode cL_law 442 = .ok (.iload_n 3, 1) := by decide +kernel
theorem dL_law_443 : decode cL_law 443 = .ok (.iconst 2, 1) := by decide +kernel
theorem dL_law_444 : decode cL_law 444 = .ok (.iadd, 1) := by decide +kernel
theorem dL_law_445 : decode cL_law 445 = .ok (.iaload, 1) := by decide +kernel
theorem dL_law_446 : decode cL_law 446 = .ok (.invokevirtual 71, 3) := by decide +kernel
theorem dL_law_449 : decode cL_law 449 = .ok (.if_icmp .eq 476, 3) := by decide +kernel
theorem dL_law_452 : decode cL_law 452 = .ok (.iconst 0, 1) := by decide +kernel
theorem dL_law_453 : decode cL_law 453 = .ok (.ireturn, 1) := by decide +kernel
theorem dL_law_454 : decode cL_law 454 = .ok (.aload_n 1, 1) := by decide +kernel
theorem dL_law_455 : decode cL_law 455 = .ok (.aload_n 0, 1) := by decide +kernel
theorem dL_law_456 : decode cL_law 456 = .ok (.iload_n 3, 1) := by decide +kernel
theorem dL_law_457 : decode cL_law 457 = .ok (.iconst 1, 1) := by decide +kernel
theorem dL_law_458 : decode cL_law 458 = .ok (.iadd, 1) := by decide +kernel
theorem dL_law_459 : decode cL_law 459 = .ok (.iaload, 1) := by decide +kernel
theorem dL_law_460 : decode cL_law 460 = .ok (.aload_n 0, 1) := by decide +kernel
theorem dL_law_461 : decode cL_law 461 = .ok (.iload_n 3, 1) := by decide +kernel
theorem dL_law_462 : decode cL_law 462 = .ok (.iconst 2, 1) := by decide +kernel
theorem dL_law_463 : decode cL_law 463 = .ok (.iadd, 1) := by decide +kernel
theorem dL_law_464 : decode cL_law 464 = .ok (.iaload, 1) := by decide +kernel
theorem dL_law_465 : decode cL_law 465 = .ok (.aload_n 0, 1) := by decide +kernel
theorem dL_law_466 : decode cL_law 466 = .ok (.iload_n 3, 1) := by decide +kernel
theorem dL_law_467 : decode cL_law 467 = .ok (.iconst 3, 1) := by decide +kernel
theorem dL_law_468 : decode cL_law 468 = .ok (.iadd, 1) := by decide +kernel
theorem dL_law_469 : decode cL_law 469 = .ok (.iaload, 1) := by decide +kernel
theorem dL_law_470 : decode cL_law 470 = .ok (.invokevirtual 72, 3) := by decide +kernel
theorem dL_law_473 : decode cL_law 473 = .ok (.aload_n 2, 1) := by decide +kernel
theorem dL_law_474 : decode cL_law 474 = .ok (.aload_n 0, 1) := by decide +kernel
theorem dL_law_475 : decode cL_law 475 = .ok (.iload_n 3, 1) := by decide +kernel
theorem dL_law_476 : decode cL_law 476 = .ok (.iconst 1, 1) := by decide +kernel
theorem dL_law_477 : decode cL_law 477 = .ok (.iadd, 1) := by decide +kernel
theorem dL_law_478 : decode cL_law 478 = .ok (.iaload, 1) := by decide +kernel
theorem dL_law_479 : decode cL_law 479 = .ok (.aload_n 0, 1) := by decide +kernel
theorem dL_law_480 : decode cL_law 480 = .ok (.iload_n 3, 1) := by decide +kernel
theorem dL_law_481 : decode cL_law 481 = .ok (.iconst 2, 1) := by decide +kernel
theorem dL_law_482 : decode cL_law 482 = .ok (.iadd, 1) := by decide +kernel
theorem dL_law_483 : decode cL_law 483 = .ok (.iaload, 1) := by decide +kernel
theorem dL_law_484 : decode cL_law 484 = .ok (.aload_n 0, 1) := by decide +kernel
theorem dL_law_485 : decode cL_law 485 = .ok (.iload_n 3, 1) := by decide +kernel
theorem dL_law_486 : decode cL_law 486 = .ok (.iconst 3, 1) := by decide +kernel
theorem dL_law_487 : decode cL_law 487 = .ok (.iadd, 1) := by decide +kernel
theorem dL_law_488 : decode cL_law 488 = .ok (.iaload, 1) := by decide +kernel
theorem dL_law_489 : decode cL_law 489 = .ok (.invokevirtual 76, 3) := by decide +kernel
theorem dL_law_492 : decode cL_law 492 = .ok (.if_icmp .eq 433, 3) := by decide +kernel
theorem dL_law_495 : decode cL_law 495 = .ok (.iconst 0, 1) := by decide +kernel
theorem dL_law_496 : decode cL_law 496 = .ok (.ireturn, 1) := by decide +kernel
theorem dL_law_497 : decode cL_law 497 = .ok (.aload_n 1, 1) := by decide +kernel
theorem dL_law_498 : decode cL_law 498 = .ok (.aload_n 0, 1) := by decide +kernel
theorem dL_law_499 : decode cL_law 499 = .ok (.iload_n 3, 1) := by decide +kernel
theorem dL_law_500 : decode cL_law 500 = .ok (.iconst 1, 1) := by decide +kernel
theorem dL_law_501 : decode cL_law 501 = .ok (.iadd, 1) := by decide +kernel
theorem dL_law_502 : decode cL_law 502 = .ok (.iaload, 1) := by decide +kernel
theorem dL_law_503 : decode cL_law 503 = .ok (.invokevirtual 77, 3) := by decide +kernel
theorem dL_law_506 : decode cL_law 506 = .ok (.aload_n 2, 1) := by decide +kernel
theorem dL_law_507 : decode cL_law 507 = .ok (.aload_n 0, 1) := by decide +kernel
theorem dL_law_508 : decode cL_law 508 = .ok (.iload_n 3, 1) := by decide +kernel
theorem dL_law_509 : decode cL_law 509 = .ok (.iconst 1, 1) := by decide +kernel
theorem dL_law_510 : decode cL_law 510 = .ok (.iadd, 1) := by decide +kernel
theorem dL_law_511 : decode cL_law 511 = .ok (.iaload, 1) := by decide +kernel
theorem dL_law_512 : decode cL_law 512 = .ok (.invokevirtual 80, 3) := by decide +kernel
theorem dL_law_515 : decode cL_law 515 = .ok (.if_icmp .eq 410, 3) := by decide +kernel
theorem dL_law_518 : decode cL_law 518 = .ok (.iconst 0, 1) := by decide +kernel
theorem dL_law_519 : decode cL_law 519 = .ok (.ireturn, 1) := by decide +kernel
theorem dL_law_520 : decode cL_law 520 = .ok (.aload_n 1, 1) := by decide +kernel
theorem dL_law_521 : decode cL_law 521 = .ok (.aload_n 0, 1) := by decide +kernel
theorem dL_law_522 : decode cL_law 522 = .ok (.iload_n 3, 1) := by decide +kernel
theorem dL_law_523 : decode cL_law 523 = .ok (.iconst 1, 1) := by decide +kernel
theorem dL_law_524 : decode cL_law 524 = .ok (.iadd, 1) := by decide +kernel
theorem dL_law_525 : decode cL_law 525 = .ok (.iaload, 1) := by decide +kernel
theorem dL_law_526 : decode cL_law 526 = .ok (.invokevirtual 81, 3) := by decide +kernel
theorem dL_law_529 : decode cL_law 529 = .ok (.aload_n 2, 1) := by decide +kernel
theorem dL_law_530 : decode cL_law 530 = .ok (.aload_n 0, 1) := by decide +kernel
theorem dL_law_531 : decode cL_law 531 = .ok (.iload_n 3, 1) := by decide +kernel
theorem dL_law_532 : decode cL_law 532 = .ok (.iconst 1, 1) := by decide +kernel
theorem dL_law_533 : decode cL_law 533 = .ok (.iadd, 1) := by decide +kernel
theorem dL_law_534 : decode cL_law 534 = .ok (.iaload, 1) := by decide +kernel
theorem dL_law_535 : decode cL_law 535 = .ok (.invokevirtual 84, 3) := by decide +kernel
theorem dL_law_538 : decode cL_law 538 = .ok (.if_icmp .eq 387, 3) := by decide +kernel
theorem dL_law_541 : decode cL_law 541 = .ok (.iconst 0, 1) := by decide +kernel
theorem dL_law_542 : decode cL_law 542 = .ok (.ireturn, 1) := by decide +kernel
theorem dL_law_543 : decode cL_law 543 = .ok (.aload_n 1, 1) := by decide +kernel
theorem dL_law_544 : decode cL_law 544 = .ok (.aload_n 0, 1) := by decide +kernel
theorem dL_law_545 : decode cL_law 545 = .ok (.iload_n 3, 1) := by decide +kernel
theorem dL_law_546 : decode cL_law 546 = .ok (.iconst 1, 1) := by decide +kernel
theorem dL_law_547 : decode cL_law 547 = .ok (.iadd, 1) := by decide +kernel
theorem dL_law_548 : decode cL_law 548 = .ok (.iaload, 1) := by decide +kernel
theorem dL_law_549 : decode cL_law 549 = .ok (.aload_n 0, 1) := by decide +kernel
theorem dL_law_550 : decode cL_law 550 = .ok (.iload_n 3, 1) := by decide +kernel
theorem dL_law_551 : decode cL_law 551 = .ok (.iconst 2, 1) := by decide +kernel
theorem dL_law_552 : decode cL_law 552 = .ok (.iadd, 1) := by decide +kernel
theorem dL_law_553 : decode cL_law 553 = .ok (.iaload, 1) := by decide +kernel
theorem dL_law_554 : decode cL_law 554 = .ok (.ifCond .eq 7, 3) := by decide +kernel
theorem dL_law_557 : decode cL_law 557 = .ok (.iconst 1, 1) := by decide +kernel
theorem dL_law_558 : decode cL_law 558 = .ok (.goto 4, 3) := by decide +kernel
theorem dL_law_561 : decode cL_law 561 = .ok (.iconst 0, 1) := by decide +kernel
theorem dL_law_562 : decode cL_law 562 = .ok (.aload_n 0, 1) := by decide +kernel
theorem dL_law_563 : decode cL_law 563 = .ok (.iload_n 3, 1) := by decide +kernel
theorem dL_law_564 : decode cL_law 564 = .ok (.iconst 3, 1) := by decide +kernel
theorem dL_law_565 : decode cL_law 565 = .ok (.iadd, 1) := by decide +kernel
theorem dL_law_566 : decode cL_law 566 = .ok (.iaload, 1) := by decide +kernel
theorem dL_law_567 : decode cL_law 567 = .ok (.ifCond .eq 7, 3) := by decide +kernel
theorem dL_law_570 : decode cL_law 570 = .ok (.iconst 1, 1) := by decide +kernel
theorem dL_law_571 : decode cL_law 571 = .ok (.goto 4, 3) := by decide +kernel
theorem dL_law_574 : decode cL_law 574 = .ok (.iconst 0, 1) := by decide +kernel
theorem dL_law_575 : decode cL_law 575 = .ok (.invokevirtual 85, 3) := by decide +kernel
theorem dL_law_578 : decode cL_law 578 = .ok (.aload_n 2, 1) := by decide +kernel
theorem dL_law_579 : decode cL_law 579 = .ok (.aload_n 0, 1) := by decide +kernel
theorem dL_law_580 : decode cL_law 580 = .ok (.iload_n 3, 1) := by decide +kernel
theorem dL_law_581 : decode cL_law 581 = .ok (.iconst 1, 1) := by decide +kernel
theorem dL_law_582 : decode cL_law 582 = .ok (.iadd, 1) := by decide +kernel
theorem dL_law_583 : decode cL_law 583 = .ok (.iaload, 1) := by decide +kernel
theorem dL_law_584 : decode cL_law 584 = .ok (.aload_n 0, 1) := by decide +kernel
theorem dL_law_585 : decode cL_law 585 = .ok (.iload_n 3, 1) := by decide +kernel
theorem dL_law_586 : decode cL_law 586 = .ok (.iconst 2, 1) := by decide +kernel
theorem dL_law_587 : decode cL_law 587 = .ok (.iadd, 1) := by decide +kernel
theorem dL_law_588 : decode cL_law 588 = .ok (.iaload, 1) := by decide +kernel
theorem dL_law_589 : decode cL_law 589 = .ok (.ifCond .eq 7, 3) := by decide +kernel
theorem dL_law_592 : decode cL_law 592 = .ok (.iconst 1, 1) := by decide +kernel
theorem dL_law_593 : decode cL_law 593 = .ok (.goto 4, 3) := by decide +kernel
theorem dL_law_596 : decode cL_law 596 = .ok (.iconst 0, 1) := by decide +kernel
theorem dL_law_597 : decode cL_law 597 = .ok (.aload_n 0, 1) := by decide +kernel
theorem dL_law_598 : decode cL_law 598 = .ok (.iload_n 3, 1) := by decide +kernel
theorem dL_law_599 : decode cL_law 599 = .ok (.iconst 3, 1) := by decide +kernel
theorem dL_law_600 : decode cL_law 600 = .ok (.iadd, 1) := by decide +kernel
theorem dL_law_601 : decode cL_law 601 = .ok (.iaload, 1) := by decide +kernel
theorem dL_law_602 : decode cL_law 602 = .ok (.ifCond .eq 7, 3) := by decide +kernel
theorem dL_law_605 : decode cL_law 605 = .ok (.iconst 1, 1) := by decide +kernel
theorem dL_law_606 : decode cL_law 606 = .ok (.goto 4, 3) := by decide +kernel
theorem dL_law_609 : decode cL_law 609 = .ok (.iconst 0, 1) := by decide +kernel
theorem dL_law_610 : decode cL_law 610 = .ok (.invokevirtual 89, 3) := by decide +kernel
theorem dL_law_613 : decode cL_law 613 = .ok (.if_icmp .eq 312, 3) := by decide +kernel
theorem dL_law_616 : decode cL_law 616 = .ok (.iconst 0, 1) := by decide +kernel
theorem dL_law_617 : decode cL_law 617 = .ok (.ireturn, 1) := by decide +kernel
theorem dL_law_618 : decode cL_law 618 = .ok (.aload_n 1, 1) := by decide +kernel
theorem dL_law_619 : decode cL_law 619 = .ok (.aload_n 0, 1) := by decide +kernel
theorem dL_law_620 : decode cL_law 620 = .ok (.iload_n 3, 1) := by decide +kernel
theorem dL_law_621 : decode cL_law 621 = .ok (.iconst 1, 1) := by decide +kernel
theorem dL_law_622 : decode cL_law 622 = .ok (.iadd, 1) := by decide +kernel
theorem dL_law_623 : decode cL_law 623 = .ok (.iaload, 1) := by decide +kernel
theorem dL_law_624 : decode cL_law 624 = .ok (.aload_n 0, 1) := by decide +kernel
theorem dL_law_625 : decode cL_law 625 = .ok (.iload_n 3, 1) := by decide +kernel
theorem dL_law_626 : decode cL_law 626 = .ok (.iconst 2, 1) := by decide +kernel
theorem dL_law_627 : decode cL_law 627 = .ok (.iadd, 1) := by decide +kernel
theorem dL_law_628 : decode cL_law 628 = .ok (.iaload, 1) := by decide +kernel
theorem dL_law_629 : decode cL_law 629 = .ok (.aload_n 0, 1) := by decide +kernel
theorem dL_law_630 : decode cL_law 630 = .ok (.iload_n 3, 1) := by decide +kernel
theorem dL_law_631 : decode cL_law 631 = .ok (.iconst 3, 1) := by decide +kernel
theorem dL_law_632 : decode cL_law 632 = .ok (.iadd, 1) := by decide +kernel
theorem dL_law_633 : decode cL_law 633 = .ok (.iaload, 1) := by decide +kernel
theorem dL_law_634 : decode cL_law 634 = .ok (.invokevirtual 90, 3) := by decide +kernel
theorem dL_law_637 : decode cL_law 637 = .ok (.aload_n 2, 1) := by decide +kernel
theorem dL_law_638 : decode cL_law 638 = .ok (.aload_n 0, 1) := by decide +kernel
theorem dL_law_639 : decode cL_law 639 = .ok (.iload_n 3, 1) := by decide +kernel
theorem dL_law_640 : decode cL_law 640 = .ok (.iconst 1, 1) := by decide +kernel
theorem dL_law_641 : decode cL_law 641 = .ok (.iadd, 1) := by decide +kernel
theorem dL_law_642 : decode cL_law 642 = .ok (.iaload, 1) := by decide +kernel
theorem dL_law_643 : decode cL_law 643 = .ok (.aload_n 0, 1) := by decide +kernel
theorem dL_law_644 : decode cL_law 644 = .ok (.iload_n 3, 1) := by decide +kernel
theorem dL_law_645 : decode cL_law 645 = .ok (.iconst 2, 1) := by decide +kernel
theorem dL_law_646 : decode cL_law 646 = .ok (.iadd, 1) := by decide +kernel
theorem dL_law_647 : decode cL_law 647 = .ok (.iaload, 1) := by decide +kernel
theorem dL_law_648 : decode cL_law 648 = .ok (.aload_n 0, 1) := by decide +kernel
theorem dL_law_649 : decode cL_law 649 = .ok (.iload_n 3, 1) := by decide +kernel
theorem dL_law_650 : decode cL_law 650 = .ok (.iconst 3, 1) := by decide +kernel
theorem dL_law_651 : decode cL_law 651 = .ok (.iadd, 1) := by decide +kernel
theorem dL_law_652 : decode cL_law 652 = .ok (.iaload, 1) := by decide +kernel
theorem dL_law_653 : decode cL_law 653 = .ok (.invokevirtual 93, 3) := by decide +kernel
theorem dL_law_656 : decode cL_law 656 = .ok (.if_icmp .eq 269, 3) := by decide +kernel
theorem dL_law_659 : decode cL_law 659 = .ok (.iconst 0, 1) := by decide +kernel
theorem dL_law_660 : decode cL_law 660 = .ok (.ireturn, 1) := by decide +kernel
theorem dL_law_661 : decode cL_law 661 = .ok (.aload_n 1, 1) := by decide +kernel
theorem dL_law_662 : decode cL_law 662 = .ok (.aload_n 0, 1) := by decide +kernel
theorem dL_law_663 : decode cL_law 663 = .ok (.iload_n 3, 1) := by decide +kernel
theorem dL_law_664 : decode cL_law 664 = .ok (.iconst 1, 1) := by decide +kernel
theorem dL_law_665 : decode cL_law 665 = .ok (.iadd, 1) := by decide +kernel
theorem dL_law_666 : decode cL_law 666 = .ok (.iaload, 1) := by decide +kernel
theorem dL_law_667 : decode cL_law 667 = .ok (.aload_n 0, 1) := by decide +kernel
theorem dL_law_668 : decode cL_law 668 = .ok (.iload_n 3, 1) := by decide +kernel
theorem dL_law_669 : decode cL_law 669 = .ok (.iconst 2, 1) := by decide +kernel
theorem dL_law_670 : decode cL_law 670 = .ok (.iadd, 1) := by decide +kernel
theorem dL_law_671 : decode cL_law 671 = .ok (.iaload, 1) := by decide +kernel
theorem dL_law_672 : decode cL_law 672 = .ok (.invokevirtual 94, 3) := by decide +kernel
theorem dL_law_675 : decode cL_law 675 = .ok (.aload_n 2, 1) := by decide +kernel
theorem dL_law_676 : decode cL_law 676 = .ok (.aload_n 0, 1) := by decide +kernel
theorem dL_law_677 : decode cL_law 677 = .ok (.iload_n 3, 1) := by decide +kernel
theorem dL_law_678 : decode cL_law 678 = .ok (.iconst 1, 1) := by decide +kernel
theorem dL_law_679 : decode cL_law 679 = .ok (.iadd, 1) := by decide +kernel
theorem dL_law_680 : decode cL_law 680 = .ok (.iaload, 1) := by decide +kernel
theorem dL_law_681 : decode cL_law 681 = .ok (.aload_n 0, 1) := by decide +kernel
theorem dL_law_682 : decode cL_law 682 = .ok (.iload_n 3, 1) := by decide +kernel
theorem dL_law_683 : decode cL_law 683 = .ok (.iconst 2, 1) := by decide +kernel
theorem dL_law_684 : decode cL_law 684 = .ok (.iadd, 1) := by decide +kernel
theorem dL_law_685 : decode cL_law 685 = .ok (.iaload, 1) := by decide +kernel
theorem dL_law_686 : decode cL_law 686 = .ok (.invokevirtual 97, 3) := by decide +kernel
theorem dL_law_689 : decode cL_law 689 = .ok (.if_icmp .eq 236, 3) := by decide +kernel
theorem dL_law_692 : decode cL_law 692 = .ok (.iconst 0, 1) := by decide +kernel
theorem dL_law_693 : decode cL_law 693 = .ok (.ireturn, 1) := by decide +kernel
theorem dL_law_694 : decode cL_law 694 = .ok (.aload_n 1, 1) := by decide +kernel
theorem dL_law_695 : decode cL_law 695 = .ok (.aload_n 0, 1) := by decide +kernel
theorem dL_law_696 : decode cL_law 696 = .ok (.iload_n 3, 1) := by decide +kernel
theorem dL_law_697 : decode cL_law 697 = .ok (.iconst 1, 1) := by decide +kernel
theorem dL_law_698 : decode cL_law 698 = .ok (.iadd, 1) := by decide +kernel
theorem dL_law_699 : decode cL_law 699 = .ok (.iaload, 1) := by decide +kernel
theorem dL_law_700 : decode cL_law 700 = .ok (.aload_n 0, 1) := by decide +kernel
theorem dL_law_701 : decode cL_law 701 = .ok (.iload_n 3, 1) := by decide +kernel
theorem dL_law_702 : decode cL_law 702 = .ok (.iconst 2, 1) := by decide +kernel
theorem dL_law_703 : decode cL_law 703 = .ok (.iadd, 1) := by decide +kernel
theorem dL_law_704 : decode cL_law 704 = .ok (.iaload, 1) := by decide +kernel
theorem dL_law_705 : decode cL_law 705 = .ok (.ifCond .eq 7, 3) := by decide +kernel
theorem dL_law_708 : decode cL_law 708 = .ok (.iconst 1, 1) := by decide +kernel
theorem dL_law_709 : decode cL_law 709 = .ok (.goto 4, 3) := by decide +kernel
theorem dL_law_712 : decode cL_law 712 = .ok (.iconst 0, 1) := by decide +kernel
theorem dL_law_713 : decode cL_law 713 = .ok (.invokevirtual 98, 3) := by decide +kernel
theorem dL_law_716 : decode cL_law 716 = .ok (.aload_n 2, 1) := by decide +kernel
theorem dL_law_717 : decode cL_law 717 = .ok (.aload_n 0, 1) := by decide +kernel
theorem dL_law_718 : decode cL_law 718 = .ok (.iload_n 3, 1) := by decide +kernel
theorem dL_law_719 : decode cL_law 719 = .ok (.iconst 1, 1) := by decide +kernel
theorem dL_law_720 : decode cL_law 720 = .ok (.iadd, 1) := by decide +kernel
theorem dL_law_721 : decode cL_law 721 = .ok (.iaload, 1) := by decide +kernel
theorem dL_law_722 : decode cL_law 722 = .ok (.aload_n 0, 1) := by decide +kernel
theorem dL_law_723 : decode cL_law 723 = .ok (.iload_n 3, 1) := by decide +kernel
theorem dL_law_724 : decode cL_law 724 = .ok (.iconst 2, 1) := by decide +kernel
theorem dL_law_725 : decode cL_law 725 = .ok (.iadd, 1) := by decide +kernel
theorem dL_law_726 : decode cL_law 726 = .ok (.iaload, 1) := by decide +kernel
theorem dL_law_727 : decode cL_law 727 = .ok (.ifCond .eq 7, 3) := by decide +kernel
theorem dL_law_730 : decode cL_law 730 = .ok (.iconst 1, 1) := by decide +kernel
theorem dL_law_731 : decode cL_law 731 = .ok (.goto 4, 3) := by decide +kernel
theorem dL_law_734 : decode cL_law 734 = .ok (.iconst 0, 1) := by decide +kernel
theorem dL_law_735 : decode cL_law 735 = .ok (.invokevirtual 102, 3) := by decide +kernel
theorem dL_law_738 : decode cL_law 738 = .ok (.if_icmp .eq 187, 3) := by decide +kernel
theorem dL_law_741 : decode cL_law 741 = .ok (.iconst 0, 1) := by decide +kernel
theorem dL_law_742 : decode cL_law 742 = .ok (.ireturn, 1) := by decide +kernel
theorem dL_law_743 : decode cL_law 743 = .ok (.aload_n 1, 1) := by decide +kernel
theorem dL_law_744 : decode cL_law 744 = .ok (.aload_n 0, 1) := by decide +kernel
theorem dL_law_745 : decode cL_law 745 = .ok (.iload_n 3, 1) := by decide +kernel
theorem dL_law_746 : decode cL_law 746 = .ok (.iconst 1, 1) := by decide +kernel
theorem dL_law_747 : decode cL_law 747 = .ok (.iadd, 1) := by decide +kernel
theorem dL_law_748 : decode cL_law 748 = .ok (.iaload, 1) := by decide +kernel
theorem dL_law_749 : decode cL_law 749 = .ok (.aload_n 0, 1) := by decide +kernel
theorem dL_law_750 : decode cL_law 750 = .ok (.iload_n 3, 1) := by decide +kernel
theorem dL_law_751 : decode cL_law 751 = .ok (.iconst 2, 1) := by decide +kernel
theorem dL_law_752 : decode cL_law 752 = .ok (.iadd, 1) := by decide +kernel
theorem dL_law_753 : decode cL_law 753 = .ok (.iaload, 1) := by decide +kernel
theorem dL_law_754 : decode cL_law 754 = .ok (.aload_n 0, 1) := by decide +kernel
theorem dL_law_755 : decode cL_law 755 = .ok (.iload_n 3, 1) := by decide +kernel
theorem dL_law_756 : decode cL_law 756 = .ok (.iconst 3, 1) := by decide +kernel
theorem dL_law_757 : decode cL_law 757 = .ok (.iadd, 1) := by decide +kernel
theorem dL_law_758 : decode cL_law 758 = .ok (.iaload, 1) := by decide +kernel
theorem dL_law_759 : decode cL_law 759 = .ok (.ifCond .eq 7, 3) := by decide +kernel
theorem dL_law_762 : decode cL_law 762 = .ok (.iconst 1, 1) := by decide +kernel
theorem dL_law_763 : decode cL_law 763 = .ok (.goto 4, 3) := by decide +kernel
theorem dL_law_766 : decode cL_law 766 = .ok (.iconst 0, 1) := by decide +kernel
theorem dL_law_767 : decode cL_law 767 = .ok (.invokevirtual 103, 3) := by decide +kernel
theorem dL_law_770 : decode cL_law 770 = .ok (.aload_n 2, 1) := by decide +kernel
theorem dL_law_771 : decode cL_law 771 = .ok (.aload_n 0, 1) := by decide +kernel
theorem dL_law_772 : decode cL_law 772 = .ok (.iload_n 3, 1) := by decide +kernel
theorem dL_law_773 : decode cL_law 773 = .ok (.iconst 1, 1) := by decide +kernel
theorem dL_law_774 : decode cL_law 774 = .ok (.iadd, 1) := by decide +kernel
theorem dL_law_775 : decode cL_law 775 = .ok (.iaload, 1) := by decide +kernel
theorem dL_law_776 : decode cL_law 776 = .ok (.aload_n 0, 1) := by decide +kernel
theorem dL_law_777 : decode cL_law 777 = .ok (.iload_n 3, 1) := by decide +kernel
theorem dL_law_778 : decode cL_law 778 = .ok (.iconst 2, 1) := by decide +kernel
theorem dL_law_779 : decode cL_law 779 = .ok (.iadd, 1) := by decide +kernel
theorem dL_law_780 : decode cL_law 780 = .ok (.iaload, 1) := by decide +kernel
theorem dL_law_781 : decode cL_law 781 = .ok (.aload_n 0, 1) := by decide +kernel
theorem dL_law_782 : decode cL_law 782 = .ok (.iload_n 3, 1) := by decide +kernel
theorem dL_law_783 : decode cL_law 783 = .ok (.iconst 3, 1) := by decide +kernel
theorem dL_law_784 : decode cL_law 784 = .ok (.iadd, 1) := by decide +kernel
theorem dL_law_785 : decode cL_law 785 = .ok (.iaload, 1) := by decide +kernel
theorem dL_law_786 : decode cL_law 786 = .ok (.ifCond .eq 7, 3) := by decide +kernel
theorem dL_law_789 : decode cL_law 789 = .ok (.iconst 1, 1) := by decide +kernel
theorem dL_law_790 : decode cL_law 790 = .ok (.goto 4, 3) := by decide +kernel
theorem dL_law_793 : decode cL_law 793 = .ok (.iconst 0, 1) := by decide +kernel
theorem dL_law_794 : decode cL_law 794 = .ok (.invokevirtual 107, 3) := by decide +kernel
theorem dL_law_797 : decode cL_law 797 = .ok (.if_icmp .eq 128, 3) := by decide +kernel
theorem dL_law_800 : decode cL_law 800 = .ok (.iconst 0, 1) := by decide +kernel
theorem dL_law_801 : decode cL_law 801 = .ok (.ireturn, 1) := by decide +kernel
theorem dL_law_802 : decode cL_law 802 = .ok (.aload_n 1, 1) := by decide +kernel
theorem dL_law_803 : decode cL_law 803 = .ok (.aload_n 0, 1) := by decide +kernel
theorem dL_law_804 : decode cL_law 804 = .ok (.iload_n 3, 1) := by decide +kernel
theorem dL_law_805 : decode cL_law 805 = .ok (.iconst 1, 1) := by decide +kernel
theorem dL_law_806 : decode cL_law 806 = .ok (.iadd, 1) := by decide +kernel
theorem dL_law_807 : decode cL_law 807 = .ok (.iaload, 1) := by decide +kernel
theorem dL_law_808 : decode cL_law 808 = .ok (.i2l, 1) := by decide +kernel
theorem dL_law_809 : decode cL_law 809 = .ok (.bipush 32, 2) := by decide +kernel
theorem dL_law_811 : decode cL_law 811 = .ok (.lshl, 1) := by decide +kernel
theorem dL_law_812 : decode cL_law 812 = .ok (.aload_n 0, 1) := by decide +kernel
theorem dL_law_813 : decode cL_law 813 = .ok (.iload_n 3, 1) := by decide +kernel
theorem dL_law_814 : decode cL_law 814 = .ok (.iconst 2, 1) := by decide +kernel
theorem dL_law_815 : decode cL_law 815 = .ok (.iadd, 1) := by decide +kernel
theorem dL_law_816 : decode cL_law 816 = .ok (.iaload, 1) := by decide +kernel
theorem dL_law_817 : decode cL_law 817 = .ok (.i2l, 1) := by decide +kernel
theorem dL_law_818 : decode cL_law 818 = .ok (.ldc2_w 108, 3) := by decide +kernel
theorem dL_law_821 : decode cL_law 821 = .ok (.land, 1) := by decide +kernel
theorem dL_law_822 : decode cL_law 822 = .ok (.lor, 1) := by decide +kernel
theorem dL_law_823 : decode cL_law 823 = .ok (.invokevirtual 110, 3) := by decide +kernel
theorem dL_law_826 : decode cL_law 826 = .ok (.aload_n 2, 1) := by decide +kernel
theorem dL_law_827 : decode cL_law 827 = .ok (.aload_n 0, 1) := by decide +kernel
theorem dL_law_828 : decode cL_law 828 = .ok (.iload_n 3, 1) := by decide +kernel
theorem dL_law_829 : decode cL_law 829 = .ok (.iconst 1, 1) := by decide +kernel
theorem dL_law_830 : decode cL_law 830 = .ok (.iadd, 1) := by decide +kernel
theorem dL_law_831 : decode cL_law 831 = .ok (.iaload, 1) := by decide +kernel
theorem dL_law_832 : decode cL_law 832 = .ok (.i2l, 1) := by decide +kernel
theorem dL_law_833 : decode cL_law 833 = .ok (.bipush 32, 2) := by decide +kernel
theorem dL_law_835 : decode cL_law 835 = .ok (.lshl, 1) := by decide +kernel
theorem dL_law_836 : decode cL_law 836 = .ok (.aload_n 0, 1) := by decide +kernel
theorem dL_law_837 : decode cL_law 837 = .ok (.iload_n 3, 1) := by decide +kernel
theorem dL_law_838 : decode cL_law 838 = .ok (.iconst 2, 1) := by decide +kernel
theorem dL_law_839 : decode cL_law 839 = .ok (.iadd, 1) := by decide +kernel
theorem dL_law_840 : decode cL_law 840 = .ok (.iaload, 1) := by decide +kernel
theorem dL_law_841 : decode cL_law 841 = .ok (.i2l, 1) := by decide +kernel
theorem dL_law_842 : decode cL_law 842 = .ok (.ldc2_w 108, 3) := by decide +kernel
theorem dL_law_845 : decode cL_law 845 = .ok (.land, 1) := by decide +kernel
theorem dL_law_846 : decode cL_law 846 = .ok (.lor, 1) := by decide +kernel
theorem dL_law_847 : decode cL_law 847 = .ok (.invokevirtual 114, 3) := by decide +kernel
theorem dL_law_850 : decode cL_law 850 = .ok (.lcmp, 1) := by decide +kernel
theorem dL_law_851 : decode cL_law 851 = .ok (.ifCond .eq 74, 3) := by decide +kernel
theorem dL_law_854 : decode cL_law 854 = .ok (.iconst 0, 1) := by decide +kernel
theorem dL_law_855 : decode cL_law 855 = .ok (.ireturn, 1) := by decide +kernel
theorem dL_law_856 : decode cL_law 856 = .ok (.aload_n 1, 1) := by decide +kernel
theorem dL_law_857 : decode cL_law 857 = .ok (.aload_n 0, 1) := by decide +kernel
theorem dL_law_858 : decode cL_law 858 = .ok (.iload_n 3, 1) := by decide +kernel
theorem dL_law_859 : decode cL_law 859 = .ok (.iconst 1, 1) := by decide +kernel
theorem dL_law_860 : decode cL_law 860 = .ok (.iadd, 1) := by decide +kernel
theorem dL_law_861 : decode cL_law 861 = .ok (.iaload, 1) := by decide +kernel
theorem dL_law_862 : decode cL_law 862 = .ok (.invokevirtual 115, 3) := by decide +kernel
theorem dL_law_865 : decode cL_law 865 = .ok (.aload_n 2, 1) := by decide +kernel
theorem dL_law_866 : decode cL_law 866 = .ok (.aload_n 0, 1) := by decide +kernel
theorem dL_law_867 : decode cL_law 867 = .ok (.iload_n 3, 1) := by decide +kernel
theorem dL_law_868 : decode cL_law 868 = .ok (.iconst 1, 1) := by decide +kernel
theorem dL_law_869 : decode cL_law 869 = .ok (.iadd, 1) := by decide +kernel
theorem dL_law_870 : decode cL_law 870 = .ok (.iaload, 1) := by decide +kernel
theorem dL_law_871 : decode cL_law 871 = .ok (.invokevirtual 118, 3) := by decide +kernel
theorem dL_law_874 : decode cL_law 874 = .ok (.if_icmp .eq 51, 3) := by decide +kernel
theorem dL_law_877 : decode cL_law 877 = .ok (.iconst 0, 1) := by decide +kernel
theorem dL_law_878 : decode cL_law 878 = .ok (.ireturn, 1) := by decide +kernel
theorem dL_law_879 : decode cL_law 879 = .ok (.aload_n 1, 1) := by decide +kernel
theorem dL_law_880 : decode cL_law 880 = .ok (.aload_n 0, 1) := by decide +kernel
theorem dL_law_881 : decode cL_law 881 = .ok (.iload_n 3, 1) := by decide +kernel
theorem dL_law_882 : decode cL_law 882 = .ok (.iconst 1, 1) := by decide +kernel
theorem dL_law_883 : decode cL_law 883 = .ok (.iadd, 1) := by decide +kernel
theorem dL_law_884 : decode cL_law 884 = .ok (.iaload, 1) := by decide +kernel
theorem dL_law_885 : decode cL_law 885 = .ok (.invokevirtual 119, 3) := by decide +kernel
theorem dL_law_888 : decode cL_law 888 = .ok (.aload_n 2, 1) := by decide +kernel
theorem dL_law_889 : decode cL_law 889 = .ok (.aload_n 0, 1) := by decide +kernel
theorem dL_law_890 : decode cL_law 890 = .ok (.iload_n 3, 1) := by decide +kernel
theorem dL_law_891 : decode cL_law 891 = .ok (.iconst 1, 1) := by decide +kernel
theorem dL_law_892 : decode cL_law 892 = .ok (.iadd, 1) := by decide +kernel
theorem dL_law_893 : decode cL_law 893 = .ok (.iaload, 1) := by decide +kernel
theorem dL_law_894 : decode cL_law 894 = .ok (.invokevirtual 122, 3) := by decide +kernel
theorem dL_law_897 : decode cL_law 897 = .ok (.if_icmp .eq 28, 3) := by decide +kernel
theorem dL_law_900 : decode cL_law 900 = .ok (.iconst 0, 1) := by decide +kernel
theorem dL_law_901 : decode cL_law 901 = .ok (.ireturn, 1) := by decide +kernel
theorem dL_law_902 : decode cL_law 902 = .ok (.aload_n 1, 1) := by decide +kernel
theorem dL_law_903 : decode cL_law 903 = .ok (.aload_n 0, 1) := by decide +kernel
theorem dL_law_904 : decode cL_law 904 = .ok (.iload_n 3, 1) := by decide +kernel
theorem dL_law_905 : decode cL_law 905 = .ok (.iconst 1, 1) := by decide +kernel
theorem dL_law_906 : decode cL_law 906 = .ok (.iadd, 1) := by decide +kernel
theorem dL_law_907 : decode cL_law 907 = .ok (.iaload, 1) := by decide +kernel
theorem dL_law_908 : decode cL_law 908 = .ok (.invokevirtual 123, 3) := by decide +kernel
theorem dL_law_911 : decode cL_law 911 = .ok (.aload_n 2, 1) := by decide +kernel
theorem dL_law_912 : decode cL_law 912 = .ok (.aload_n 0, 1) := by decide +kernel
theorem dL_law_913 : decode cL_law 913 = .ok (.iload_n 3, 1) := by decide +kernel
theorem dL_law_914 : decode cL_law 914 = .ok (.iconst 1, 1) := by decide +kernel
theorem dL_law_915 : decode cL_law 915 = .ok (.iadd, 1) := by decide +kernel
theorem dL_law_916 : decode cL_law 916 = .ok (.iaload, 1) := by decide +kernel
theorem dL_law_917 : decode cL_law 917 = .ok (.invokevirtual 126, 3) := by decide +kernel
theorem dL_law_920 : decode cL_law 920 = .ok (.if_icmp .eq 5, 3) := by decide +kernel
theorem dL_law_923 : decode cL_law 923 = .ok (.iconst 0, 1) := by decide +kernel
theorem dL_law_924 : decode cL_law 924 = .ok (.ireturn, 1) := by decide +kernel
theorem dL_law_925 : decode cL_law 925 = .ok (.iinc 3 4, 3) := by decide +kernel
theorem dL_law_928 : decode cL_law 928 = .ok (.goto (-910), 3) := by decide +kernel
theorem dL_law_931 : decode cL_law 931 = .ok (.iconst 1, 1) := by decide +kernel
theorem dL_law_932 : decode cL_law 932 = .ok (.ireturn, 1) := by decide +kernel
