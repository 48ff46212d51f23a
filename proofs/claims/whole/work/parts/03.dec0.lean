theorem dX0_init_0 : decode cX0_init 0 = .ok (.aload_n 0, 1) := by decide +kernel
theorem dX0_init_1 : decode cX0_init 1 = .ok (.invokespecial 3, 3) := by decide +kernel
theorem dX0_init_4 : decode cX0_init 4 = .ok (.aload_n 0, 1) := by decide +kernel
theorem dX0_init_5 : decode cX0_init 5 = .ok (.bipush 14, 2) := by decide +kernel
theorem dX0_init_7 : decode cX0_init 7 = .ok (.anewarray 9, 3) := by decide +kernel
theorem dX0_init_10 : decode cX0_init 10 = .ok (.putfield 11, 3) := by decide +kernel
theorem dX0_init_13 : decode cX0_init 13 = .ok (.iconst 0, 1) := by decide +kernel
theorem dX0_init_14 : decode cX0_init 14 = .ok (.istore_n 1, 1) := by decide +kernel
theorem dX0_init_15 : decode cX0_init 15 = .ok (.iload_n 1, 1) := by decide +kernel
theorem dX0_init_16 : decode cX0_init 16 = .ok (.bipush 14, 2) := by decide +kernel
theorem dX0_init_18 : decode cX0_init 18 = .ok (.if_icmp .ge 22, 3) := by decide +kernel
theorem dX0_init_21 : decode cX0_init 21 = .ok (.aload_n 0, 1) := by decide +kernel
theorem dX0_init_22 : decode cX0_init 22 = .ok (.getfield 11, 3) := by decide +kernel
theorem dX0_init_25 : decode cX0_init 25 = .ok (.iload_n 1, 1) := by decide +kernel
theorem dX0_init_26 : decode cX0_init 26 = .ok (.new 9, 3) := by decide +kernel
theorem dX0_init_29 : decode cX0_init 29 = .ok (.dup, 1) := by decide +kernel
theorem dX0_init_30 : decode cX0_init 30 = .ok (.invokespecial 17, 3) := by decide +kernel
theorem dX0_init_33 : decode cX0_init 33 = .ok (.aastore, 1) := by decide +kernel
theorem dX0_init_34 : decode cX0_init 34 = .ok (.iinc 1 1, 3) := by decide +kernel
theorem dX0_init_37 : decode cX0_init 37 = .ok (.goto (-22), 3) := by decide +kernel
theorem dX0_init_40 : decode cX0_init 40 = .ok (.return_, 1) := by decide +kernel
theorem dX0_remember_0 : decode cX0_remember 0 = .ok (.aload_n 0, 1) := by decide +kernel
theorem dX0_remember_1 : decode cX0_remember 1 = .ok (.getfield 18, 3) := by decide +kernel
theorem dX0_remember_4 : decode cX0_remember 4 = .ok (.bipush 14, 2) := by decide +kernel
theorem dX0_remember_6 : decode cX0_remember 6 = .ok (.if_icmp .ne 26, 3) := by decide +kernel
theorem dX0_remember_9 : decode cX0_remember 9 = .ok (.aload_n 0, 1) := by decide +kernel
theorem dX0_remember_10 : decode cX0_remember 10 = .ok (.aload_n 0, 1) := by decide +kernel
theorem dX0_remember_11 : decode cX0_remember 11 = .ok (.getfield 22, 3) := by decide +kernel
theorem dX0_remember_14 : decode cX0_remember 14 = .ok (.iconst 1, 1) := by decide +kernel
theorem dX0_remember_15 : decode cX0_remember 15 = .ok (.iadd, 1) := by decide +kernel
theorem dX0_remember_16 : decode cX0_remember 16 = .ok (.bipush 14, 2) := by decide +kernel
theorem dX0_remember_18 : decode cX0_remember 18 = .ok (.irem, 1) := by decide +kernel
theorem dX0_remember_19 : decode cX0_remember 19 = .ok (.putfield 22, 3) := by decide +kernel
theorem dX0_remember_22 : decode cX0_remember 22 = .ok (.aload_n 0, 1) := by decide +kernel
theorem dX0_remember_23 : decode cX0_remember 23 = .ok (.dup, 1) := by decide +kernel
theorem dX0_remember_24 : decode cX0_remember 24 = .ok (.getfield 18, 3) := by decide +kernel
theorem dX0_remember_27 : decode cX0_remember 27 = .ok (.iconst 1, 1) := by decide +kernel
theorem dX0_remember_28 : decode cX0_remember 28 = .ok (.isub, 1) := by decide +kernel
theorem dX0_remember_29 : decode cX0_remember 29 = .ok (.putfield 18, 3) := by decide +kernel
theorem dX0_remember_32 : decode cX0_remember 32 = .ok (.aload_n 0, 1) := by decide +kernel
theorem dX0_remember_33 : decode cX0_remember 33 = .ok (.getfield 11, 3) := by decide +kernel
theorem dX0_remember_36 : decode cX0_remember 36 = .ok (.aload_n 0, 1) := by decide +kernel
theorem dX0_remember_37 : decode cX0_remember 37 = .ok (.getfield 22, 3) := by decide +kernel
theorem dX0_remember_40 : decode cX0_remember 40 = .ok (.aload_n 0, 1) := by decide +kernel
theorem dX0_remember_41 : decode cX0_remember 41 = .ok (.getfield 18, 3) := by decide +kernel
theorem dX0_remember_44 : decode cX0_remember 44 = .ok (.iadd, 1) := by decide +kernel
theorem dX0_remember_45 : decode cX0_remember 45 = .ok (.bipush 14, 2) := by decide +kernel
theorem dX0_remember_47 : decode cX0_remember 47 = .ok (.irem, 1) := by decide +kernel
theorem dX0_remember_48 : decode cX0_remember 48 = .ok (.aaload, 1) := by decide +kernel
theorem dX0_remember_49 : decode cX0_remember 49 = .ok (.aload_n 1, 1) := by decide +kernel
theorem dX0_remember_50 : decode cX0_remember 50 = .ok (.invokevirtual 25, 3) := by decide +kernel
theorem dX0_remember_53 : decode cX0_remember 53 = .ok (.aload_n 0, 1) := by decide +kernel
theorem dX0_remember_54 : decode cX0_remember 54 = .ok (.dup, 1) := by decide +kernel
theorem dX0_remember_55 : decode cX0_remember 55 = .ok (.getfield 18, 3) := by decide +kernel
theorem dX0_remember_58 : decode cX0_remember 58 = .ok (.iconst 1, 1) := by decide +kernel
theorem dX0_remember_59 : decode cX0_remember 59 = .ok (.iadd, 1) := by decide +kernel
theorem dX0_remember_60 : decode cX0_remember 60 = .ok (.putfield 18, 3) := by decide +kernel
theorem dX0_remember_63 : decode cX0_remember 63 = .ok (.return_, 1) := by decide +kernel
theorem dX0_takeBack_0 : decode cX0_takeBack 0 = .ok (.aload_n 0, 1) := by decide +kernel
theorem dX0_takeBack_1 : decode cX0_takeBack 1 = .ok (.getfield 18, 3) := by decide +kernel
theorem dX0_takeBack_4 : decode cX0_takeBack 4 = .ok (.ifCond .gt 5, 3) := by decide +kernel
theorem dX0_takeBack_7 : decode cX0_takeBack 7 = .ok (.iconst 0, 1) := by decide +kernel
theorem dX0_takeBack_8 : decode cX0_takeBack 8 = .ok (.ireturn, 1) := by decide +kernel
theorem dX0_takeBack_9 : decode cX0_takeBack 9 = .ok (.aload_n 0, 1) := by decide +kernel
theorem dX0_takeBack_10 : decode cX0_takeBack 10 = .ok (.dup, 1) := by decide +kernel
theorem dX0_takeBack_11 : decode cX0_takeBack 11 = .ok (.getfield 18, 3) := by decide +kernel
theorem dX0_takeBack_14 : decode cX0_takeBack 14 = .ok (.iconst 1, 1) := by decide +kernel
theorem dX0_takeBack_15 : decode cX0_takeBack 15 = .ok (.isub, 1) := by decide +kernel
theorem dX0_takeBack_16 : decode cX0_takeBack 16 = .ok (.putfield 18, 3) := by decide +kernel
theorem dX0_takeBack_19 : decode cX0_takeBack 19 = .ok (.aload_n 1, 1) := by decide +kernel
theorem dX0_takeBack_20 : decode cX0_takeBack 20 = .ok (.aload_n 0, 1) := by decide +kernel
theorem dX0_takeBack_21 : decode cX0_takeBack 21 = .ok (.getfield 11, 3) := by decide +kernel
theorem dX0_takeBack_24 : decode cX0_takeBack 24 = .ok (.aload_n 0, 1) := by decide +kernel
theorem dX0_takeBack_25 : decode cX0_takeBack 25 = .ok (.getfield 22, 3) := by decide +kernel
theorem dX0_takeBack_28 : decode cX0_takeBack 28 = .ok (.aload_n 0, 1) := by decide +kernel
theorem dX0_takeBack_29 : decode cX0_takeBack 29 = .ok (.getfield 18, 3) := by decide +kernel
theorem dX0_takeBack_32 : decode cX0_takeBack 32 = .ok (.iadd, 1) := by decide +kernel
theorem dX0_takeBack_33 : decode cX0_takeBack 33 = .ok (.bipush 14, 2) := by decide +kernel
theorem dX0_takeBack_35 : decode cX0_takeBack 35 = .ok (.irem, 1) := by decide +kernel
theorem dX0_takeBack_36 : decode cX0_takeBack 36 = .ok (.aaload, 1) := by decide +kernel
theorem dX0_takeBack_37 : decode cX0_takeBack 37 = .ok (.invokevirtual 25, 3) := by decide +kernel
theorem dX0_takeBack_40 : decode cX0_takeBack 40 = .ok (.iconst 1, 1) := by decide +kernel
theorem dX0_takeBack_41 : decode cX0_takeBack 41 = .ok (.ireturn, 1) := by decide +kernel
theorem dX0_forgetAll_0 : decode cX0_forgetAll 0 = .ok (.aload_n 0, 1) := by decide +kernel
theorem dX0_forgetAll_1 : decode cX0_forgetAll 1 = .ok (.iconst 0, 1) := by decide +kernel
theorem dX0_forgetAll_2 : decode cX0_forgetAll 2 = .ok (.putfield 22, 3) := by decide +kernel
theorem dX0_forgetAll_5 : decode cX0_forgetAll 5 = .ok (.aload_n 0, 1) := by decide +kernel
theorem dX0_forgetAll_6 : decode cX0_forgetAll 6 = .ok (.iconst 0, 1) := by decide +kernel
theorem dX0_forgetAll_7 : decode cX0_forgetAll 7 = .ok (.putfield 18, 3) := by decide +kernel
theorem dX0_forgetAll_10 : decode cX0_forgetAll 10 = .ok (.return_, 1) := by decide +kernel
theorem dX1_countRests_0 : decode cX1_countRests 0 = .ok (.iconst 0, 1) := by decide +kernel
theorem dX1_countRests_1 : decode cX1_countRests 1 = .ok (.istore_n 1, 1) := by decide +kernel
theorem dX1_countRests_2 : decode cX1_countRests 2 = .ok (.iconst 0, 1) := by decide +kernel
theorem dX1_countRests_3 : decode cX1_countRests 3 = .ok (.istore_n 2, 1) := by decide +kernel
theorem dX1_countRests_4 : decode cX1_countRests 4 = .ok (.iload_n 2, 1) := by decide +kernel
theorem dX1_countRests_5 : decode cX1_countRests 5 = .ok (.iconst 5, 1) := by decide +kernel
theorem dX1_countRests_6 : decode cX1_countRests 6 = .ok (.if_icmp .ge 34, 3) := by decide +kernel
theorem dX1_countRests_9 : decode cX1_countRests 9 = .ok (.iconst 0, 1) := by decide +kernel
theorem dX1_countRests_10 : decode cX1_countRests 10 = .ok (.istore_n 3, 1) := by decide +kernel
theorem dX1_countRests_11 : decode cX1_countRests 11 = .ok (.iload_n 3, 1) := by decide +kernel
theorem dX1_countRests_12 : decode cX1_countRests 12 = .ok (.iconst 5, 1) := by decide +kernel
theorem dX1_countRests_13 : decode cX1_countRests 13 = .ok (.if_icmp .ge 21, 3) := by decide +kernel
theorem dX1_countRests_16 : decode cX1_countRests 16 = .ok (.iload_n 2, 1) := by decide +kernel
theorem dX1_countRests_17 : decode cX1_countRests 17 = .ok (.iload_n 3, 1) := by decide +kernel
theorem dX1_countRests_18 : decode cX1_countRests 18 = .ok (.iload_n 0, 1) := by decide +kernel
theorem dX1_countRests_19 : decode cX1_countRests 19 = .ok (.invokestatic 11, 3) := by decide +kernel
theorem dX1_countRests_22 : decode cX1_countRests 22 = .ok (.ifCond .eq 6, 3) := by decide +kernel
theorem dX1_countRests_25 : decode cX1_countRests 25 = .ok (.iinc 1 1, 3) := by decide +kernel
theorem dX1_countRests_28 : decode cX1_countRests 28 = .ok (.iinc 3 1, 3) := by decide +kernel
theorem dX1_countRests_31 : decode cX1_countRests 31 = .ok (.goto (-20), 3) := by decide +kernel
theorem dX1_countRests_34 : decode cX1_countRests 34 = .ok (.iinc 2 1, 3) := by decide +kernel
theorem dX1_countRests_37 : decode cX1_countRests 37 = .ok (.goto (-33), 3) := by decide +kernel
theorem dX1_countRests_40 : decode cX1_countRests 40 = .ok (.iload_n 1, 1) := by decide +kernel
theorem dX1_countRests_41 : decode cX1_countRests 41 = .ok (.ireturn, 1) := by decide +kernel
theorem dX1_firstRest_0 : decode cX1_firstRest 0 = .ok (.iconst 0, 1) := by decide +kernel
theorem dX1_firstRest_1 : decode cX1_firstRest 1 = .ok (.istore_n 1, 1) := by decide +kernel
theorem dX1_firstRest_2 : decode cX1_firstRest 2 = .ok (.iload_n 1, 1) := by decide +kernel
theorem dX1_firstRest_3 : decode cX1_firstRest 3 = .ok (.iconst 5, 1) := by decide +kernel
theorem dX1_firstRest_4 : decode cX1_firstRest 4 = .ok (.if_icmp .ge 38, 3) := by decide +kernel
theorem dX1_firstRest_7 : decode cX1_firstRest 7 = .ok (.iconst 0, 1) := by decide +kernel
theorem dX1_firstRest_8 : decode cX1_firstRest 8 = .ok (.istore_n 2, 1) := by decide +kernel
theorem dX1_firstRest_9 : decode cX1_firstRest 9 = .ok (.iload_n 2, 1) := by decide +kernel
theorem dX1_firstRest_10 : decode cX1_firstRest 10 = .ok (.iconst 5, 1) := by decide +kernel
theorem dX1_firstRest_11 : decode cX1_firstRest 11 = .ok (.if_icmp .ge 25, 3) := by decide +kernel
theorem dX1_firstRest_14 : decode cX1_firstRest 14 = .ok (.iload_n 1, 1) := by decide +kernel
theorem dX1_firstRest_15 : decode cX1_firstRest 15 = .ok (.iload_n 2, 1) := by decide +kernel
theorem dX1_firstRest_16 : decode cX1_firstRest 16 = .ok (.iload_n 0, 1) := by decide +kernel
theorem dX1_firstRest_17 : decode cX1_firstRest 17 = .ok (.invokestatic 11, 3) := by decide +kernel
theorem dX1_firstRest_20 : decode cX1_firstRest 20 = .ok (.ifCond .eq 10, 3) := by decide +kernel
theorem dX1_firstRest_23 : decode cX1_firstRest 23 = .ok (.bipush 10, 2) := by decide +kernel
theorem dX1_firstRest_25 : decode cX1_firstRest 25 = .ok (.iload_n 1, 1) := by decide +kernel
theorem dX1_firstRest_26 : decode cX1_firstRest 26 = .ok (.imul, 1) := by decide +kernel
theorem dX1_firstRest_27 : decode cX1_firstRest 27 = .ok (.iload_n 2, 1) := by decide +kernel
theorem dX1_firstRest_28 : decode cX1_firstRest 28 = .ok (.iadd, 1) := by decide +kernel
theorem dX1_firstRest_29 : decode cX1_firstRest 29 = .ok (.ireturn, 1) := by decide +kernel
theorem dX1_firstRest_30 : decode cX1_firstRest 30 = .ok (.iinc 2 1, 3) := by decide +kernel
theorem dX1_firstRest_33 : decode cX1_firstRest 33 = .ok (.goto (-24), 3) := by decide +kernel
theorem dX1_firstRest_36 : decode cX1_firstRest 36 = .ok (.iinc 1 1, 3) := by decide +kernel
theorem dX1_firstRest_39 : decode cX1_firstRest 39 = .ok (.goto (-37), 3) := by decide +kernel
theorem dX1_firstRest_42 : decode cX1_firstRest 42 = .ok (.bipush (-9), 2) := by decide +kernel
theorem dX1_firstRest_44 : decode cX1_firstRest 44 = .ok (.ireturn, 1) := by decide +kernel
theorem dX1_isAtRest_0 : decode cX1_isAtRest 0 = .ok (.iconst 0, 1) := by decide +kernel
theorem dX1_isAtRest_1 : decode cX1_isAtRest 1 = .ok (.istore_n 3, 1) := by decide +kernel
theorem dX1_isAtRest_2 : decode cX1_isAtRest 2 = .ok (.iload_n 3, 1) := by decide +kernel
theorem dX1_isAtRest_3 : decode cX1_isAtRest 3 = .ok (.iconst 5, 1) := by decide +kernel
theorem dX1_isAtRest_4 : decode cX1_isAtRest 4 = .ok (.if_icmp .ge 41, 3) := by decide +kernel
theorem dX1_isAtRest_7 : decode cX1_isAtRest 7 = .ok (.iload_n 3, 1) := by decide +kernel
theorem dX1_isAtRest_8 : decode cX1_isAtRest 8 = .ok (.iload_n 1, 1) := by decide +kernel
theorem dX1_isAtRest_9 : decode cX1_isAtRest 9 = .ok (.invokestatic 15, 3) := by decide +kernel
theorem dX1_isAtRest_12 : decode cX1_isAtRest 12 = .ok (.iload_n 0, 1) := by decide +kernel
theorem dX1_isAtRest_13 : decode cX1_isAtRest 13 = .ok (.iload_n 1, 1) := by decide +kernel
theorem dX1_isAtRest_14 : decode cX1_isAtRest 14 = .ok (.invokestatic 15, 3) := by decide +kernel
theorem dX1_isAtRest_17 : decode cX1_isAtRest 17 = .ok (.if_icmp .le 5, 3) := by decide +kernel
theorem dX1_isAtRest_20 : decode cX1_isAtRest 20 = .ok (.iconst 0, 1) := by decide +kernel
theorem dX1_isAtRest_21 : decode cX1_isAtRest 21 = .ok (.ireturn, 1) := by decide +kernel
theorem dX1_isAtRest_22 : decode cX1_isAtRest 22 = .ok (.iload_n 0, 1) := by decide +kernel
theorem dX1_isAtRest_23 : decode cX1_isAtRest 23 = .ok (.iload_n 3, 1) := by decide +kernel
theorem dX1_isAtRest_24 : decode cX1_isAtRest 24 = .ok (.iload_n 2, 1) := by decide +kernel
theorem dX1_isAtRest_25 : decode cX1_isAtRest 25 = .ok (.invokestatic 19, 3) := by decide +kernel
theorem dX1_isAtRest_28 : decode cX1_isAtRest 28 = .ok (.iload_n 0, 1) := by decide +kernel
theorem dX1_isAtRest_29 : decode cX1_isAtRest 29 = .ok (.iload_n 1, 1) := by decide +kernel
theorem dX1_isAtRest_30 : decode cX1_isAtRest 30 = .ok (.iload_n 2, 1) := by decide +kernel
theorem dX1_isAtRest_31 : decode cX1_isAtRest 31 = .ok (.invokestatic 19, 3) := by decide +kernel
theorem dX1_isAtRest_34 : decode cX1_isAtRest 34 = .ok (.if_icmp .le 5, 3) := by decide +kernel
theorem dX1_isAtRest_37 : decode cX1_isAtRest 37 = .ok (.iconst 0, 1) := by decide +kernel
theorem dX1_isAtRest_38 : decode cX1_isAtRest 38 = .ok (.ireturn, 1) := by decide +kernel
theorem dX1_isAtRest_39 : decode cX1_isAtRest 39 = .ok (.iinc 3 1, 3) := by decide +kernel
theorem dX1_isAtRest_42 : decode cX1_isAtRest 42 = .ok (.goto (-40), 3) := by decide +kernel
theorem dX1_isAtRest_45 : decode cX1_isAtRest 45 = .ok (.iconst 1, 1) := by decide +kernel
theorem dX1_isAtRest_46 : decode cX1_isAtRest 46 = .ok (.ireturn, 1) := by decide +kernel
theorem dX1_holderHas_0 : decode cX1_holderHas 0 = .ok (.iload_n 1, 1) := by decide +kernel
theorem dX1_holderHas_1 : decode cX1_holderHas 1 = .ok (.iload_n 0, 1) := by decide +kernel
theorem dX1_holderHas_2 : decode cX1_holderHas 2 = .ok (.if_icmp .lt 7, 3) := by decide +kernel
theorem dX1_holderHas_5 : decode cX1_holderHas 5 = .ok (.iload_n 1, 1) := by decide +kernel
theorem dX1_holderHas_6 : decode cX1_holderHas 6 = .ok (.goto 4, 3) := by decide +kernel
theorem dX1_holderHas_9 : decode cX1_holderHas 9 = .ok (.iconst 0, 1) := by decide +kernel
theorem dX1_holderHas_10 : decode cX1_holderHas 10 = .ok (.ireturn, 1) := by decide +kernel
theorem dX1_heirHas_0 : decode cX1_heirHas 0 = .ok (.iload_n 1, 1) := by decide +kernel
theorem dX1_heirHas_1 : decode cX1_heirHas 1 = .ok (.iload_n 0, 1) := by decide +kernel
theorem dX1_heirHas_2 : decode cX1_heirHas 2 = .ok (.if_icmp .lt 9, 3) := by decide +kernel
theorem dX1_heirHas_5 : decode cX1_heirHas 5 = .ok (.iload_n 2, 1) := by decide +kernel
theorem dX1_heirHas_6 : decode cX1_heirHas 6 = .ok (.iload_n 1, 1) := by decide +kernel
theorem dX1_heirHas_7 : decode cX1_heirHas 7 = .ok (.isub, 1) := by decide +kernel
theorem dX1_heirHas_8 : decode cX1_heirHas 8 = .ok (.goto 4, 3) := by decide +kernel
theorem dX1_heirHas_11 : decode cX1_heirHas 11 = .ok (.iconst 0, 1) := by decide +kernel
theorem dX1_heirHas_12 : decode cX1_heirHas 12 = .ok (.ireturn, 1) := by decide +kernel
theorem dX2_init_0 : decode cX2_init 0 = .ok (.aload_n 0, 1) := by decide +kernel
theorem dX2_init_1 : decode cX2_init 1 = .ok (.invokespecial 3, 3) := by decide +kernel
theorem dX2_init_4 : decode cX2_init 4 = .ok (.aload_n 0, 1) := by decide +kernel
theorem dX2_init_5 : decode cX2_init 5 = .ok (.iconst 4, 1) := by decide +kernel
theorem dX2_init_6 : decode cX2_init 6 = .ok (.newarray .int, 2) := by decide +kernel
theorem dX2_init_8 : decode cX2_init 8 = .ok (.putfield 9, 3) := by decide +kernel
theorem dX2_init_11 : decode cX2_init 11 = .ok (.return_, 1) := by decide +kernel
theorem dX2_read_0 : decode cX2_read 0 = .ok (.aload_n 0, 1) := by decide +kernel
theorem dX2_read_1 : decode cX2_read 1 = .ok (.iconst 0, 1) := by decide +kernel
theorem dX2_read_2 : decode cX2_read 2 = .ok (.putfield 15, 3) := by decide +kernel
theorem dX2_read_5 : decode cX2_read 5 = .ok (.iload_n 1, 1) := by decide +kernel
theorem dX2_read_6 : decode cX2_read 6 = .ok (.iconst 1, 1) := by decide +kernel
theorem dX2_read_7 : decode cX2_read 7 = .ok (.if_icmp .lt 12, 3) := by decide +kernel
theorem dX2_read_10 : decode cX2_read 10 = .ok (.iload_n 1, 1) := by decide +kernel
theorem dX2_read_11 : decode cX2_read 11 = .ok (.iconst 4, 1) := by decide +kernel
theorem dX2_read_12 : decode cX2_read 12 = .ok (.if_icmp .gt 7, 3) := by decide +kernel
theorem dX2_read_15 : decode cX2_read 15 = .ok (.iload_n 2, 1) := by decide +kernel
theorem dX2_read_16 : decode cX2_read 16 = .ok (.ifCond .ge 5, 3) := by decide +kernel
theorem dX2_read_19 : decode cX2_read 19 = .ok (.iconst 0, 1) := by decide +kernel
theorem dX2_read_20 : decode cX2_read 20 = .ok (.ireturn, 1) := by decide +kernel
theorem dX2_read_21 : decode cX2_read 21 = .ok (.iload_n 2, 1) := by decide +kernel
theorem dX2_read_22 : decode cX2_read 22 = .ok (.istore 4, 2) := by decide +kernel
theorem dX2_read_24 : decode cX2_read 24 = .ok (.iconst 0, 1) := by decide +kernel
theorem dX2_read_25 : decode cX2_read 25 = .ok (.istore 5, 2) := by decide +kernel
theorem dX2_read_27 : decode cX2_read 27 = .ok (.iload_n 1, 1) := by decide +kernel
theorem dX2_read_28 : decode cX2_read 28 = .ok (.iconst 1, 1) := by decide +kernel
theorem dX2_read_29 : decode cX2_read 29 = .ok (.isub, 1) := by decide +kernel
theorem dX2_read_30 : decode cX2_read 30 = .ok (.istore 6, 2) := by decide +kernel
theorem dX2_read_32 : decode cX2_read 32 = .ok (.iload 6, 2) := by decide +kernel
theorem dX2_read_34 : decode cX2_read 34 = .ok (.ifCond .lt 65, 3) := by decide +kernel
theorem dX2_read_37 : decode cX2_read 37 = .ok (.iload 4, 2) := by decide +kernel
theorem dX2_read_39 : decode cX2_read 39 = .ok (.bipush 10, 2) := by decide +kernel
theorem dX2_read_41 : decode cX2_read 41 = .ok (.irem, 1) := by decide +kernel
theorem dX2_read_42 : decode cX2_read 42 = .ok (.iconst 1, 1) := by decide +kernel
theorem dX2_read_43 : decode cX2_read 43 = .ok (.isub, 1) := by decide +kernel
theorem dX2_read_44 : decode cX2_read 44 = .ok (.istore 7, 2) := by decide +kernel
theorem dX2_read_46 : decode cX2_read 46 = .ok (.aload_n 3, 1) := by decide +kernel
theorem dX2_read_47 : decode cX2_read 47 = .ok (.iload 7, 2) := by decide +kernel
theorem dX2_read_49 : decode cX2_read 49 = .ok (.invokevirtual 19, 3) := by decide +kernel
theorem dX2_read_52 : decode cX2_read 52 = .ok (.ifCond .eq 14, 3) := by decide +kernel
theorem dX2_read_55 : decode cX2_read 55 = .ok (.iload 5, 2) := by decide +kernel
theorem dX2_read_57 : decode cX2_read 57 = .ok (.iload 7, 2) := by decide +kernel
theorem dX2_read_59 : decode cX2_read 59 = .ok (.ishr, 1) := by decide +kernel
theorem dX2_read_60 : decode cX2_read 60 = .ok (.iconst 1, 1) := by decide +kernel
theorem dX2_read_61 : decode cX2_read 61 = .ok (.iand, 1) := by decide +kernel
theorem dX2_read_62 : decode cX2_read 62 = .ok (.iconst 1, 1) := by decide +kernel
theorem dX2_read_63 : decode cX2_read 63 = .ok (.if_icmp .ne 5, 3) := by decide +kernel
theorem dX2_read_66 : decode cX2_read 66 = .ok (.iconst 0, 1) := by decide +kernel
theorem dX2_read_67 : decode cX2_read 67 = .ok (.ireturn, 1) := by decide +kernel
theorem dX2_read_68 : decode cX2_read 68 = .ok (.iload 5, 2) := by decide +kernel
theorem dX2_read_70 : decode cX2_read 70 = .ok (.iconst 1, 1) := by decide +kernel
theorem dX2_read_71 : decode cX2_read 71 = .ok (.iload 7, 2) := by decide +kernel
theorem dX2_read_73 : decode cX2_read 73 = .ok (.ishl, 1) := by decide +kernel
theorem dX2_read_74 : decode cX2_read 74 = .ok (.ior, 1) := by decide +kernel
theorem dX2_read_75 : decode cX2_read 75 = .ok (.istore 5, 2) := by decide +kernel
theorem dX2_read_77 : decode cX2_read 77 = .ok (.aload_n 0, 1) := by decide +kernel
theorem dX2_read_78 : decode cX2_read 78 = .ok (.getfield 9, 3) := by decide +kernel
theorem dX2_read_81 : decode cX2_read 81 = .ok (.iload 6, 2) := by decide +kernel
theorem dX2_read_83 : decode cX2_read 83 = .ok (.iload 7, 2) := by decide +kernel
theorem dX2_read_85 : decode cX2_read 85 = .ok (.iastore, 1) := by decide +kernel
theorem dX2_read_86 : decode cX2_read 86 = .ok (.iload 4, 2) := by decide +kernel
theorem dX2_read_88 : decode cX2_read 88 = .ok (.bipush 10, 2) := by decide +kernel
theorem dX2_read_90 : decode cX2_read 90 = .ok (.idiv, 1) := by decide +kernel
theorem dX2_read_91 : decode cX2_read 91 = .ok (.istore 4, 2) := by decide +kernel
theorem dX2_read_93 : decode cX2_read 93 = .ok (.iinc 6 (-1), 3) := by decide +kernel
theorem dX2_read_96 : decode cX2_read 96 = .ok (.goto (-64), 3) := by decide +kernel
theorem dX2_read_99 : decode cX2_read 99 = .ok (.aload_n 0, 1) := by decide +kernel
theorem dX2_read_100 : decode cX2_read 100 = .ok (.iload_n 1, 1) := by decide +kernel
theorem dX2_read_101 : decode cX2_read 101 = .ok (.putfield 15, 3) := by decide +kernel
theorem dX2_read_104 : decode cX2_read 104 = .ok (.iload 4, 2) := by decide +kernel
theorem dX2_read_106 : decode cX2_read 106 = .ok (.ifCond .ne 7, 3) := by decide +kernel
theorem dX2_read_109 : decode cX2_read 109 = .ok (.iconst 1, 1) := by decide +kernel
theorem dX2_read_110 : decode cX2_read 110 = .ok (.goto 4, 3) := by decide +kernel
theorem dX2_read_113 : decode cX2_read 113 = .ok (.iconst 0, 1) := by decide +kernel
theorem dX2_read_114 : decode cX2_read 114 = .ok (.ireturn, 1) := by decide +kernel
theorem dX2_befall_0 : decode cX2_befall 0 = .ok (.iconst 0, 1) := by decide +kernel
theorem dX2_befall_1 : decode cX2_befall 1 = .ok (.istore_n 3, 1) := by decide +kernel
theorem dX2_befall_2 : decode cX2_befall 2 = .ok (.iload_n 3, 1) := by decide +kernel
theorem dX2_befall_3 : decode cX2_befall 3 = .ok (.aload_n 0, 1) := by decide +kernel
theorem dX2_befall_4 : decode cX2_befall 4 = .ok (.getfield 15, 3) := by decide +kernel
theorem dX2_befall_7 : decode cX2_befall 7 = .ok (.if_icmp .ge 25, 3) := by decide +kernel
theorem dX2_befall_10 : decode cX2_befall 10 = .ok (.iload_n 3, 1) := by decide +kernel
theorem dX2_befall_11 : decode cX2_befall 11 = .ok (.iconst 4, 1) := by decide +kernel
theorem dX2_befall_12 : decode cX2_befall 12 = .ok (.if_icmp .ge 20, 3) := by decide +kernel
theorem dX2_befall_15 : decode cX2_befall 15 = .ok (.aload_n 1, 1) := by decide +kernel
theorem dX2_befall_16 : decode cX2_befall 16 = .ok (.aload_n 0, 1) := by decide +kernel
theorem dX2_befall_17 : decode cX2_befall 17 = .ok (.getfield 9, 3) := by decide +kernel
theorem dX2_befall_20 : decode cX2_befall 20 = .ok (.iload_n 3, 1) := by decide +kernel
theorem dX2_befall_21 : decode cX2_befall 21 = .ok (.iaload, 1) := by decide +kernel
theorem dX2_befall_22 : decode cX2_befall 22 = .ok (.aload_n 2, 1) := by decide +kernel
theorem dX2_befall_23 : decode cX2_befall 23 = .ok (.invokevirtual 25, 3) := by decide +kernel
theorem dX2_befall_26 : decode cX2_befall 26 = .ok (.iinc 3 1, 3) := by decide +kernel
theorem dX2_befall_29 : decode cX2_befall 29 = .ok (.goto (-27), 3) := by decide +kernel
theorem dX2_befall_32 : decode cX2_befall 32 = .ok (.return_, 1) := by decide +kernel
theorem dX3_init_0 : decode cX3_init 0 = .ok (.aload_n 0, 1) := by decide +kernel
theorem dX3_init_1 : decode cX3_init 1 = .ok (.invokespecial 3, 3) := by decide +kernel
theorem dX3_init_4 : decode cX3_init 4 = .ok (.aload_n 0, 1) := by decide +kernel
theorem dX3_init_5 : decode cX3_init 5 = .ok (.iconst 5, 1) := by decide +kernel
theorem dX3_init_6 : decode cX3_init 6 = .ok (.bipush 10, 2) := by decide +kernel
theorem dX3_init_8 : decode cX3_init 8 = .ok (.multianewarray 9 2, 4) := by decide +kernel
theorem dX3_init_12 : decode cX3_init 12 = .ok (.putfield 11, 3) := by decide +kernel
theorem dX3_init_15 : decode cX3_init 15 = .ok (.return_, 1) := by decide +kernel
theorem dX3_reckon_0 : decode cX3_reckon 0 = .ok (.iconst 0, 1) := by decide +kernel
theorem dX3_reckon_1 : decode cX3_reckon 1 = .ok (.istore_n 3, 1) := by decide +kernel
theorem dX3_reckon_2 : decode cX3_reckon 2 = .ok (.iload_n 3, 1) := by decide +kernel
theorem dX3_reckon_3 : decode cX3_reckon 3 = .ok (.bipush 9, 2) := by decide +kernel
theorem dX3_reckon_5 : decode cX3_reckon 5 = .ok (.if_icmp .gt 28, 3) := by decide +kernel
theorem dX3_reckon_8 : decode cX3_reckon 8 = .ok (.aload_n 0, 1) := by decide +kernel
theorem dX3_reckon_9 : decode cX3_reckon 9 = .ok (.getfield 11, 3) := by decide +kernel
theorem dX3_reckon_12 : decode cX3_reckon 12 = .ok (.iconst 0, 1) := by decide +kernel
theorem dX3_reckon_13 : decode cX3_reckon 13 = .ok (.aaload, 1) := by decide +kernel
theorem dX3_reckon_14 : decode cX3_reckon 14 = .ok (.iload_n 3, 1) := by decide +kernel
theorem dX3_reckon_15 : decode cX3_reckon 15 = .ok (.iload_n 2, 1) := by decide +kernel
theorem dX3_reckon_16 : decode cX3_reckon 16 = .ok (.ifCond .eq 9, 3) := by decide +kernel
theorem dX3_reckon_19 : decode cX3_reckon 19 = .ok (.iconst 2, 1) := by decide +kernel
theorem dX3_reckon_20 : decode cX3_reckon 20 = .ok (.iload_n 3, 1) := by decide +kernel
theorem dX3_reckon_21 : decode cX3_reckon 21 = .ok (.imul, 1) := by decide +kernel
theorem dX3_reckon_22 : decode cX3_reckon 22 = .ok (.goto 4, 3) := by decide +kernel
theorem dX3_reckon_25 : decode cX3_reckon 25 = .ok (.iconst 0, 1) := by decide +kernel
theorem dX3_reckon_26 : decode cX3_reckon 26 = .ok (.iastore, 1) := by decide +kernel
theorem dX3_reckon_27 : decode cX3_reckon 27 = .ok (.iinc 3 1, 3) := by decide +kernel
theorem dX3_reckon_30 : decode cX3_reckon 30 = .ok (.goto (-28), 3) := by decide +kernel
theorem dX3_reckon_33 : decode cX3_reckon 33 = .ok (.iconst 1, 1) := by decide +kernel
theorem dX3_reckon_34 : decode cX3_reckon 34 = .ok (.istore_n 3, 1) := by decide +kernel
theorem dX3_reckon_35 : decode cX3_reckon 35 = .ok (.iload_n 3, 1) := by decide +kernel
theorem dX3_reckon_36 : decode cX3_reckon 36 = .ok (.iload_n 1, 1) := by decide +kernel
theorem dX3_reckon_37 : decode cX3_reckon 37 = .ok (.if_icmp .gt 57, 3) := by decide +kernel
theorem dX3_reckon_40 : decode cX3_reckon 40 = .ok (.iload_n 3, 1) := by decide +kernel
theorem dX3_reckon_41 : decode cX3_reckon 41 = .ok (.iconst 4, 1) := by decide +kernel
theorem dX3_reckon_42 : decode cX3_reckon 42 = .ok (.if_icmp .gt 52, 3) := by decide +kernel
theorem dX3_reckon_45 : decode cX3_reckon 45 = .ok (.iconst 0, 1) := by decide +kernel
theorem dX3_reckon_46 : decode cX3_reckon 46 = .ok (.istore 4, 2) := by decide +kernel
theorem dX3_reckon_48 : decode cX3_reckon 48 = .ok (.iload 4, 2) := by decide +kernel
theorem dX3_reckon_50 : decode cX3_reckon 50 = .ok (.bipush 9, 2) := by decide +kernel
theorem dX3_reckon_52 : decode cX3_reckon 52 = .ok (.if_icmp .gt 36, 3) := by decide +kernel
theorem dX3_reckon_55 : decode cX3_reckon 55 = .ok (.aload_n 0, 1) := by decide +kernel
theorem dX3_reckon_56 : decode cX3_reckon 56 = .ok (.iload_n 3, 1) := by decide +kernel
theorem dX3_reckon_57 : decode cX3_reckon 57 = .ok (.iload 4, 2) := by decide +kernel
theorem dX3_reckon_59 : decode cX3_reckon 59 = .ok (.invokevirtual 16, 3) := by decide +kernel
theorem dX3_reckon_62 : decode cX3_reckon 62 = .ok (.istore 5, 2) := by decide +kernel
theorem dX3_reckon_64 : decode cX3_reckon 64 = .ok (.aload_n 0, 1) := by decide +kernel
theorem dX3_reckon_65 : decode cX3_reckon 65 = .ok (.getfield 11, 3) := by decide +kernel
theorem dX3_reckon_68 : decode cX3_reckon 68 = .ok (.iload_n 3, 1) := by decide +kernel
theorem dX3_reckon_69 : decode cX3_reckon 69 = .ok (.aaload, 1) := by decide +kernel
theorem dX3_reckon_70 : decode cX3_reckon 70 = .ok (.iload 4, 2) := by decide +kernel
theorem dX3_reckon_72 : decode cX3_reckon 72 = .ok (.aload_n 0, 1) := by decide +kernel
theorem dX3_reckon_73 : decode cX3_reckon 73 = .ok (.iload_n 3, 1) := by decide +kernel
theorem dX3_reckon_74 : decode cX3_reckon 74 = .ok (.iload 4, 2) := by decide +kernel
theorem dX3_reckon_76 : decode cX3_reckon 76 = .ok (.iload 5, 2) := by decide +kernel
theorem dX3_reckon_78 : decode cX3_reckon 78 = .ok (.invokevirtual 20, 3) := by decide +kernel
theorem dX3_reckon_81 : decode cX3_reckon 81 = .ok (.iastore, 1) := by decide +kernel
theorem dX3_reckon_82 : decode cX3_reckon 82 = .ok (.iinc 4 1, 3) := by decide +kernel
theorem dX3_reckon_85 : decode cX3_reckon 85 = .ok (.goto (-37), 3) := by decide +kernel
theorem dX3_reckon_88 : decode cX3_reckon 88 = .ok (.iinc 3 1, 3) := by decide +kernel
theorem dX3_reckon_91 : decode cX3_reckon 91 = .ok (.goto (-56), 3) := by decide +kernel
theorem dX3_reckon_94 : decode cX3_reckon 94 = .ok (.return_, 1) := by decide +kernel
theorem dX3_mostFor_0 : decode cX3_mostFor 0 = .ok (.iload_n 1, 1) := by decide +kernel
theorem dX3_mostFor_1 : decode cX3_mostFor 1 = .ok (.ifCond .lt 18, 3) := by decide +kernel
theorem dX3_mostFor_4 : decode cX3_mostFor 4 = .ok (.iload_n 1, 1) := by decide +kernel
theorem dX3_mostFor_5 : decode cX3_mostFor 5 = .ok (.iconst 4, 1) := by decide +kernel
theorem dX3_mostFor_6 : decode cX3_mostFor 6 = .ok (.if_icmp .gt 13, 3) := by decide +kernel
theorem dX3_mostFor_9 : decode cX3_mostFor 9 = .ok (.iload_n 2, 1) := by decide +kernel
theorem dX3_mostFor_10 : decode cX3_mostFor 10 = .ok (.ifCond .lt 9, 3) := by decide +kernel
theorem dX3_mostFor_13 : decode cX3_mostFor 13 = .ok (.iload_n 2, 1) := by decide +kernel
theorem dX3_mostFor_14 : decode cX3_mostFor 14 = .ok (.bipush 9, 2) := by decide +kernel
theorem dX3_mostFor_16 : decode cX3_mostFor 16 = .ok (.if_icmp .le 5, 3) := by decide +kernel
theorem dX3_mostFor_19 : decode cX3_mostFor 19 = .ok (.iconst 0, 1) := by decide +kernel
theorem dX3_mostFor_20 : decode cX3_mostFor 20 = .ok (.ireturn, 1) := by decide +kernel
theorem dX3_mostFor_21 : decode cX3_mostFor 21 = .ok (.aload_n 0, 1) := by decide +kernel
theorem dX3_mostFor_22 : decode cX3_mostFor 22 = .ok (.getfield 11, 3) := by decide +kernel
theorem dX3_mostFor_25 : decode cX3_mostFor 25 = .ok (.iload_n 1, 1) := by decide +kernel
theorem dX3_mostFor_26 : decode cX3_mostFor 26 = .ok (.aaload, 1) := by decide +kernel
theorem dX3_mostFor_27 : decode cX3_mostFor 27 = .ok (.iload_n 2, 1) := by decide +kernel
theorem dX3_mostFor_28 : decode cX3_mostFor 28 = .ok (.iaload, 1) := by decide +kernel
theorem dX3_mostFor_29 : decode cX3_mostFor 29 = .ok (.ireturn, 1) := by decide +kernel
theorem dX3_firstRow_0 : decode cX3_firstRow 0 = .ok (.iconst 1, 1) := by decide +kernel
theorem dX3_firstRow_1 : decode cX3_firstRow 1 = .ok (.istore_n 3, 1) := by decide +kernel
theorem dX3_firstRow_2 : decode cX3_firstRow 2 = .ok (.iload_n 2, 1) := by decide +kernel
theorem dX3_firstRow_3 : decode cX3_firstRow 3 = .ok (.istore 4, 2) := by decide +kernel
theorem dX3_firstRow_5 : decode cX3_firstRow 5 = .ok (.iload_n 1, 1) := by decide +kernel
theorem dX3_firstRow_6 : decode cX3_firstRow 6 = .ok (.iconst 4, 1) := by decide +kernel
theorem dX3_firstRow_7 : decode cX3_firstRow 7 = .ok (.invokestatic 24, 3) := by decide +kernel
theorem dX3_firstRow_10 : decode cX3_firstRow 10 = .ok (.istore 5, 2) := by decide +kernel
theorem dX3_firstRow_12 : decode cX3_firstRow 12 = .ok (.iload 5, 2) := by decide +kernel
theorem dX3_firstRow_14 : decode cX3_firstRow 14 = .ok (.ifCond .le 37, 3) := by decide +kernel
theorem dX3_firstRow_17 : decode cX3_firstRow 17 = .ok (.aload_n 0, 1) := by decide +kernel
theorem dX3_firstRow_18 : decode cX3_firstRow 18 = .ok (.iload 5, 2) := by decide +kernel
theorem dX3_firstRow_20 : decode cX3_firstRow 20 = .ok (.iload 4, 2) := by decide +kernel
theorem dX3_firstRow_22 : decode cX3_firstRow 22 = .ok (.invokevirtual 16, 3) := by decide +kernel
theorem dX3_firstRow_25 : decode cX3_firstRow 25 = .ok (.istore 6, 2) := by decide +kernel
theorem dX3_firstRow_27 : decode cX3_firstRow 27 = .ok (.iload_n 3, 1) := by decide +kernel
theorem dX3_firstRow_28 : decode cX3_firstRow 28 = .ok (.bipush 10, 2) := by decide +kernel
theorem dX3_firstRow_30 : decode cX3_firstRow 30 = .ok (.imul, 1) := by decide +kernel
theorem dX3_firstRow_31 : decode cX3_firstRow 31 = .ok (.iload 6, 2) := by decide +kernel
theorem dX3_firstRow_33 : decode cX3_firstRow 33 = .ok (.iadd, 1) := by decide +kernel
theorem dX3_firstRow_34 : decode cX3_firstRow 34 = .ok (.istore_n 3, 1) := by decide +kernel
theorem dX3_firstRow_35 : decode cX3_firstRow 35 = .ok (.iload 4, 2) := by decide +kernel
theorem dX3_firstRow_37 : decode cX3_firstRow 37 = .ok (.iload 6, 2) := by decide +kernel
theorem dX3_firstRow_39 : decode cX3_firstRow 39 = .ok (.isub, 1) := by decide +kernel
theorem dX3_firstRow_40 : decode cX3_firstRow 40 = .ok (.invokestatic 29, 3) := by decide +kernel
theorem dX3_firstRow_43 : decode cX3_firstRow 43 = .ok (.istore 4, 2) := by decide +kernel
theorem dX3_firstRow_45 : decode cX3_firstRow 45 = .ok (.iinc 5 (-1), 3) := by decide +kernel
theorem dX3_firstRow_48 : decode cX3_firstRow 48 = .ok (.goto (-36), 3) := by decide +kernel
theorem dX3_firstRow_51 : decode cX3_firstRow 51 = .ok (.iload_n 3, 1) := by decide +kernel
theorem dX3_firstRow_52 : decode cX3_firstRow 52 = .ok (.ireturn, 1) := by decide +kernel
theorem dX3_firstBestCut_0 : decode cX3_firstBestCut 0 = .ok (.iconst 0, 1) := by decide +kernel
theorem dX3_firstBestCut_1 : decode cX3_firstBestCut 1 = .ok (.istore_n 3, 1) := by decide +kernel
theorem dX3_firstBestCut_2 : decode cX3_firstBestCut 2 = .ok (.iconst 1, 1) := by decide +kernel
theorem dX3_firstBestCut_3 : decode cX3_firstBestCut 3 = .ok (.istore 4, 2) := by decide +kernel
theorem dX3_firstBestCut_5 : decode cX3_firstBestCut 5 = .ok (.iload 4, 2) := by decide +kernel
theorem dX3_firstBestCut_7 : decode cX3_firstBestCut 7 = .ok (.iconst 3, 1) := by decide +kernel
theorem dX3_firstBestCut_8 : decode cX3_firstBestCut 8 = .ok (.if_icmp .gt 36, 3) := by decide +kernel
theorem dX3_firstBestCut_11 : decode cX3_firstBestCut 11 = .ok (.iload 4, 2) := by decide +kernel
theorem dX3_firstBestCut_13 : decode cX3_firstBestCut 13 = .ok (.iload_n 2, 1) := by decide +kernel
theorem dX3_firstBestCut_14 : decode cX3_firstBestCut 14 = .ok (.if_icmp .gt 30, 3) := by decide +kernel
theorem dX3_firstBestCut_17 : decode cX3_firstBestCut 17 = .ok (.aload_n 0, 1) := by decide +kernel
theorem dX3_firstBestCut_18 : decode cX3_firstBestCut 18 = .ok (.iload_n 1, 1) := by decide +kernel
theorem dX3_firstBestCut_19 : decode cX3_firstBestCut 19 = .ok (.iload_n 2, 1) := by decide +kernel
theorem dX3_firstBestCut_20 : decode cX3_firstBestCut 20 = .ok (.iload 4, 2) := by decide +kernel
theorem dX3_firstBestCut_22 : decode cX3_firstBestCut 22 = .ok (.invokevirtual 20, 3) := by decide +kernel
theorem dX3_firstBestCut_25 : decode cX3_firstBestCut 25 = .ok (.aload_n 0, 1) := by decide +kernel
theorem dX3_firstBestCut_26 : decode cX3_firstBestCut 26 = .ok (.iload_n 1, 1) := by decide +kernel
theorem dX3_firstBestCut_27 : decode cX3_firstBestCut 27 = .ok (.iload_n 2, 1) := by decide +kernel
theorem dX3_firstBestCut_28 : decode cX3_firstBestCut 28 = .ok (.iload_n 3, 1) := by decide +kernel
theorem dX3_firstBestCut_29 : decode cX3_firstBestCut 29 = .ok (.invokevirtual 20, 3) := by decide +kernel
theorem dX3_firstBestCut_32 : decode cX3_firstBestCut 32 = .ok (.if_icmp .le 6, 3) := by decide +kernel
theorem dX3_firstBestCut_35 : decode cX3_firstBestCut 35 = .ok (.iload 4, 2) := by decide +kernel
theorem dX3_firstBestCut_37 : decode cX3_firstBestCut 37 = .ok (.istore_n 3, 1) := by decide +kernel
theorem dX3_firstBestCut_38 : decode cX3_firstBestCut 38 = .ok (.iinc 4 1, 3) := by decide +kernel
theorem dX3_firstBestCut_41 : decode cX3_firstBestCut 41 = .ok (.goto (-36), 3) := by decide +kernel
theorem dX3_firstBestCut_44 : decode cX3_firstBestCut 44 = .ok (.iload_n 3, 1) := by decide +kernel
theorem dX3_firstBestCut_45 : decode cX3_firstBestCut 45 = .ok (.ireturn, 1) := by decide +kernel
theorem dX3_worth_0 : decode cX3_worth 0 = .ok (.iload_n 3, 1) := by decide +kernel
theorem dX3_worth_1 : decode cX3_worth 1 = .ok (.aload_n 0, 1) := by decide +kernel
theorem dX3_worth_2 : decode cX3_worth 2 = .ok (.iload_n 1, 1) := by decide +kernel
theorem dX3_worth_3 : decode cX3_worth 3 = .ok (.iconst 1, 1) := by decide +kernel
theorem dX3_worth_4 : decode cX3_worth 4 = .ok (.isub, 1) := by decide +kernel
theorem dX3_worth_5 : decode cX3_worth 5 = .ok (.iload_n 2, 1) := by decide +kernel
theorem dX3_worth_6 : decode cX3_worth 6 = .ok (.iload_n 3, 1) := by decide +kernel
theorem dX3_worth_7 : decode cX3_worth 7 = .ok (.isub, 1) := by decide +kernel
theorem dX3_worth_8 : decode cX3_worth 8 = .ok (.invokestatic 29, 3) := by decide +kernel
theorem dX3_worth_11 : decode cX3_worth 11 = .ok (.invokevirtual 33, 3) := by decide +kernel
theorem dX3_worth_14 : decode cX3_worth 14 = .ok (.iadd, 1) := by decide +kernel
theorem dX3_worth_15 : decode cX3_worth 15 = .ok (.ireturn, 1) := by decide +kernel
theorem dX3_grown_0 : decode cX3_grown 0 = .ok (.bipush 9, 2) := by decide +kernel
theorem dX3_grown_2 : decode cX3_grown 2 = .ok (.iload_n 0, 1) := by decide +kernel
theorem dX3_grown_3 : decode cX3_grown 3 = .ok (.iconst 1, 1) := by decide +kernel
theorem dX3_grown_4 : decode cX3_grown 4 = .ok (.iadd, 1) := by decide +kernel
theorem dX3_grown_5 : decode cX3_grown 5 = .ok (.invokestatic 24, 3) := by decide +kernel
theorem dX3_grown_8 : decode cX3_grown 8 = .ok (.ireturn, 1) := by decide +kernel
theorem dX4_part_0 : decode cX4_part 0 = .ok (.iload_n 0, 1) := by decide +kernel
theorem dX4_part_1 : decode cX4_part 1 = .ok (.iload_n 1, 1) := by decide +kernel
theorem dX4_part_2 : decode cX4_part 2 = .ok (.invokestatic 7, 3) := by decide +kernel
theorem dX4_part_5 : decode cX4_part 5 = .ok (.istore_n 3, 1) := by decide +kernel
theorem dX4_part_6 : decode cX4_part 6 = .ok (.iload_n 3, 1) := by decide +kernel
theorem dX4_part_7 : decode cX4_part 7 = .ok (.ifCond .ne 5, 3) := by decide +kernel
theorem dX4_part_10 : decode cX4_part 10 = .ok (.iconst 0, 1) := by decide +kernel
theorem dX4_part_11 : decode cX4_part 11 = .ok (.ireturn, 1) := by decide +kernel
theorem dX4_part_12 : decode cX4_part 12 = .ok (.iload_n 2, 1) := by decide +kernel
theorem dX4_part_13 : decode cX4_part 13 = .ok (.ifCond .eq 9, 3) := by decide +kernel
theorem dX4_part_16 : decode cX4_part 16 = .ok (.iload_n 0, 1) := by decide +kernel
theorem dX4_part_17 : decode cX4_part 17 = .ok (.iload_n 3, 1) := by decide +kernel
theorem dX4_part_18 : decode cX4_part 18 = .ok (.idiv, 1) := by decide +kernel
theorem dX4_part_19 : decode cX4_part 19 = .ok (.goto 6, 3) := by decide +kernel
theorem dX4_part_22 : decode cX4_part 22 = .ok (.iload_n 1, 1) := by decide +kernel
theorem dX4_part_23 : decode cX4_part 23 = .ok (.iload_n 3, 1) := by decide +kernel
theorem dX4_part_24 : decode cX4_part 24 = .ok (.idiv, 1) := by decide +kernel
theorem dX4_part_25 : decode cX4_part 25 = .ok (.ireturn, 1) := by decide +kernel
theorem dX4_greatestCommon_0 : decode cX4_greatestCommon 0 = .ok (.iload_n 0, 1) := by decide +kernel
theorem dX4_greatestCommon_1 : decode cX4_greatestCommon 1 = .ok (.istore_n 2, 1) := by decide +kernel
theorem dX4_greatestCommon_2 : decode cX4_greatestCommon 2 = .ok (.iload_n 1, 1) := by decide +kernel
theorem dX4_greatestCommon_3 : decode cX4_greatestCommon 3 = .ok (.istore_n 3, 1) := by decide +kernel
theorem dX4_greatestCommon_4 : decode cX4_greatestCommon 4 = .ok (.iconst 0, 1) := by decide +kernel
theorem dX4_greatestCommon_5 : decode cX4_greatestCommon 5 = .ok (.istore 4, 2) := by decide +kernel
theorem dX4_greatestCommon_7 : decode cX4_greatestCommon 7 = .ok (.iload 4, 2) := by decide +kernel
theorem dX4_greatestCommon_9 : decode cX4_greatestCommon 9 = .ok (.bipush 64, 2) := by decide +kernel
theorem dX4_greatestCommon_11 : decode cX4_greatestCommon 11 = .ok (.if_icmp .ge 23, 3) := by decide +kernel
theorem dX4_greatestCommon_14 : decode cX4_greatestCommon 14 = .ok (.iload_n 3, 1) := by decide +kernel
theorem dX4_greatestCommon_15 : decode cX4_greatestCommon 15 = .ok (.ifCond .eq 19, 3) := by decide +kernel
theorem dX4_greatestCommon_18 : decode cX4_greatestCommon 18 = .ok (.iload_n 2, 1) := by decide +kernel
theorem dX4_greatestCommon_19 : decode cX4_greatestCommon 19 = .ok (.iload_n 3, 1) := by decide +kernel
theorem dX4_greatestCommon_20 : decode cX4_greatestCommon 20 = .ok (.irem, 1) := by decide +kernel
theorem dX4_greatestCommon_21 : decode cX4_greatestCommon 21 = .ok (.istore 5, 2) := by decide +kernel
theorem dX4_greatestCommon_23 : decode cX4_greatestCommon 23 = .ok (.iload_n 3, 1) := by decide +kernel
theorem dX4_greatestCommon_24 : decode cX4_greatestCommon 24 = .ok (.istore_n 2, 1) := by decide +kernel
theorem dX4_greatestCommon_25 : decode cX4_greatestCommon 25 = .ok (.iload 5, 2) := by decide +kernel
theorem dX4_greatestCommon_27 : decode cX4_greatestCommon 27 = .ok (.istore_n 3, 1) := by decide +kernel
theorem dX4_greatestCommon_28 : decode cX4_greatestCommon 28 = .ok (.iinc 4 1, 3) := by decide +kernel
theorem dX4_greatestCommon_31 : decode cX4_greatestCommon 31 = .ok (.goto (-24), 3) := by decide +kernel
theorem dX4_greatestCommon_34 : decode cX4_greatestCommon 34 = .ok (.iload_n 2, 1) := by decide +kernel
theorem dX4_greatestCommon_35 : decode cX4_greatestCommon 35 = .ok (.ireturn, 1) := by decide +kernel
theorem dX5_init_0 : decode cX5_init 0 = .ok (.aload_n 0, 1) := by decide +kernel
theorem dX5_init_1 : decode cX5_init 1 = .ok (.invokespecial 3, 3) := by decide +kernel
theorem dX5_init_4 : decode cX5_init 4 = .ok (.aload_n 0, 1) := by decide +kernel
theorem dX5_init_5 : decode cX5_init 5 = .ok (.bipush 7, 2) := by decide +kernel
theorem dX5_init_7 : decode cX5_init 7 = .ok (.newarray .int, 2) := by decide +kernel
theorem dX5_init_9 : decode cX5_init 9 = .ok (.putfield 9, 3) := by decide +kernel
theorem dX5_init_12 : decode cX5_init 12 = .ok (.return_, 1) := by decide +kernel
theorem dX5_listLine_0 : decode cX5_listLine 0 = .ok (.aload_n 0, 1) := by decide +kernel
theorem dX5_listLine_1 : decode cX5_listLine 1 = .ok (.iconst 0, 1) := by decide +kernel
theorem dX5_listLine_2 : decode cX5_listLine 2 = .ok (.putfield 15, 3) := by decide +kernel
theorem dX5_listLine_5 : decode cX5_listLine 5 = .ok (.aload_n 0, 1) := by decide +kernel
theorem dX5_listLine_6 : decode cX5_listLine 6 = .ok (.iconst 0, 1) := by decide +kernel
theorem dX5_listLine_7 : decode cX5_listLine 7 = .ok (.putfield 19, 3) := by decide +kernel
theorem dX5_listLine_10 : decode cX5_listLine 10 = .ok (.aload_n 0, 1) := by decide +kernel
theorem dX5_listLine_11 : decode cX5_listLine 11 = .ok (.aload_n 1, 1) := by decide +kernel
theorem dX5_listLine_12 : decode cX5_listLine 12 = .ok (.iload_n 2, 1) := by decide +kernel
theorem dX5_listLine_13 : decode cX5_listLine 13 = .ok (.iload_n 3, 1) := by decide +kernel
theorem dX5_listLine_14 : decode cX5_listLine 14 = .ok (.iconst 0, 1) := by decide +kernel
theorem dX5_listLine_15 : decode cX5_listLine 15 = .ok (.invokevirtual 22, 3) := by decide +kernel
theorem dX5_listLine_18 : decode cX5_listLine 18 = .ok (.return_, 1) := by decide +kernel
theorem dX5_listHeirs_0 : decode cX5_listHeirs 0 = .ok (.aload_n 0, 1) := by decide +kernel
theorem dX5_listHeirs_1 : decode cX5_listHeirs 1 = .ok (.iconst 0, 1) := by decide +kernel
theorem dX5_listHeirs_2 : decode cX5_listHeirs 2 = .ok (.putfield 15, 3) := by decide +kernel
theorem dX5_listHeirs_5 : decode cX5_listHeirs 5 = .ok (.aload_n 1, 1) := by decide +kernel
theorem dX5_listHeirs_6 : decode cX5_listHeirs 6 = .ok (.iload_n 2, 1) := by decide +kernel
theorem dX5_listHeirs_7 : decode cX5_listHeirs 7 = .ok (.invokevirtual 26, 3) := by decide +kernel
theorem dX5_listHeirs_10 : decode cX5_listHeirs 10 = .ok (.ifCond .ne 4, 3) := by decide +kernel
theorem dX5_listHeirs_13 : decode cX5_listHeirs 13 = .ok (.return_, 1) := by decide +kernel
theorem dX5_listHeirs_14 : decode cX5_listHeirs 14 = .ok (.aload_n 0, 1) := by decide +kernel
theorem dX5_listHeirs_15 : decode cX5_listHeirs 15 = .ok (.iconst 1, 1) := by decide +kernel
theorem dX5_listHeirs_16 : decode cX5_listHeirs 16 = .ok (.iload_n 2, 1) := by decide +kernel
theorem dX5_listHeirs_17 : decode cX5_listHeirs 17 = .ok (.ishl, 1) := by decide +kernel
theorem dX5_listHeirs_18 : decode cX5_listHeirs 18 = .ok (.putfield 19, 3) := by decide +kernel
theorem dX5_listHeirs_21 : decode cX5_listHeirs 21 = .ok (.aload_n 0, 1) := by decide +kernel
theorem dX5_listHeirs_22 : decode cX5_listHeirs 22 = .ok (.aload_n 1, 1) := by decide +kernel
theorem dX5_listHeirs_23 : decode cX5_listHeirs 23 = .ok (.iload_n 2, 1) := by decide +kernel
theorem dX5_listHeirs_24 : decode cX5_listHeirs 24 = .ok (.iload_n 3, 1) := by decide +kernel
theorem dX5_listHeirs_25 : decode cX5_listHeirs 25 = .ok (.iconst 0, 1) := by decide +kernel
theorem dX5_listHeirs_26 : decode cX5_listHeirs 26 = .ok (.invokevirtual 32, 3) := by decide +kernel
theorem dX5_listHeirs_29 : decode cX5_listHeirs 29 = .ok (.aload_n 1, 1) := by decide +kernel
theorem dX5_listHeirs_30 : decode cX5_listHeirs 30 = .ok (.iload_n 2, 1) := by decide +kernel
theorem dX5_listHeirs_31 : decode cX5_listHeirs 31 = .ok (.invokevirtual 35, 3) := by decide +kernel
theorem dX5_listHeirs_34 : decode cX5_listHeirs 34 = .ok (.istore 4, 2) := by decide +kernel
theorem dX5_listHeirs_36 : decode cX5_listHeirs 36 = .ok (.iconst 0, 1) := by decide +kernel
theorem dX5_listHeirs_37 : decode cX5_listHeirs 37 = .ok (.istore 5, 2) := by decide +kernel
theorem dX5_listHeirs_39 : decode cX5_listHeirs 39 = .ok (.iload 5, 2) := by decide +kernel
theorem dX5_listHeirs_41 : decode cX5_listHeirs 41 = .ok (.bipush 7, 2) := by decide +kernel
theorem dX5_listHeirs_43 : decode cX5_listHeirs 43 = .ok (.if_icmp .ge 33, 3) := by decide +kernel
theorem dX5_listHeirs_46 : decode cX5_listHeirs 46 = .ok (.iload 4, 2) := by decide +kernel
theorem dX5_listHeirs_48 : decode cX5_listHeirs 48 = .ok (.bipush (-9), 2) := by decide +kernel
theorem dX5_listHeirs_50 : decode cX5_listHeirs 50 = .ok (.if_icmp .eq 26, 3) := by decide +kernel
theorem dX5_listHeirs_53 : decode cX5_listHeirs 53 = .ok (.aload_n 0, 1) := by decide +kernel
theorem dX5_listHeirs_54 : decode cX5_listHeirs 54 = .ok (.aload_n 1, 1) := by decide +kernel
theorem dX5_listHeirs_55 : decode cX5_listHeirs 55 = .ok (.iload 4, 2) := by decide +kernel
theorem dX5_listHeirs_57 : decode cX5_listHeirs 57 = .ok (.iload_n 3, 1) := by decide +kernel
theorem dX5_listHeirs_58 : decode cX5_listHeirs 58 = .ok (.iconst 0, 1) := by decide +kernel
theorem dX5_listHeirs_59 : decode cX5_listHeirs 59 = .ok (.invokevirtual 22, 3) := by decide +kernel
theorem dX5_listHeirs_62 : decode cX5_listHeirs 62 = .ok (.aload_n 1, 1) := by decide +kernel
theorem dX5_listHeirs_63 : decode cX5_listHeirs 63 = .ok (.iload 4, 2) := by decide +kernel
theorem dX5_listHeirs_65 : decode cX5_listHeirs 65 = .ok (.invokevirtual 35, 3) := by decide +kernel
theorem dX5_listHeirs_68 : decode cX5_listHeirs 68 = .ok (.istore 4, 2) := by decide +kernel
theorem dX5_listHeirs_70 : decode cX5_listHeirs 70 = .ok (.iinc 5 1, 3) := by decide +kernel
theorem dX5_listHeirs_73 : decode cX5_listHeirs 73 = .ok (.goto (-34), 3) := by decide +kernel
theorem dX5_listHeirs_76 : decode cX5_listHeirs 76 = .ok (.return_, 1) := by decide +kernel
theorem dX5_addLine_0 : decode cX5_addLine 0 = .ok (.iload 4, 2) := by decide +kernel
theorem dX5_addLine_2 : decode cX5_addLine 2 = .ok (.bipush 7, 2) := by decide +kernel
theorem dX5_addLine_4 : decode cX5_addLine 4 = .ok (.if_icmp .ge 20, 3) := by decide +kernel
theorem dX5_addLine_7 : decode cX5_addLine 7 = .ok (.aload_n 0, 1) := by decide +kernel
theorem dX5_addLine_8 : decode cX5_addLine 8 = .ok (.getfield 15, 3) := by decide +kernel
theorem dX5_addLine_11 : decode cX5_addLine 11 = .ok (.bipush 7, 2) := by decide +kernel
theorem dX5_addLine_13 : decode cX5_addLine 13 = .ok (.if_icmp .ge 11, 3) := by decide +kernel
theorem dX5_addLine_16 : decode cX5_addLine 16 = .ok (.aload_n 1, 1) := by decide +kernel
theorem dX5_addLine_17 : decode cX5_addLine 17 = .ok (.iload_n 2, 1) := by decide +kernel
theorem dX5_addLine_18 : decode cX5_addLine 18 = .ok (.invokevirtual 26, 3) := by decide +kernel
theorem dX5_addLine_21 : decode cX5_addLine 21 = .ok (.ifCond .ne 4, 3) := by decide +kernel
theorem dX5_addLine_24 : decode cX5_addLine 24 = .ok (.return_, 1) := by decide +kernel
theorem dX5_addLine_25 : decode cX5_addLine 25 = .ok (.aload_n 0, 1) := by decide +kernel
theorem dX5_addLine_26 : decode cX5_addLine 26 = .ok (.getfield 19, 3) := by decide +kernel
theorem dX5_addLine_29 : decode cX5_addLine 29 = .ok (.iload_n 2, 1) := by decide +kernel
theorem dX5_addLine_30 : decode cX5_addLine 30 = .ok (.ishr, 1) := by decide +kernel
theorem dX5_addLine_31 : decode cX5_addLine 31 = .ok (.iconst 1, 1) := by decide +kernel
theorem dX5_addLine_32 : decode cX5_addLine 32 = .ok (.iand, 1) := by decide +kernel
theorem dX5_addLine_33 : decode cX5_addLine 33 = .ok (.iconst 1, 1) := by decide +kernel
theorem dX5_addLine_34 : decode cX5_addLine 34 = .ok (.if_icmp .eq 15, 3) := by decide +kernel
theorem dX5_addLine_37 : decode cX5_addLine 37 = .ok (.iload_n 3, 1) := by decide +kernel
theorem dX5_addLine_38 : decode cX5_addLine 38 = .ok (.ifCond .ne 12, 3) := by decide +kernel
theorem dX5_addLine_41 : decode cX5_addLine 41 = .ok (.aload_n 1, 1) := by decide +kernel
theorem dX5_addLine_42 : decode cX5_addLine 42 = .ok (.iload_n 2, 1) := by decide +kernel
theorem dX5_addLine_43 : decode cX5_addLine 43 = .ok (.invokevirtual 39, 3) := by decide +kernel
theorem dX5_addLine_46 : decode cX5_addLine 46 = .ok (.ifCond .eq 4, 3) := by decide +kernel
theorem dX5_addLine_49 : decode cX5_addLine 49 = .ok (.return_, 1) := by decide +kernel
theorem dX5_addLine_50 : decode cX5_addLine 50 = .ok (.aload_n 0, 1) := by decide +kernel
theorem dX5_addLine_51 : decode cX5_addLine 51 = .ok (.dup, 1) := by decide +kernel
theorem dX5_addLine_52 : decode cX5_addLine 52 = .ok (.getfield 19, 3) := by decide +kernel
theorem dX5_addLine_55 : decode cX5_addLine 55 = .ok (.iconst 1, 1) := by decide +kernel
theorem dX5_addLine_56 : decode cX5_addLine 56 = .ok (.iload_n 2, 1) := by decide +kernel
theorem dX5_addLine_57 : decode cX5_addLine 57 = .ok (.ishl, 1) := by decide +kernel
theorem dX5_addLine_58 : decode cX5_addLine 58 = .ok (.ior, 1) := by decide +kernel
theorem dX5_addLine_59 : decode cX5_addLine 59 = .ok (.putfield 19, 3) := by decide +kernel
theorem dX5_addLine_62 : decode cX5_addLine 62 = .ok (.aload_n 0, 1) := by decide +kernel
theorem dX5_addLine_63 : decode cX5_addLine 63 = .ok (.getfield 9, 3) := by decide +kernel
theorem dX5_addLine_66 : decode cX5_addLine 66 = .ok (.aload_n 0, 1) := by decide +kernel
theorem dX5_addLine_67 : decode cX5_addLine 67 = .ok (.getfield 15, 3) := by decide +kernel
theorem dX5_addLine_70 : decode cX5_addLine 70 = .ok (.iload_n 2, 1) := by decide +kernel
theorem dX5_addLine_71 : decode cX5_addLine 71 = .ok (.iastore, 1) := by decide +kernel
theorem dX5_addLine_72 : decode cX5_addLine 72 = .ok (.aload_n 0, 1) := by decide +kernel
theorem dX5_addLine_73 : decode cX5_addLine 73 = .ok (.dup, 1) := by decide +kernel
theorem dX5_addLine_74 : decode cX5_addLine 74 = .ok (.getfield 15, 3) := by decide +kernel
theorem dX5_addLine_77 : decode cX5_addLine 77 = .ok (.iconst 1, 1) := by decide +kernel
theorem dX5_addLine_78 : decode cX5_addLine 78 = .ok (.iadd, 1) := by decide +kernel
theorem dX5_addLine_79 : decode cX5_addLine 79 = .ok (.putfield 15, 3) := by decide +kernel
theorem dX5_addLine_82 : decode cX5_addLine 82 = .ok (.aload_n 0, 1) := by decide +kernel
theorem dX5_addLine_83 : decode cX5_addLine 83 = .ok (.aload_n 1, 1) := by decide +kernel
theorem dX5_addLine_84 : decode cX5_addLine 84 = .ok (.iload_n 2, 1) := by decide +kernel
theorem dX5_addLine_85 : decode cX5_addLine 85 = .ok (.iload_n 3, 1) := by decide +kernel
theorem dX5_addLine_86 : decode cX5_addLine 86 = .ok (.iload 4, 2) := by decide +kernel
theorem dX5_addLine_88 : decode cX5_addLine 88 = .ok (.iconst 1, 1) := by decide +kernel
theorem dX5_addLine_89 : decode cX5_addLine 89 = .ok (.iadd, 1) := by decide +kernel
theorem dX5_addLine_90 : decode cX5_addLine 90 = .ok (.invokevirtual 32, 3) := by decide +kernel
theorem dX5_addLine_93 : decode cX5_addLine 93 = .ok (.return_, 1) := by decide +kernel
theorem dX5_addChildren_0 : decode cX5_addChildren 0 = .ok (.aload_n 1, 1) := by decide +kernel
theorem dX5_addChildren_1 : decode cX5_addChildren 1 = .ok (.iload_n 2, 1) := by decide +kernel
theorem dX5_addChildren_2 : decode cX5_addChildren 2 = .ok (.invokevirtual 42, 3) := by decide +kernel
theorem dX5_addChildren_5 : decode cX5_addChildren 5 = .ok (.istore 5, 2) := by decide +kernel
theorem dX5_addChildren_7 : decode cX5_addChildren 7 = .ok (.iconst 0, 1) := by decide +kernel
theorem dX5_addChildren_8 : decode cX5_addChildren 8 = .ok (.istore 6, 2) := by decide +kernel
theorem dX5_addChildren_10 : decode cX5_addChildren 10 = .ok (.iload 6, 2) := by decide +kernel
theorem dX5_addChildren_12 : decode cX5_addChildren 12 = .ok (.bipush 7, 2) := by decide +kernel
theorem dX5_addChildren_14 : decode cX5_addChildren 14 = .ok (.if_icmp .ge 44, 3) := by decide +kernel
theorem dX5_addChildren_17 : decode cX5_addChildren 17 = .ok (.iload 5, 2) := by decide +kernel
theorem dX5_addChildren_19 : decode cX5_addChildren 19 = .ok (.ifCond .eq 39, 3) := by decide +kernel
theorem dX5_addChildren_22 : decode cX5_addChildren 22 = .ok (.aload_n 1, 1) := by decide +kernel
theorem dX5_addChildren_23 : decode cX5_addChildren 23 = .ok (.iload 5, 2) := by decide +kernel
theorem dX5_addChildren_25 : decode cX5_addChildren 25 = .ok (.iload_n 3, 1) := by decide +kernel
theorem dX5_addChildren_26 : decode cX5_addChildren 26 = .ok (.invokevirtual 45, 3) := by decide +kernel
theorem dX5_addChildren_29 : decode cX5_addChildren 29 = .ok (.istore 7, 2) := by decide +kernel
theorem dX5_addChildren_31 : decode cX5_addChildren 31 = .ok (.iload 5, 2) := by decide +kernel
theorem dX5_addChildren_33 : decode cX5_addChildren 33 = .ok (.iconst 1, 1) := by decide +kernel
theorem dX5_addChildren_34 : decode cX5_addChildren 34 = .ok (.iload 7, 2) := by decide +kernel
theorem dX5_addChildren_36 : decode cX5_addChildren 36 = .ok (.ishl, 1) := by decide +kernel
theorem dX5_addChildren_37 : decode cX5_addChildren 37 = .ok (.iconst (-1), 1) := by decide +kernel
theorem dX5_addChildren_38 : decode cX5_addChildren 38 = .ok (.ixor, 1) := by decide +kernel
theorem dX5_addChildren_39 : decode cX5_addChildren 39 = .ok (.iand, 1) := by decide +kernel
theorem dX5_addChildren_40 : decode cX5_addChildren 40 = .ok (.istore 5, 2) := by decide +kernel
theorem dX5_addChildren_42 : decode cX5_addChildren 42 = .ok (.aload_n 0, 1) := by decide +kernel
theorem dX5_addChildren_43 : decode cX5_addChildren 43 = .ok (.aload_n 1, 1) := by decide +kernel
theorem dX5_addChildren_44 : decode cX5_addChildren 44 = .ok (.iload 7, 2) := by decide +kernel
theorem dX5_addChildren_46 : decode cX5_addChildren 46 = .ok (.iload_n 3, 1) := by decide +kernel
theorem dX5_addChildren_47 : decode cX5_addChildren 47 = .ok (.iload 4, 2) := by decide +kernel
theorem dX5_addChildren_49 : decode cX5_addChildren 49 = .ok (.invokevirtual 22, 3) := by decide +kernel
theorem dX5_addChildren_52 : decode cX5_addChildren 52 = .ok (.iinc 6 1, 3) := by decide +kernel
theorem dX5_addChildren_55 : decode cX5_addChildren 55 = .ok (.goto (-45), 3) := by decide +kernel
theorem dX5_addChildren_58 : decode cX5_addChildren 58 = .ok (.return_, 1) := by decide +kernel
theorem dX5_firstOf_0 : decode cX5_firstOf 0 = .ok (.iconst 0, 1) := by decide +kernel
theorem dX5_firstOf_1 : decode cX5_firstOf 1 = .ok (.istore_n 2, 1) := by decide +kernel
theorem dX5_firstOf_2 : decode cX5_firstOf 2 = .ok (.iload_n 2, 1) := by decide +kernel
theorem dX5_firstOf_3 : decode cX5_firstOf 3 = .ok (.aload_n 0, 1) := by decide +kernel
theorem dX5_firstOf_4 : decode cX5_firstOf 4 = .ok (.getfield 15, 3) := by decide +kernel
theorem dX5_firstOf_7 : decode cX5_firstOf 7 = .ok (.if_icmp .ge 36, 3) := by decide +kernel
theorem dX5_firstOf_10 : decode cX5_firstOf 10 = .ok (.iload_n 2, 1) := by decide +kernel
theorem dX5_firstOf_11 : decode cX5_firstOf 11 = .ok (.bipush 7, 2) := by decide +kernel
theorem dX5_firstOf_13 : decode cX5_firstOf 13 = .ok (.if_icmp .ge 30, 3) := by decide +kernel
theorem dX5_firstOf_16 : decode cX5_firstOf 16 = .ok (.iload_n 1, 1) := by decide +kernel
theorem dX5_firstOf_17 : decode cX5_firstOf 17 = .ok (.aload_n 0, 1) := by decide +kernel
theorem dX5_firstOf_18 : decode cX5_firstOf 18 = .ok (.getfield 9, 3) := by decide +kernel
theorem dX5_firstOf_21 : decode cX5_firstOf 21 = .ok (.iload_n 2, 1) := by decide +kernel
theorem dX5_firstOf_22 : decode cX5_firstOf 22 = .ok (.iaload, 1) := by decide +kernel
theorem dX5_firstOf_23 : decode cX5_firstOf 23 = .ok (.ishr, 1) := by decide +kernel
theorem dX5_firstOf_24 : decode cX5_firstOf 24 = .ok (.iconst 1, 1) := by decide +kernel
theorem dX5_firstOf_25 : decode cX5_firstOf 25 = .ok (.iand, 1) := by decide +kernel
theorem dX5_firstOf_26 : decode cX5_firstOf 26 = .ok (.iconst 1, 1) := by decide +kernel
theorem dX5_firstOf_27 : decode cX5_firstOf 27 = .ok (.if_icmp .ne 10, 3) := by decide +kernel
theorem dX5_firstOf_30 : decode cX5_firstOf 30 = .ok (.aload_n 0, 1) := by decide +kernel
theorem dX5_firstOf_31 : decode cX5_firstOf 31 = .ok (.getfield 9, 3) := by decide +kernel
theorem dX5_firstOf_34 : decode cX5_firstOf 34 = .ok (.iload_n 2, 1) := by decide +kernel
theorem dX5_firstOf_35 : decode cX5_firstOf 35 = .ok (.iaload, 1) := by decide +kernel
theorem dX5_firstOf_36 : decode cX5_firstOf 36 = .ok (.ireturn, 1) := by decide +kernel
theorem dX5_firstOf_37 : decode cX5_firstOf 37 = .ok (.iinc 2 1, 3) := by decide +kernel
theorem dX5_firstOf_40 : decode cX5_firstOf 40 = .ok (.goto (-38), 3) := by decide +kernel
theorem dX5_firstOf_43 : decode cX5_firstOf 43 = .ok (.bipush (-9), 2) := by decide +kernel
theorem dX5_firstOf_45 : decode cX5_firstOf 45 = .ok (.ireturn, 1) := by decide +kernel
theorem dX5_allOf_0 : decode cX5_allOf 0 = .ok (.iconst 0, 1) := by decide +kernel
theorem dX5_allOf_1 : decode cX5_allOf 1 = .ok (.istore_n 2, 1) := by decide +kernel
theorem dX5_allOf_2 : decode cX5_allOf 2 = .ok (.iconst 0, 1) := by decide +kernel
theorem dX5_allOf_3 : decode cX5_allOf 3 = .ok (.istore_n 3, 1) := by decide +kernel
theorem dX5_allOf_4 : decode cX5_allOf 4 = .ok (.iload_n 3, 1) := by decide +kernel
theorem dX5_allOf_5 : decode cX5_allOf 5 = .ok (.aload_n 0, 1) := by decide +kernel
theorem dX5_allOf_6 : decode cX5_allOf 6 = .ok (.getfield 15, 3) := by decide +kernel
theorem dX5_allOf_9 : decode cX5_allOf 9 = .ok (.if_icmp .ge 26, 3) := by decide +kernel
theorem dX5_allOf_12 : decode cX5_allOf 12 = .ok (.iload_n 3, 1) := by decide +kernel
theorem dX5_allOf_13 : decode cX5_allOf 13 = .ok (.bipush 7, 2) := by decide +kernel
theorem dX5_allOf_15 : decode cX5_allOf 15 = .ok (.if_icmp .ge 20, 3) := by decide +kernel
theorem dX5_allOf_18 : decode cX5_allOf 18 = .ok (.iload_n 2, 1) := by decide +kernel
theorem dX5_allOf_19 : decode cX5_allOf 19 = .ok (.iconst 1, 1) := by decide +kernel
theorem dX5_allOf_20 : decode cX5_allOf 20 = .ok (.aload_n 0, 1) := by decide +kernel
theorem dX5_allOf_21 : decode cX5_allOf 21 = .ok (.getfield 9, 3) := by decide +kernel
theorem dX5_allOf_24 : decode cX5_allOf 24 = .ok (.iload_n 3, 1) := by decide +kernel
theorem dX5_allOf_25 : decode cX5_allOf 25 = .ok (.iaload, 1) := by decide +kernel
theorem dX5_allOf_26 : decode cX5_allOf 26 = .ok (.ishl, 1) := by decide +kernel
theorem dX5_allOf_27 : decode cX5_allOf 27 = .ok (.ior, 1) := by decide +kernel
theorem dX5_allOf_28 : decode cX5_allOf 28 = .ok (.istore_n 2, 1) := by decide +kernel
theorem dX5_allOf_29 : decode cX5_allOf 29 = .ok (.iinc 3 1, 3) := by decide +kernel
theorem dX5_allOf_32 : decode cX5_allOf 32 = .ok (.goto (-28), 3) := by decide +kernel
theorem dX5_allOf_35 : decode cX5_allOf 35 = .ok (.iload_n 2, 1) := by decide +kernel
theorem dX5_allOf_36 : decode cX5_allOf 36 = .ok (.iload_n 1, 1) := by decide +kernel
theorem dX5_allOf_37 : decode cX5_allOf 37 = .ok (.iand, 1) := by decide +kernel
theorem dX5_allOf_38 : decode cX5_allOf 38 = .ok (.ireturn, 1) := by decide +kernel
theorem dX5_placeOf_0 : decode cX5_placeOf 0 = .ok (.iconst 0, 1) := by decide +kernel
theorem dX5_placeOf_1 : decode cX5_placeOf 1 = .ok (.istore_n 2, 1) := by decide +kernel
theorem dX5_placeOf_2 : decode cX5_placeOf 2 = .ok (.iload_n 2, 1) := by decide +kernel
theorem dX5_placeOf_3 : decode cX5_placeOf 3 = .ok (.aload_n 0, 1) := by decide +kernel
theorem dX5_placeOf_4 : decode cX5_placeOf 4 = .ok (.getfield 15, 3) := by decide +kernel
theorem dX5_placeOf_7 : decode cX5_placeOf 7 = .ok (.if_icmp .ge 27, 3) := by decide +kernel
theorem dX5_placeOf_10 : decode cX5_placeOf 10 = .ok (.iload_n 2, 1) := by decide +kernel
theorem dX5_placeOf_11 : decode cX5_placeOf 11 = .ok (.bipush 7, 2) := by decide +kernel
theorem dX5_placeOf_13 : decode cX5_placeOf 13 = .ok (.if_icmp .ge 21, 3) := by decide +kernel
theorem dX5_placeOf_16 : decode cX5_placeOf 16 = .ok (.aload_n 0, 1) := by decide +kernel
theorem dX5_placeOf_17 : decode cX5_placeOf 17 = .ok (.getfield 9, 3) := by decide +kernel
theorem dX5_placeOf_20 : decode cX5_placeOf 20 = .ok (.iload_n 2, 1) := by decide +kernel
theorem dX5_placeOf_21 : decode cX5_placeOf 21 = .ok (.iaload, 1) := by decide +kernel
theorem dX5_placeOf_22 : decode cX5_placeOf 22 = .ok (.iload_n 1, 1) := by decide +kernel
theorem dX5_placeOf_23 : decode cX5_placeOf 23 = .ok (.if_icmp .ne 5, 3) := by decide +kernel
theorem dX5_placeOf_26 : decode cX5_placeOf 26 = .ok (.iload_n 2, 1) := by decide +kernel
theorem dX5_placeOf_27 : decode cX5_placeOf 27 = .ok (.ireturn, 1) := by decide +kernel
theorem dX5_placeOf_28 : decode cX5_placeOf 28 = .ok (.iinc 2 1, 3) := by decide +kernel
theorem dX5_placeOf_31 : decode cX5_placeOf 31 = .ok (.goto (-29), 3) := by decide +kernel
theorem dX5_placeOf_34 : decode cX5_placeOf 34 = .ok (.bipush (-9), 2) := by decide +kernel
theorem dX5_placeOf_36 : decode cX5_placeOf 36 = .ok (.ireturn, 1) := by decide +kernel
theorem dX6_init_0 : decode cX6_init 0 = .ok (.aload_n 0, 1) := by decide +kernel
theorem dX6_init_1 : decode cX6_init 1 = .ok (.invokespecial 3, 3) := by decide +kernel
theorem dX6_init_4 : decode cX6_init 4 = .ok (.aload_n 0, 1) := by decide +kernel
theorem dX6_init_5 : decode cX6_init 5 = .ok (.bipush 7, 2) := by decide +kernel
theorem dX6_init_7 : decode cX6_init 7 = .ok (.newarray .int, 2) := by decide +kernel
theorem dX6_init_9 : decode cX6_init 9 = .ok (.putfield 9, 3) := by decide +kernel
theorem dX6_init_12 : decode cX6_init 12 = .ok (.aload_n 0, 1) := by decide +kernel
theorem dX6_init_13 : decode cX6_init 13 = .ok (.bipush 7, 2) := by decide +kernel
theorem dX6_init_15 : decode cX6_init 15 = .ok (.newarray .int, 2) := by decide +kernel
theorem dX6_init_17 : decode cX6_init 17 = .ok (.putfield 15, 3) := by decide +kernel
theorem dX6_init_20 : decode cX6_init 20 = .ok (.aload_n 0, 1) := by decide +kernel
theorem dX6_init_21 : decode cX6_init 21 = .ok (.bipush (-9), 2) := by decide +kernel
theorem dX6_init_23 : decode cX6_init 23 = .ok (.putfield 18, 3) := by decide +kernel
theorem dX6_init_26 : decode cX6_init 26 = .ok (.return_, 1) := by decide +kernel
theorem dX6_clear_0 : decode cX6_clear 0 = .ok (.aload_n 0, 1) := by decide +kernel
theorem dX6_clear_1 : decode cX6_clear 1 = .ok (.iconst 0, 1) := by decide +kernel
theorem dX6_clear_2 : decode cX6_clear 2 = .ok (.putfield 22, 3) := by decide +kernel
theorem dX6_clear_5 : decode cX6_clear 5 = .ok (.aload_n 0, 1) := by decide +kernel
theorem dX6_clear_6 : decode cX6_clear 6 = .ok (.iconst 0, 1) := by decide +kernel
theorem dX6_clear_7 : decode cX6_clear 7 = .ok (.putfield 25, 3) := by decide +kernel
theorem dX6_clear_10 : decode cX6_clear 10 = .ok (.aload_n 0, 1) := by decide +kernel
theorem dX6_clear_11 : decode cX6_clear 11 = .ok (.iconst 0, 1) := by decide +kernel
theorem dX6_clear_12 : decode cX6_clear 12 = .ok (.putfield 28, 3) := by decide +kernel
theorem dX6_clear_15 : decode cX6_clear 15 = .ok (.aload_n 0, 1) := by decide +kernel
theorem dX6_clear_16 : decode cX6_clear 16 = .ok (.bipush (-9), 2) := by decide +kernel
theorem dX6_clear_18 : decode cX6_clear 18 = .ok (.putfield 18, 3) := by decide +kernel
theorem dX6_clear_21 : decode cX6_clear 21 = .ok (.aload_n 0, 1) := by decide +kernel
theorem dX6_clear_22 : decode cX6_clear 22 = .ok (.iconst 0, 1) := by decide +kernel
theorem dX6_clear_23 : decode cX6_clear 23 = .ok (.putfield 31, 3) := by decide +kernel
theorem dX6_clear_26 : decode cX6_clear 26 = .ok (.aload_n 0, 1) := by decide +kernel
theorem dX6_clear_27 : decode cX6_clear 27 = .ok (.iconst 0, 1) := by decide +kernel
theorem dX6_clear_28 : decode cX6_clear 28 = .ok (.putfield 34, 3) := by decide +kernel
theorem dX6_clear_31 : decode cX6_clear 31 = .ok (.aload_n 0, 1) := by decide +kernel
theorem dX6_clear_32 : decode cX6_clear 32 = .ok (.iconst 0, 1) := by decide +kernel
theorem dX6_clear_33 : decode cX6_clear 33 = .ok (.putfield 37, 3) := by decide +kernel
theorem dX6_clear_36 : decode cX6_clear 36 = .ok (.aload_n 0, 1) := by decide +kernel
theorem dX6_clear_37 : decode cX6_clear 37 = .ok (.iconst 0, 1) := by decide +kernel
theorem dX6_clear_38 : decode cX6_clear 38 = .ok (.putfield 40, 3) := by decide +kernel
theorem dX6_clear_41 : decode cX6_clear 41 = .ok (.return_, 1) := by decide +kernel
theorem dX6_copy_0 : decode cX6_copy 0 = .ok (.aload_n 1, 1) := by decide +kernel
theorem dX6_copy_1 : decode cX6_copy 1 = .ok (.getfield 9, 3) := by decide +kernel
theorem dX6_copy_4 : decode cX6_copy 4 = .ok (.iconst 0, 1) := by decide +kernel
theorem dX6_copy_5 : decode cX6_copy 5 = .ok (.aload_n 0, 1) := by decide +kernel
theorem dX6_copy_6 : decode cX6_copy 6 = .ok (.getfield 9, 3) := by decide +kernel
theorem dX6_copy_9 : decode cX6_copy 9 = .ok (.iconst 0, 1) := by decide +kernel
theorem dX6_copy_10 : decode cX6_copy 10 = .ok (.bipush 7, 2) := by decide +kernel
theorem dX6_copy_12 : decode cX6_copy 12 = .ok (.invokestatic 43, 3) := by decide +kernel
theorem dX6_copy_15 : decode cX6_copy 15 = .ok (.aload_n 1, 1) := by decide +kernel
theorem dX6_copy_16 : decode cX6_copy 16 = .ok (.getfield 15, 3) := by decide +kernel
theorem dX6_copy_19 : decode cX6_copy 19 = .ok (.iconst 0, 1) := by decide +kernel
theorem dX6_copy_20 : decode cX6_copy 20 = .ok (.aload_n 0, 1) := by decide +kernel
theorem dX6_copy_21 : decode cX6_copy 21 = .ok (.getfield 15, 3) := by decide +kernel
theorem dX6_copy_24 : decode cX6_copy 24 = .ok (.iconst 0, 1) := by decide +kernel
theorem dX6_copy_25 : decode cX6_copy 25 = .ok (.bipush 7, 2) := by decide +kernel
theorem dX6_copy_27 : decode cX6_copy 27 = .ok (.invokestatic 43, 3) := by decide +kernel
theorem dX6_copy_30 : decode cX6_copy 30 = .ok (.aload_n 0, 1) := by decide +kernel
theorem dX6_copy_31 : decode cX6_copy 31 = .ok (.aload_n 1, 1) := by decide +kernel
theorem dX6_copy_32 : decode cX6_copy 32 = .ok (.getfield 22, 3) := by decide +kernel
theorem dX6_copy_35 : decode cX6_copy 35 = .ok (.putfield 22, 3) := by decide +kernel
theorem dX6_copy_38 : decode cX6_copy 38 = .ok (.aload_n 0, 1) := by decide +kernel
theorem dX6_copy_39 : decode cX6_copy 39 = .ok (.aload_n 1, 1) := by decide +kernel
theorem dX6_copy_40 : decode cX6_copy 40 = .ok (.getfield 25, 3) := by decide +kernel
theorem dX6_copy_43 : decode cX6_copy 43 = .ok (.putfield 25, 3) := by decide +kernel
theorem dX6_copy_46 : decode cX6_copy 46 = .ok (.aload_n 0, 1) := by decide +kernel
theorem dX6_copy_47 : decode cX6_copy 47 = .ok (.aload_n 1, 1) := by decide +kernel
theorem dX6_copy_48 : decode cX6_copy 48 = .ok (.getfield 28, 3) := by decide +kernel
theorem dX6_copy_51 : decode cX6_copy 51 = .ok (.putfield 28, 3) := by decide +kernel
theorem dX6_copy_54 : decode cX6_copy 54 = .ok (.aload_n 0, 1) := by decide +kernel
theorem dX6_copy_55 : decode cX6_copy 55 = .ok (.aload_n 1, 1) := by decide +kernel
theorem dX6_copy_56 : decode cX6_copy 56 = .ok (.getfield 18, 3) := by decide +kernel
theorem dX6_copy_59 : decode cX6_copy 59 = .ok (.putfield 18, 3) := by decide +kernel
theorem dX6_copy_62 : decode cX6_copy 62 = .ok (.aload_n 0, 1) := by decide +kernel
theorem dX6_copy_63 : decode cX6_copy 63 = .ok (.aload_n 1, 1) := by decide +kernel
theorem dX6_copy_64 : decode cX6_copy 64 = .ok (.getfield 31, 3) := by decide +kernel
theorem dX6_copy_67 : decode cX6_copy 67 = .ok (.putfield 31, 3) := by decide +kernel
theorem dX6_copy_70 : decode cX6_copy 70 = .ok (.aload_n 0, 1) := by decide +kernel
theorem dX6_copy_71 : decode cX6_copy 71 = .ok (.aload_n 1, 1) := by decide +kernel
theorem dX6_copy_72 : decode cX6_copy 72 = .ok (.getfield 34, 3) := by decide +kernel
theorem dX6_copy_75 : decode cX6_copy 75 = .ok (.putfield 34, 3) := by decide +kernel
theorem dX6_copy_78 : decode cX6_copy 78 = .ok (.aload_n 0, 1) := by decide +kernel
theorem dX6_copy_79 : decode cX6_copy 79 = .ok (.aload_n 1, 1) := by decide +kernel
theorem dX6_copy_80 : decode cX6_copy 80 = .ok (.getfield 37, 3) := by decide +kernel
theorem dX6_copy_83 : decode cX6_copy 83 = .ok (.putfield 37, 3) := by decide +kernel
theorem dX6_copy_86 : decode cX6_copy 86 = .ok (.aload_n 0, 1) := by decide +kernel
theorem dX6_copy_87 : decode cX6_copy 87 = .ok (.aload_n 1, 1) := by decide +kernel
theorem dX6_copy_88 : decode cX6_copy 88 = .ok (.getfield 40, 3) := by decide +kernel
theorem dX6_copy_91 : decode cX6_copy 91 = .ok (.putfield 40, 3) := by decide +kernel
theorem dX6_copy_94 : decode cX6_copy 94 = .ok (.return_, 1) := by decide +kernel
theorem dX6_has_0 : decode cX6_has 0 = .ok (.iload_n 1, 1) := by decide +kernel
theorem dX6_has_1 : decode cX6_has 1 = .ok (.ifCond .lt 21, 3) := by decide +kernel
theorem dX6_has_4 : decode cX6_has 4 = .ok (.iload_n 1, 1) := by decide +kernel
theorem dX6_has_5 : decode cX6_has 5 = .ok (.aload_n 0, 1) := by decide +kernel
theorem dX6_has_6 : decode cX6_has 6 = .ok (.getfield 25, 3) := by decide +kernel
theorem dX6_has_9 : decode cX6_has 9 = .ok (.if_icmp .ge 13, 3) := by decide +kernel
theorem dX6_has_12 : decode cX6_has 12 = .ok (.iload_n 1, 1) := by decide +kernel
theorem dX6_has_13 : decode cX6_has 13 = .ok (.bipush 7, 2) := by decide +kernel
theorem dX6_has_15 : decode cX6_has 15 = .ok (.if_icmp .ge 7, 3) := by decide +kernel
theorem dX6_has_18 : decode cX6_has 18 = .ok (.iconst 1, 1) := by decide +kernel
theorem dX6_has_19 : decode cX6_has 19 = .ok (.goto 4, 3) := by decide +kernel
theorem dX6_has_22 : decode cX6_has 22 = .ok (.iconst 0, 1) := by decide +kernel
theorem dX6_has_23 : decode cX6_has 23 = .ok (.ireturn, 1) := by decide +kernel
theorem dX6_lives_0 : decode cX6_lives 0 = .ok (.aload_n 0, 1) := by decide +kernel
theorem dX6_lives_1 : decode cX6_lives 1 = .ok (.iload_n 1, 1) := by decide +kernel
theorem dX6_lives_2 : decode cX6_lives 2 = .ok (.invokevirtual 49, 3) := by decide +kernel
theorem dX6_lives_5 : decode cX6_lives 5 = .ok (.ifCond .eq 19, 3) := by decide +kernel
theorem dX6_lives_8 : decode cX6_lives 8 = .ok (.aload_n 0, 1) := by decide +kernel
theorem dX6_lives_9 : decode cX6_lives 9 = .ok (.getfield 28, 3) := by decide +kernel
theorem dX6_lives_12 : decode cX6_lives 12 = .ok (.iload_n 1, 1) := by decide +kernel
theorem dX6_lives_13 : decode cX6_lives 13 = .ok (.ishr, 1) := by decide +kernel
theorem dX6_lives_14 : decode cX6_lives 14 = .ok (.iconst 1, 1) := by decide +kernel
theorem dX6_lives_15 : decode cX6_lives 15 = .ok (.iand, 1) := by decide +kernel
theorem dX6_lives_16 : decode cX6_lives 16 = .ok (.iconst 1, 1) := by decide +kernel
theorem dX6_lives_17 : decode cX6_lives 17 = .ok (.if_icmp .ne 7, 3) := by decide +kernel
theorem dX6_lives_20 : decode cX6_lives 20 = .ok (.iconst 1, 1) := by decide +kernel
theorem dX6_lives_21 : decode cX6_lives 21 = .ok (.goto 4, 3) := by decide +kernel
theorem dX6_lives_24 : decode cX6_lives 24 = .ok (.iconst 0, 1) := by decide +kernel
theorem dX6_lives_25 : decode cX6_lives 25 = .ok (.ireturn, 1) := by decide +kernel
theorem dX6_isWoman_0 : decode cX6_isWoman 0 = .ok (.aload_n 0, 1) := by decide +kernel
theorem dX6_isWoman_1 : decode cX6_isWoman 1 = .ok (.iload_n 1, 1) := by decide +kernel
theorem dX6_isWoman_2 : decode cX6_isWoman 2 = .ok (.invokevirtual 49, 3) := by decide +kernel
theorem dX6_isWoman_5 : decode cX6_isWoman 5 = .ok (.ifCond .eq 19, 3) := by decide +kernel
theorem dX6_isWoman_8 : decode cX6_isWoman 8 = .ok (.aload_n 0, 1) := by decide +kernel
theorem dX6_isWoman_9 : decode cX6_isWoman 9 = .ok (.getfield 22, 3) := by decide +kernel
theorem dX6_isWoman_12 : decode cX6_isWoman 12 = .ok (.iload_n 1, 1) := by decide +kernel
theorem dX6_isWoman_13 : decode cX6_isWoman 13 = .ok (.ishr, 1) := by decide +kernel
theorem dX6_isWoman_14 : decode cX6_isWoman 14 = .ok (.iconst 1, 1) := by decide +kernel
theorem dX6_isWoman_15 : decode cX6_isWoman 15 = .ok (.iand, 1) := by decide +kernel
theorem dX6_isWoman_16 : decode cX6_isWoman 16 = .ok (.iconst 1, 1) := by decide +kernel
theorem dX6_isWoman_17 : decode cX6_isWoman 17 = .ok (.if_icmp .ne 7, 3) := by decide +kernel
theorem dX6_isWoman_20 : decode cX6_isWoman 20 = .ok (.iconst 1, 1) := by decide +kernel
theorem dX6_isWoman_21 : decode cX6_isWoman 21 = .ok (.goto 4, 3) := by decide +kernel
theorem dX6_isWoman_24 : decode cX6_isWoman 24 = .ok (.iconst 0, 1) := by decide +kernel
theorem dX6_isWoman_25 : decode cX6_isWoman 25 = .ok (.ireturn, 1) := by decide +kernel
theorem dX6_parentOf_0 : decode cX6_parentOf 0 = .ok (.aload_n 0, 1) := by decide +kernel
theorem dX6_parentOf_1 : decode cX6_parentOf 1 = .ok (.iload_n 1, 1) := by decide +kernel
theorem dX6_parentOf_2 : decode cX6_parentOf 2 = .ok (.invokevirtual 49, 3) := by decide +kernel
theorem dX6_parentOf_5 : decode cX6_parentOf 5 = .ok (.ifCond .eq 12, 3) := by decide +kernel
theorem dX6_parentOf_8 : decode cX6_parentOf 8 = .ok (.aload_n 0, 1) := by decide +kernel
theorem dX6_parentOf_9 : decode cX6_parentOf 9 = .ok (.getfield 9, 3) := by decide +kernel
theorem dX6_parentOf_12 : decode cX6_parentOf 12 = .ok (.iload_n 1, 1) := by decide +kernel
theorem dX6_parentOf_13 : decode cX6_parentOf 13 = .ok (.iaload, 1) := by decide +kernel
theorem dX6_parentOf_14 : decode cX6_parentOf 14 = .ok (.goto 5, 3) := by decide +kernel
theorem dX6_parentOf_17 : decode cX6_parentOf 17 = .ok (.bipush (-9), 2) := by decide +kernel
theorem dX6_parentOf_19 : decode cX6_parentOf 19 = .ok (.ireturn, 1) := by decide +kernel
theorem dX6_ageOf_0 : decode cX6_ageOf 0 = .ok (.aload_n 0, 1) := by decide +kernel
theorem dX6_ageOf_1 : decode cX6_ageOf 1 = .ok (.iload_n 1, 1) := by decide +kernel
theorem dX6_ageOf_2 : decode cX6_ageOf 2 = .ok (.invokevirtual 49, 3) := by decide +kernel
theorem dX6_ageOf_5 : decode cX6_ageOf 5 = .ok (.ifCond .eq 12, 3) := by decide +kernel
theorem dX6_ageOf_8 : decode cX6_ageOf 8 = .ok (.aload_n 0, 1) := by decide +kernel
theorem dX6_ageOf_9 : decode cX6_ageOf 9 = .ok (.getfield 15, 3) := by decide +kernel
theorem dX6_ageOf_12 : decode cX6_ageOf 12 = .ok (.iload_n 1, 1) := by decide +kernel
theorem dX6_ageOf_13 : decode cX6_ageOf 13 = .ok (.iaload, 1) := by decide +kernel
theorem dX6_ageOf_14 : decode cX6_ageOf 14 = .ok (.goto 4, 3) := by decide +kernel
theorem dX6_ageOf_17 : decode cX6_ageOf 17 = .ok (.iconst 0, 1) := by decide +kernel
theorem dX6_ageOf_18 : decode cX6_ageOf 18 = .ok (.ireturn, 1) := by decide +kernel
theorem dX6_childrenOf_0 : decode cX6_childrenOf 0 = .ok (.iconst 0, 1) := by decide +kernel
theorem dX6_childrenOf_1 : decode cX6_childrenOf 1 = .ok (.istore_n 2, 1) := by decide +kernel
theorem dX6_childrenOf_2 : decode cX6_childrenOf 2 = .ok (.iconst 0, 1) := by decide +kernel
theorem dX6_childrenOf_3 : decode cX6_childrenOf 3 = .ok (.istore_n 3, 1) := by decide +kernel
theorem dX6_childrenOf_4 : decode cX6_childrenOf 4 = .ok (.iload_n 3, 1) := by decide +kernel
theorem dX6_childrenOf_5 : decode cX6_childrenOf 5 = .ok (.aload_n 0, 1) := by decide +kernel
theorem dX6_childrenOf_6 : decode cX6_childrenOf 6 = .ok (.getfield 25, 3) := by decide +kernel
theorem dX6_childrenOf_9 : decode cX6_childrenOf 9 = .ok (.if_icmp .ge 31, 3) := by decide +kernel
theorem dX6_childrenOf_12 : decode cX6_childrenOf 12 = .ok (.iload_n 3, 1) := by decide +kernel
theorem dX6_childrenOf_13 : decode cX6_childrenOf 13 = .ok (.bipush 7, 2) := by decide +kernel
theorem dX6_childrenOf_15 : decode cX6_childrenOf 15 = .ok (.if_icmp .ge 25, 3) := by decide +kernel
theorem dX6_childrenOf_18 : decode cX6_childrenOf 18 = .ok (.aload_n 0, 1) := by decide +kernel
theorem dX6_childrenOf_19 : decode cX6_childrenOf 19 = .ok (.getfield 9, 3) := by decide +kernel
theorem dX6_childrenOf_22 : decode cX6_childrenOf 22 = .ok (.iload_n 3, 1) := by decide +kernel
theorem dX6_childrenOf_23 : decode cX6_childrenOf 23 = .ok (.iaload, 1) := by decide +kernel
theorem dX6_childrenOf_24 : decode cX6_childrenOf 24 = .ok (.iload_n 1, 1) := by decide +kernel
theorem dX6_childrenOf_25 : decode cX6_childrenOf 25 = .ok (.if_icmp .ne 9, 3) := by decide +kernel
theorem dX6_childrenOf_28 : decode cX6_childrenOf 28 = .ok (.iload_n 2, 1) := by decide +kernel
theorem dX6_childrenOf_29 : decode cX6_childrenOf 29 = .ok (.iconst 1, 1) := by decide +kernel
theorem dX6_childrenOf_30 : decode cX6_childrenOf 30 = .ok (.iload_n 3, 1) := by decide +kernel
theorem dX6_childrenOf_31 : decode cX6_childrenOf 31 = .ok (.ishl, 1) := by decide +kernel
theorem dX6_childrenOf_32 : decode cX6_childrenOf 32 = .ok (.ior, 1) := by decide +kernel
theorem dX6_childrenOf_33 : decode cX6_childrenOf 33 = .ok (.istore_n 2, 1) := by decide +kernel
theorem dX6_childrenOf_34 : decode cX6_childrenOf 34 = .ok (.iinc 3 1, 3) := by decide +kernel
theorem dX6_childrenOf_37 : decode cX6_childrenOf 37 = .ok (.goto (-33), 3) := by decide +kernel
theorem dX6_childrenOf_40 : decode cX6_childrenOf 40 = .ok (.iload_n 2, 1) := by decide +kernel
theorem dX6_childrenOf_41 : decode cX6_childrenOf 41 = .ok (.ireturn, 1) := by decide +kernel
theorem dX6_firstChild_0 : decode cX6_firstChild 0 = .ok (.bipush (-9), 2) := by decide +kernel
theorem dX6_firstChild_2 : decode cX6_firstChild 2 = .ok (.istore_n 3, 1) := by decide +kernel
theorem dX6_firstChild_3 : decode cX6_firstChild 3 = .ok (.iconst 0, 1) := by decide +kernel
theorem dX6_firstChild_4 : decode cX6_firstChild 4 = .ok (.istore 4, 2) := by decide +kernel
theorem dX6_firstChild_6 : decode cX6_firstChild 6 = .ok (.iload 4, 2) := by decide +kernel
theorem dX6_firstChild_8 : decode cX6_firstChild 8 = .ok (.bipush 7, 2) := by decide +kernel
theorem dX6_firstChild_10 : decode cX6_firstChild 10 = .ok (.if_icmp .ge 39, 3) := by decide +kernel
theorem dX6_firstChild_13 : decode cX6_firstChild 13 = .ok (.iload_n 1, 1) := by decide +kernel
theorem dX6_firstChild_14 : decode cX6_firstChild 14 = .ok (.iload 4, 2) := by decide +kernel
theorem dX6_firstChild_16 : decode cX6_firstChild 16 = .ok (.ishr, 1) := by decide +kernel
theorem dX6_firstChild_17 : decode cX6_firstChild 17 = .ok (.iconst 1, 1) := by decide +kernel
theorem dX6_firstChild_18 : decode cX6_firstChild 18 = .ok (.iand, 1) := by decide +kernel
theorem dX6_firstChild_19 : decode cX6_firstChild 19 = .ok (.iconst 1, 1) := by decide +kernel
theorem dX6_firstChild_20 : decode cX6_firstChild 20 = .ok (.if_icmp .ne 23, 3) := by decide +kernel
theorem dX6_firstChild_23 : decode cX6_firstChild 23 = .ok (.iload_n 3, 1) := by decide +kernel
theorem dX6_firstChild_24 : decode cX6_firstChild 24 = .ok (.bipush (-9), 2) := by decide +kernel
theorem dX6_firstChild_26 : decode cX6_firstChild 26 = .ok (.if_icmp .eq 14, 3) := by decide +kernel
theorem dX6_firstChild_29 : decode cX6_firstChild 29 = .ok (.aload_n 0, 1) := by decide +kernel
theorem dX6_firstChild_30 : decode cX6_firstChild 30 = .ok (.iload 4, 2) := by decide +kernel
theorem dX6_firstChild_32 : decode cX6_firstChild 32 = .ok (.iload_n 3, 1) := by decide +kernel
theorem dX6_firstChild_33 : decode cX6_firstChild 33 = .ok (.iload_n 2, 1) := by decide +kernel
theorem dX6_firstChild_34 : decode cX6_firstChild 34 = .ok (.invokevirtual 53, 3) := by decide +kernel
theorem dX6_firstChild_37 : decode cX6_firstChild 37 = .ok (.ifCond .eq 6, 3) := by decide +kernel
theorem dX6_firstChild_40 : decode cX6_firstChild 40 = .ok (.iload 4, 2) := by decide +kernel
theorem dX6_firstChild_42 : decode cX6_firstChild 42 = .ok (.istore_n 3, 1) := by decide +kernel
theorem dX6_firstChild_43 : decode cX6_firstChild 43 = .ok (.iinc 4 1, 3) := by decide +kernel
theorem dX6_firstChild_46 : decode cX6_firstChild 46 = .ok (.goto (-40), 3) := by decide +kernel
theorem dX6_firstChild_49 : decode cX6_firstChild 49 = .ok (.iload_n 3, 1) := by decide +kernel
theorem dX6_firstChild_50 : decode cX6_firstChild 50 = .ok (.ireturn, 1) := by decide +kernel
theorem dX6_goesAhead_0 : decode cX6_goesAhead 0 = .ok (.iload_n 2, 1) := by decide +kernel
theorem dX6_goesAhead_1 : decode cX6_goesAhead 1 = .ok (.ifCond .lt 14, 3) := by decide +kernel
theorem dX6_goesAhead_4 : decode cX6_goesAhead 4 = .ok (.iload_n 1, 1) := by decide +kernel
theorem dX6_goesAhead_5 : decode cX6_goesAhead 5 = .ok (.iload_n 2, 1) := by decide +kernel
theorem dX6_goesAhead_6 : decode cX6_goesAhead 6 = .ok (.if_icmp .le 9, 3) := by decide +kernel
theorem dX6_goesAhead_9 : decode cX6_goesAhead 9 = .ok (.iload_n 1, 1) := by decide +kernel
theorem dX6_goesAhead_10 : decode cX6_goesAhead 10 = .ok (.bipush 7, 2) := by decide +kernel
theorem dX6_goesAhead_12 : decode cX6_goesAhead 12 = .ok (.if_icmp .lt 5, 3) := by decide +kernel
theorem dX6_goesAhead_15 : decode cX6_goesAhead 15 = .ok (.iconst 0, 1) := by decide +kernel
theorem dX6_goesAhead_16 : decode cX6_goesAhead 16 = .ok (.ireturn, 1) := by decide +kernel
theorem dX6_goesAhead_17 : decode cX6_goesAhead 17 = .ok (.aload_n 0, 1) := by decide +kernel
theorem dX6_goesAhead_18 : decode cX6_goesAhead 18 = .ok (.getfield 22, 3) := by decide +kernel
theorem dX6_goesAhead_21 : decode cX6_goesAhead 21 = .ok (.iload_n 1, 1) := by decide +kernel
theorem dX6_goesAhead_22 : decode cX6_goesAhead 22 = .ok (.ishr, 1) := by decide +kernel
theorem dX6_goesAhead_23 : decode cX6_goesAhead 23 = .ok (.iconst 1, 1) := by decide +kernel
theorem dX6_goesAhead_24 : decode cX6_goesAhead 24 = .ok (.iand, 1) := by decide +kernel
theorem dX6_goesAhead_25 : decode cX6_goesAhead 25 = .ok (.istore 4, 2) := by decide +kernel
theorem dX6_goesAhead_27 : decode cX6_goesAhead 27 = .ok (.aload_n 0, 1) := by decide +kernel
theorem dX6_goesAhead_28 : decode cX6_goesAhead 28 = .ok (.getfield 22, 3) := by decide +kernel
theorem dX6_goesAhead_31 : decode cX6_goesAhead 31 = .ok (.iload_n 2, 1) := by decide +kernel
theorem dX6_goesAhead_32 : decode cX6_goesAhead 32 = .ok (.ishr, 1) := by decide +kernel
theorem dX6_goesAhead_33 : decode cX6_goesAhead 33 = .ok (.iconst 1, 1) := by decide +kernel
theorem dX6_goesAhead_34 : decode cX6_goesAhead 34 = .ok (.iand, 1) := by decide +kernel
theorem dX6_goesAhead_35 : decode cX6_goesAhead 35 = .ok (.istore 5, 2) := by decide +kernel
theorem dX6_goesAhead_37 : decode cX6_goesAhead 37 = .ok (.iload_n 3, 1) := by decide +kernel
theorem dX6_goesAhead_38 : decode cX6_goesAhead 38 = .ok (.iconst 2, 1) := by decide +kernel
theorem dX6_goesAhead_39 : decode cX6_goesAhead 39 = .ok (.if_icmp .ne 23, 3) := by decide +kernel
theorem dX6_goesAhead_42 : decode cX6_goesAhead 42 = .ok (.iload 4, 2) := by decide +kernel
theorem dX6_goesAhead_44 : decode cX6_goesAhead 44 = .ok (.iload 5, 2) := by decide +kernel
theorem dX6_goesAhead_46 : decode cX6_goesAhead 46 = .ok (.if_icmp .eq 16, 3) := by decide +kernel
theorem dX6_goesAhead_49 : decode cX6_goesAhead 49 = .ok (.iload 4, 2) := by decide +kernel
theorem dX6_goesAhead_51 : decode cX6_goesAhead 51 = .ok (.iload 5, 2) := by decide +kernel
theorem dX6_goesAhead_53 : decode cX6_goesAhead 53 = .ok (.if_icmp .le 7, 3) := by decide +kernel
theorem dX6_goesAhead_56 : decode cX6_goesAhead 56 = .ok (.iconst 1, 1) := by decide +kernel
theorem dX6_goesAhead_57 : decode cX6_goesAhead 57 = .ok (.goto 4, 3) := by decide +kernel
theorem dX6_goesAhead_60 : decode cX6_goesAhead 60 = .ok (.iconst 0, 1) := by decide +kernel
theorem dX6_goesAhead_61 : decode cX6_goesAhead 61 = .ok (.ireturn, 1) := by decide +kernel
theorem dX6_goesAhead_62 : decode cX6_goesAhead 62 = .ok (.aload_n 0, 1) := by decide +kernel
theorem dX6_goesAhead_63 : decode cX6_goesAhead 63 = .ok (.getfield 15, 3) := by decide +kernel
theorem dX6_goesAhead_66 : decode cX6_goesAhead 66 = .ok (.iload_n 1, 1) := by decide +kernel
theorem dX6_goesAhead_67 : decode cX6_goesAhead 67 = .ok (.iaload, 1) := by decide +kernel
theorem dX6_goesAhead_68 : decode cX6_goesAhead 68 = .ok (.aload_n 0, 1) := by decide +kernel
theorem dX6_goesAhead_69 : decode cX6_goesAhead 69 = .ok (.getfield 15, 3) := by decide +kernel
theorem dX6_goesAhead_72 : decode cX6_goesAhead 72 = .ok (.iload_n 2, 1) := by decide +kernel
theorem dX6_goesAhead_73 : decode cX6_goesAhead 73 = .ok (.iaload, 1) := by decide +kernel
theorem dX6_goesAhead_74 : decode cX6_goesAhead 74 = .ok (.if_icmp .le 7, 3) := by decide +kernel
theorem dX6_goesAhead_77 : decode cX6_goesAhead 77 = .ok (.iconst 1, 1) := by decide +kernel
theorem dX6_goesAhead_78 : decode cX6_goesAhead 78 = .ok (.goto 4, 3) := by decide +kernel
theorem dX6_goesAhead_81 : decode cX6_goesAhead 81 = .ok (.iconst 0, 1) := by decide +kernel
theorem dX6_goesAhead_82 : decode cX6_goesAhead 82 = .ok (.istore 6, 2) := by decide +kernel
theorem dX6_goesAhead_84 : decode cX6_goesAhead 84 = .ok (.iload 6, 2) := by decide +kernel
theorem dX6_goesAhead_86 : decode cX6_goesAhead 86 = .ok (.iload_n 3, 1) := by decide +kernel
theorem dX6_goesAhead_87 : decode cX6_goesAhead 87 = .ok (.iconst 3, 1) := by decide +kernel
theorem dX6_goesAhead_88 : decode cX6_goesAhead 88 = .ok (.if_icmp .ne 7, 3) := by decide +kernel
theorem dX6_goesAhead_91 : decode cX6_goesAhead 91 = .ok (.iconst 1, 1) := by decide +kernel
theorem dX6_goesAhead_92 : decode cX6_goesAhead 92 = .ok (.goto 4, 3) := by decide +kernel
theorem dX6_goesAhead_95 : decode cX6_goesAhead 95 = .ok (.iconst 0, 1) := by decide +kernel
theorem dX6_goesAhead_96 : decode cX6_goesAhead 96 = .ok (.if_icmp .eq 7, 3) := by decide +kernel
theorem dX6_goesAhead_99 : decode cX6_goesAhead 99 = .ok (.iconst 1, 1) := by decide +kernel
theorem dX6_goesAhead_100 : decode cX6_goesAhead 100 = .ok (.goto 4, 3) := by decide +kernel
theorem dX6_goesAhead_103 : decode cX6_goesAhead 103 = .ok (.iconst 0, 1) := by decide +kernel
theorem dX6_goesAhead_104 : decode cX6_goesAhead 104 = .ok (.ireturn, 1) := by decide +kernel
theorem dX6_gains_0 : decode cX6_gains 0 = .ok (.aload_n 0, 1) := by decide +kernel
theorem dX6_gains_1 : decode cX6_gains 1 = .ok (.getfield 25, 3) := by decide +kernel
theorem dX6_gains_4 : decode cX6_gains 4 = .ok (.ifCond .lt 12, 3) := by decide +kernel
theorem dX6_gains_7 : decode cX6_gains 7 = .ok (.aload_n 0, 1) := by decide +kernel
theorem dX6_gains_8 : decode cX6_gains 8 = .ok (.getfield 25, 3) := by decide +kernel
theorem dX6_gains_11 : decode cX6_gains 11 = .ok (.bipush 7, 2) := by decide +kernel
theorem dX6_gains_13 : decode cX6_gains 13 = .ok (.if_icmp .lt 4, 3) := by decide +kernel
theorem dX6_gains_16 : decode cX6_gains 16 = .ok (.return_, 1) := by decide +kernel
theorem dX6_gains_17 : decode cX6_gains 17 = .ok (.aload_n 0, 1) := by decide +kernel
theorem dX6_gains_18 : decode cX6_gains 18 = .ok (.getfield 9, 3) := by decide +kernel
theorem dX6_gains_21 : decode cX6_gains 21 = .ok (.aload_n 0, 1) := by decide +kernel
theorem dX6_gains_22 : decode cX6_gains 22 = .ok (.getfield 25, 3) := by decide +kernel
theorem dX6_gains_25 : decode cX6_gains 25 = .ok (.iload_n 1, 1) := by decide +kernel
theorem dX6_gains_26 : decode cX6_gains 26 = .ok (.iastore, 1) := by decide +kernel
theorem dX6_gains_27 : decode cX6_gains 27 = .ok (.aload_n 0, 1) := by decide +kernel
theorem dX6_gains_28 : decode cX6_gains 28 = .ok (.getfield 15, 3) := by decide +kernel
theorem dX6_gains_31 : decode cX6_gains 31 = .ok (.aload_n 0, 1) := by decide +kernel
theorem dX6_gains_32 : decode cX6_gains 32 = .ok (.getfield 25, 3) := by decide +kernel
theorem dX6_gains_35 : decode cX6_gains 35 = .ok (.iload_n 3, 1) := by decide +kernel
theorem dX6_gains_36 : decode cX6_gains 36 = .ok (.iastore, 1) := by decide +kernel
theorem dX6_gains_37 : decode cX6_gains 37 = .ok (.aload_n 0, 1) := by decide +kernel
theorem dX6_gains_38 : decode cX6_gains 38 = .ok (.dup, 1) := by decide +kernel
theorem dX6_gains_39 : decode cX6_gains 39 = .ok (.getfield 28, 3) := by decide +kernel
theorem dX6_gains_42 : decode cX6_gains 42 = .ok (.iconst 1, 1) := by decide +kernel
theorem dX6_gains_43 : decode cX6_gains 43 = .ok (.aload_n 0, 1) := by decide +kernel
theorem dX6_gains_44 : decode cX6_gains 44 = .ok (.getfield 25, 3) := by decide +kernel
theorem dX6_gains_47 : decode cX6_gains 47 = .ok (.ishl, 1) := by decide +kernel
theorem dX6_gains_48 : decode cX6_gains 48 = .ok (.ior, 1) := by decide +kernel
theorem dX6_gains_49 : decode cX6_gains 49 = .ok (.putfield 28, 3) := by decide +kernel
theorem dX6_gains_52 : decode cX6_gains 52 = .ok (.iload_n 2, 1) := by decide +kernel
theorem dX6_gains_53 : decode cX6_gains 53 = .ok (.ifCond .eq 18, 3) := by decide +kernel
theorem dX6_gains_56 : decode cX6_gains 56 = .ok (.aload_n 0, 1) := by decide +kernel
theorem dX6_gains_57 : decode cX6_gains 57 = .ok (.dup, 1) := by decide +kernel
theorem dX6_gains_58 : decode cX6_gains 58 = .ok (.getfield 22, 3) := by decide +kernel
theorem dX6_gains_61 : decode cX6_gains 61 = .ok (.iconst 1, 1) := by decide +kernel
theorem dX6_gains_62 : decode cX6_gains 62 = .ok (.aload_n 0, 1) := by decide +kernel
theorem dX6_gains_63 : decode cX6_gains 63 = .ok (.getfield 25, 3) := by decide +kernel
theorem dX6_gains_66 : decode cX6_gains 66 = .ok (.ishl, 1) := by decide +kernel
theorem dX6_gains_67 : decode cX6_gains 67 = .ok (.ior, 1) := by decide +kernel
theorem dX6_gains_68 : decode cX6_gains 68 = .ok (.putfield 22, 3) := by decide +kernel
theorem dX6_gains_71 : decode cX6_gains 71 = .ok (.aload_n 0, 1) := by decide +kernel
theorem dX6_gains_72 : decode cX6_gains 72 = .ok (.dup, 1) := by decide +kernel
theorem dX6_gains_73 : decode cX6_gains 73 = .ok (.getfield 25, 3) := by decide +kernel
theorem dX6_gains_76 : decode cX6_gains 76 = .ok (.iconst 1, 1) := by decide +kernel
theorem dX6_gains_77 : decode cX6_gains 77 = .ok (.iadd, 1) := by decide +kernel
theorem dX6_gains_78 : decode cX6_gains 78 = .ok (.putfield 25, 3) := by decide +kernel
theorem dX6_gains_81 : decode cX6_gains 81 = .ok (.return_, 1) := by decide +kernel
theorem dX6_loses_0 : decode cX6_loses 0 = .ok (.aload_n 0, 1) := by decide +kernel
theorem dX6_loses_1 : decode cX6_loses 1 = .ok (.iload_n 1, 1) := by decide +kernel
theorem dX6_loses_2 : decode cX6_loses 2 = .ok (.invokevirtual 57, 3) := by decide +kernel
theorem dX6_loses_5 : decode cX6_loses 5 = .ok (.ifCond .ne 4, 3) := by decide +kernel
theorem dX6_loses_8 : decode cX6_loses 8 = .ok (.return_, 1) := by decide +kernel
theorem dX6_loses_9 : decode cX6_loses 9 = .ok (.aload_n 0, 1) := by decide +kernel
theorem dX6_loses_10 : decode cX6_loses 10 = .ok (.dup, 1) := by decide +kernel
theorem dX6_loses_11 : decode cX6_loses 11 = .ok (.getfield 28, 3) := by decide +kernel
theorem dX6_loses_14 : decode cX6_loses 14 = .ok (.iconst 1, 1) := by decide +kernel
theorem dX6_loses_15 : decode cX6_loses 15 = .ok (.iload_n 1, 1) := by decide +kernel
theorem dX6_loses_16 : decode cX6_loses 16 = .ok (.ishl, 1) := by decide +kernel
theorem dX6_loses_17 : decode cX6_loses 17 = .ok (.iconst (-1), 1) := by decide +kernel
theorem dX6_loses_18 : decode cX6_loses 18 = .ok (.ixor, 1) := by decide +kernel
theorem dX6_loses_19 : decode cX6_loses 19 = .ok (.iand, 1) := by decide +kernel
theorem dX6_loses_20 : decode cX6_loses 20 = .ok (.putfield 28, 3) := by decide +kernel
theorem dX6_loses_23 : decode cX6_loses 23 = .ok (.iload_n 1, 1) := by decide +kernel
theorem dX6_loses_24 : decode cX6_loses 24 = .ok (.aload_n 0, 1) := by decide +kernel
theorem dX6_loses_25 : decode cX6_loses 25 = .ok (.getfield 18, 3) := by decide +kernel
theorem dX6_loses_28 : decode cX6_loses 28 = .ok (.if_icmp .ne 30, 3) := by decide +kernel
theorem dX6_loses_31 : decode cX6_loses 31 = .ok (.aload_n 2, 1) := by decide +kernel
theorem dX6_loses_32 : decode cX6_loses 32 = .ok (.aload_n 0, 1) := by decide +kernel
theorem dX6_loses_33 : decode cX6_loses 33 = .ok (.iload_n 1, 1) := by decide +kernel
theorem dX6_loses_34 : decode cX6_loses 34 = .ok (.aload_n 0, 1) := by decide +kernel
theorem dX6_loses_35 : decode cX6_loses 35 = .ok (.getfield 31, 3) := by decide +kernel
theorem dX6_loses_38 : decode cX6_loses 38 = .ok (.invokevirtual 60, 3) := by decide +kernel
theorem dX6_loses_41 : decode cX6_loses 41 = .ok (.aload_n 0, 1) := by decide +kernel
theorem dX6_loses_42 : decode cX6_loses 42 = .ok (.aload_n 2, 1) := by decide +kernel
theorem dX6_loses_43 : decode cX6_loses 43 = .ok (.aload_n 0, 1) := by decide +kernel
theorem dX6_loses_44 : decode cX6_loses 44 = .ok (.getfield 28, 3) := by decide +kernel
theorem dX6_loses_47 : decode cX6_loses 47 = .ok (.invokevirtual 66, 3) := by decide +kernel
theorem dX6_loses_50 : decode cX6_loses 50 = .ok (.putfield 18, 3) := by decide +kernel
theorem dX6_loses_53 : decode cX6_loses 53 = .ok (.aload_n 0, 1) := by decide +kernel
theorem dX6_loses_54 : decode cX6_loses 54 = .ok (.iconst 0, 1) := by decide +kernel
theorem dX6_loses_55 : decode cX6_loses 55 = .ok (.putfield 37, 3) := by decide +kernel
theorem dX6_loses_58 : decode cX6_loses 58 = .ok (.return_, 1) := by decide +kernel
theorem dX6_grows_0 : decode cX6_grows 0 = .ok (.iconst 0, 1) := by decide +kernel
theorem dX6_grows_1 : decode cX6_grows 1 = .ok (.istore_n 1, 1) := by decide +kernel
theorem dX6_grows_2 : decode cX6_grows 2 = .ok (.iload_n 1, 1) := by decide +kernel
theorem dX6_grows_3 : decode cX6_grows 3 = .ok (.aload_n 0, 1) := by decide +kernel
theorem dX6_grows_4 : decode cX6_grows 4 = .ok (.getfield 25, 3) := by decide +kernel
theorem dX6_grows_7 : decode cX6_grows 7 = .ok (.if_icmp .ge 25, 3) := by decide +kernel
theorem dX6_grows_10 : decode cX6_grows 10 = .ok (.iload_n 1, 1) := by decide +kernel
theorem dX6_grows_11 : decode cX6_grows 11 = .ok (.bipush 7, 2) := by decide +kernel
theorem dX6_grows_13 : decode cX6_grows 13 = .ok (.if_icmp .ge 19, 3) := by decide +kernel
theorem dX6_grows_16 : decode cX6_grows 16 = .ok (.aload_n 0, 1) := by decide +kernel
theorem dX6_grows_17 : decode cX6_grows 17 = .ok (.getfield 15, 3) := by decide +kernel
theorem dX6_grows_20 : decode cX6_grows 20 = .ok (.iload_n 1, 1) := by decide +kernel
theorem dX6_grows_21 : decode cX6_grows 21 = .ok (.dup2, 1) := by decide +kernel
theorem dX6_grows_22 : decode cX6_grows 22 = .ok (.iaload, 1) := by decide +kernel
theorem dX6_grows_23 : decode cX6_grows 23 = .ok (.iconst 1, 1) := by decide +kernel
theorem dX6_grows_24 : decode cX6_grows 24 = .ok (.iadd, 1) := by decide +kernel
theorem dX6_grows_25 : decode cX6_grows 25 = .ok (.iastore, 1) := by decide +kernel
theorem dX6_grows_26 : decode cX6_grows 26 = .ok (.iinc 1 1, 3) := by decide +kernel
theorem dX6_grows_29 : decode cX6_grows 29 = .ok (.goto (-27), 3) := by decide +kernel
theorem dX6_grows_32 : decode cX6_grows 32 = .ok (.aload_n 0, 1) := by decide +kernel
theorem dX6_grows_33 : decode cX6_grows 33 = .ok (.bipush 9, 2) := by decide +kernel
theorem dX6_grows_35 : decode cX6_grows 35 = .ok (.aload_n 0, 1) := by decide +kernel
theorem dX6_grows_36 : decode cX6_grows 36 = .ok (.getfield 34, 3) := by decide +kernel
theorem dX6_grows_39 : decode cX6_grows 39 = .ok (.iconst 1, 1) := by decide +kernel
theorem dX6_grows_40 : decode cX6_grows 40 = .ok (.iadd, 1) := by decide +kernel
theorem dX6_grows_41 : decode cX6_grows 41 = .ok (.invokestatic 70, 3) := by decide +kernel
theorem dX6_grows_44 : decode cX6_grows 44 = .ok (.putfield 34, 3) := by decide +kernel
theorem dX6_grows_47 : decode cX6_grows 47 = .ok (.aload_n 0, 1) := by decide +kernel
theorem dX6_grows_48 : decode cX6_grows 48 = .ok (.dup, 1) := by decide +kernel
theorem dX6_grows_49 : decode cX6_grows 49 = .ok (.getfield 40, 3) := by decide +kernel
theorem dX6_grows_52 : decode cX6_grows 52 = .ok (.iconst 1, 1) := by decide +kernel
theorem dX6_grows_53 : decode cX6_grows 53 = .ok (.iadd, 1) := by decide +kernel
theorem dX6_grows_54 : decode cX6_grows 54 = .ok (.putfield 40, 3) := by decide +kernel
theorem dX6_grows_57 : decode cX6_grows 57 = .ok (.return_, 1) := by decide +kernel
theorem dX7_init_0 : decode cX7_init 0 = .ok (.aload_n 0, 1) := by decide +kernel
theorem dX7_init_1 : decode cX7_init 1 = .ok (.invokespecial 3, 3) := by decide +kernel
theorem dX7_init_4 : decode cX7_init 4 = .ok (.aload_n 0, 1) := by decide +kernel
theorem dX7_init_5 : decode cX7_init 5 = .ok (.bipush 7, 2) := by decide +kernel
theorem dX7_init_7 : decode cX7_init 7 = .ok (.anewarray 9, 3) := by decide +kernel
theorem dX7_init_10 : decode cX7_init 10 = .ok (.putfield 11, 3) := by decide +kernel
theorem dX7_init_13 : decode cX7_init 13 = .ok (.aload_n 0, 1) := by decide +kernel
theorem dX7_init_14 : decode cX7_init 14 = .ok (.sipush 896, 3) := by decide +kernel
theorem dX7_init_17 : decode cX7_init 17 = .ok (.newarray .int, 2) := by decide +kernel
theorem dX7_init_19 : decode cX7_init 19 = .ok (.putfield 17, 3) := by decide +kernel
theorem dX7_init_22 : decode cX7_init 22 = .ok (.iconst 0, 1) := by decide +kernel
theorem dX7_init_23 : decode cX7_init 23 = .ok (.istore_n 1, 1) := by decide +kernel
theorem dX7_init_24 : decode cX7_init 24 = .ok (.iload_n 1, 1) := by decide +kernel
theorem dX7_init_25 : decode cX7_init 25 = .ok (.bipush 7, 2) := by decide +kernel
theorem dX7_init_27 : decode cX7_init 27 = .ok (.if_icmp .ge 22, 3) := by decide +kernel
theorem dX7_init_30 : decode cX7_init 30 = .ok (.aload_n 0, 1) := by decide +kernel
theorem dX7_init_31 : decode cX7_init 31 = .ok (.getfield 11, 3) := by decide +kernel
theorem dX7_init_34 : decode cX7_init 34 = .ok (.iload_n 1, 1) := by decide +kernel
theorem dX7_init_35 : decode cX7_init 35 = .ok (.new 9, 3) := by decide +kernel
theorem dX7_init_38 : decode cX7_init 38 = .ok (.dup, 1) := by decide +kernel
theorem dX7_init_39 : decode cX7_init 39 = .ok (.invokespecial 21, 3) := by decide +kernel
theorem dX7_init_42 : decode cX7_init 42 = .ok (.aastore, 1) := by decide +kernel
theorem dX7_init_43 : decode cX7_init 43 = .ok (.iinc 1 1, 3) := by decide +kernel
theorem dX7_init_46 : decode cX7_init 46 = .ok (.goto (-22), 3) := by decide +kernel
theorem dX7_init_49 : decode cX7_init 49 = .ok (.return_, 1) := by decide +kernel
theorem dX7_ofSoMany_0 : decode cX7_ofSoMany 0 = .ok (.iconst 1, 1) := by decide +kernel
theorem dX7_ofSoMany_1 : decode cX7_ofSoMany 1 = .ok (.istore_n 1, 1) := by decide +kernel
theorem dX7_ofSoMany_2 : decode cX7_ofSoMany 2 = .ok (.iconst 2, 1) := by decide +kernel
theorem dX7_ofSoMany_3 : decode cX7_ofSoMany 3 = .ok (.istore_n 2, 1) := by decide +kernel
theorem dX7_ofSoMany_4 : decode cX7_ofSoMany 4 = .ok (.iload_n 2, 1) := by decide +kernel
theorem dX7_ofSoMany_5 : decode cX7_ofSoMany 5 = .ok (.iload_n 0, 1) := by decide +kernel
theorem dX7_ofSoMany_6 : decode cX7_ofSoMany 6 = .ok (.if_icmp .gt 19, 3) := by decide +kernel
theorem dX7_ofSoMany_9 : decode cX7_ofSoMany 9 = .ok (.iload_n 2, 1) := by decide +kernel
theorem dX7_ofSoMany_10 : decode cX7_ofSoMany 10 = .ok (.bipush 7, 2) := by decide +kernel
theorem dX7_ofSoMany_12 : decode cX7_ofSoMany 12 = .ok (.if_icmp .gt 13, 3) := by decide +kernel
theorem dX7_ofSoMany_15 : decode cX7_ofSoMany 15 = .ok (.iload_n 1, 1) := by decide +kernel
theorem dX7_ofSoMany_16 : decode cX7_ofSoMany 16 = .ok (.iload_n 2, 1) := by decide +kernel
theorem dX7_ofSoMany_17 : decode cX7_ofSoMany 17 = .ok (.imul, 1) := by decide +kernel
theorem dX7_ofSoMany_18 : decode cX7_ofSoMany 18 = .ok (.istore_n 1, 1) := by decide +kernel
theorem dX7_ofSoMany_19 : decode cX7_ofSoMany 19 = .ok (.iinc 2 1, 3) := by decide +kernel
theorem dX7_ofSoMany_22 : decode cX7_ofSoMany 22 = .ok (.goto (-18), 3) := by decide +kernel
theorem dX7_ofSoMany_25 : decode cX7_ofSoMany 25 = .ok (.iload_n 1, 1) := by decide +kernel
theorem dX7_ofSoMany_26 : decode cX7_ofSoMany 26 = .ok (.ireturn, 1) := by decide +kernel
theorem dX7_inWhichHolds_0 : decode cX7_inWhichHolds 0 = .ok (.aload_n 0, 1) := by decide +kernel
theorem dX7_inWhichHolds_1 : decode cX7_inWhichHolds 1 = .ok (.aload_n 1, 1) := by decide +kernel
theorem dX7_inWhichHolds_2 : decode cX7_inWhichHolds 2 = .ok (.invokevirtual 22, 3) := by decide +kernel
theorem dX7_inWhichHolds_5 : decode cX7_inWhichHolds 5 = .ok (.iconst 0, 1) := by decide +kernel
theorem dX7_inWhichHolds_6 : decode cX7_inWhichHolds 6 = .ok (.istore_n 3, 1) := by decide +kernel
theorem dX7_inWhichHolds_7 : decode cX7_inWhichHolds 7 = .ok (.aload_n 1, 1) := by decide +kernel
theorem dX7_inWhichHolds_8 : decode cX7_inWhichHolds 8 = .ok (.getfield 26, 3) := by decide +kernel
theorem dX7_inWhichHolds_11 : decode cX7_inWhichHolds 11 = .ok (.bipush 127, 2) := by decide +kernel
theorem dX7_inWhichHolds_13 : decode cX7_inWhichHolds 13 = .ok (.invokestatic 32, 3) := by decide +kernel
theorem dX7_inWhichHolds_16 : decode cX7_inWhichHolds 16 = .ok (.istore 4, 2) := by decide +kernel
theorem dX7_inWhichHolds_18 : decode cX7_inWhichHolds 18 = .ok (.iload 4, 2) := by decide +kernel
theorem dX7_inWhichHolds_20 : decode cX7_inWhichHolds 20 = .ok (.ifCond .le 84, 3) := by decide +kernel
theorem dX7_inWhichHolds_23 : decode cX7_inWhichHolds 23 = .ok (.iconst 0, 1) := by decide +kernel
theorem dX7_inWhichHolds_24 : decode cX7_inWhichHolds 24 = .ok (.istore 5, 2) := by decide +kernel
theorem dX7_inWhichHolds_26 : decode cX7_inWhichHolds 26 = .ok (.iload 5, 2) := by decide +kernel
theorem dX7_inWhichHolds_28 : decode cX7_inWhichHolds 28 = .ok (.bipush 7, 2) := by decide +kernel
theorem dX7_inWhichHolds_30 : decode cX7_inWhichHolds 30 = .ok (.if_icmp .ge 68, 3) := by decide +kernel
theorem dX7_inWhichHolds_33 : decode cX7_inWhichHolds 33 = .ok (.aload_n 0, 1) := by decide +kernel
theorem dX7_inWhichHolds_34 : decode cX7_inWhichHolds 34 = .ok (.getfield 17, 3) := by decide +kernel
theorem dX7_inWhichHolds_37 : decode cX7_inWhichHolds 37 = .ok (.iload 4, 2) := by decide +kernel
theorem dX7_inWhichHolds_39 : decode cX7_inWhichHolds 39 = .ok (.bipush 7, 2) := by decide +kernel
theorem dX7_inWhichHolds_41 : decode cX7_inWhichHolds 41 = .ok (.imul, 1) := by decide +kernel
theorem dX7_inWhichHolds_42 : decode cX7_inWhichHolds 42 = .ok (.iload 5, 2) := by decide +kernel
theorem dX7_inWhichHolds_44 : decode cX7_inWhichHolds 44 = .ok (.iadd, 1) := by decide +kernel
theorem dX7_inWhichHolds_45 : decode cX7_inWhichHolds 45 = .ok (.iaload, 1) := by decide +kernel
theorem dX7_inWhichHolds_46 : decode cX7_inWhichHolds 46 = .ok (.istore 6, 2) := by decide +kernel
theorem dX7_inWhichHolds_48 : decode cX7_inWhichHolds 48 = .ok (.iload 6, 2) := by decide +kernel
theorem dX7_inWhichHolds_50 : decode cX7_inWhichHolds 50 = .ok (.ifCond .le 26, 3) := by decide +kernel
theorem dX7_inWhichHolds_53 : decode cX7_inWhichHolds 53 = .ok (.iload 5, 2) := by decide +kernel
theorem dX7_inWhichHolds_55 : decode cX7_inWhichHolds 55 = .ok (.iload_n 2, 1) := by decide +kernel
theorem dX7_inWhichHolds_56 : decode cX7_inWhichHolds 56 = .ok (.if_icmp .ne 20, 3) := by decide +kernel
theorem dX7_inWhichHolds_59 : decode cX7_inWhichHolds 59 = .ok (.iload_n 3, 1) := by decide +kernel
theorem dX7_inWhichHolds_60 : decode cX7_inWhichHolds 60 = .ok (.iload 6, 2) := by decide +kernel
theorem dX7_inWhichHolds_62 : decode cX7_inWhichHolds 62 = .ok (.iload 4, 2) := by decide +kernel
theorem dX7_inWhichHolds_64 : decode cX7_inWhichHolds 64 = .ok (.invokestatic 38, 3) := by decide +kernel
theorem dX7_inWhichHolds_67 : decode cX7_inWhichHolds 67 = .ok (.invokestatic 44, 3) := by decide +kernel
theorem dX7_inWhichHolds_70 : decode cX7_inWhichHolds 70 = .ok (.imul, 1) := by decide +kernel
theorem dX7_inWhichHolds_71 : decode cX7_inWhichHolds 71 = .ok (.iadd, 1) := by decide +kernel
theorem dX7_inWhichHolds_72 : decode cX7_inWhichHolds 72 = .ok (.istore_n 3, 1) := by decide +kernel
theorem dX7_inWhichHolds_73 : decode cX7_inWhichHolds 73 = .ok (.goto 19, 3) := by decide +kernel
theorem dX7_inWhichHolds_76 : decode cX7_inWhichHolds 76 = .ok (.iload 6, 2) := by decide +kernel
theorem dX7_inWhichHolds_78 : decode cX7_inWhichHolds 78 = .ok (.ifCond .le 14, 3) := by decide +kernel
theorem dX7_inWhichHolds_81 : decode cX7_inWhichHolds 81 = .ok (.aload_n 0, 1) := by decide +kernel
theorem dX7_inWhichHolds_82 : decode cX7_inWhichHolds 82 = .ok (.iload 4, 2) := by decide +kernel
theorem dX7_inWhichHolds_84 : decode cX7_inWhichHolds 84 = .ok (.iload 5, 2) := by decide +kernel
theorem dX7_inWhichHolds_86 : decode cX7_inWhichHolds 86 = .ok (.iload_n 2, 1) := by decide +kernel
theorem dX7_inWhichHolds_87 : decode cX7_inWhichHolds 87 = .ok (.iload 6, 2) := by decide +kernel
theorem dX7_inWhichHolds_89 : decode cX7_inWhichHolds 89 = .ok (.invokevirtual 47, 3) := by decide +kernel
theorem dX7_inWhichHolds_92 : decode cX7_inWhichHolds 92 = .ok (.iinc 5 1, 3) := by decide +kernel
theorem dX7_inWhichHolds_95 : decode cX7_inWhichHolds 95 = .ok (.goto (-69), 3) := by decide +kernel
theorem dX7_inWhichHolds_98 : decode cX7_inWhichHolds 98 = .ok (.iinc 4 (-1), 3) := by decide +kernel
theorem dX7_inWhichHolds_101 : decode cX7_inWhichHolds 101 = .ok (.goto (-83), 3) := by decide +kernel
theorem dX7_inWhichHolds_104 : decode cX7_inWhichHolds 104 = .ok (.iload_n 3, 1) := by decide +kernel
theorem dX7_inWhichHolds_105 : decode cX7_inWhichHolds 105 = .ok (.ireturn, 1) := by decide +kernel
theorem dX7_begin_0 : decode cX7_begin 0 = .ok (.aload_n 0, 1) := by decide +kernel
theorem dX7_begin_1 : decode cX7_begin 1 = .ok (.getfield 17, 3) := by decide +kernel
theorem dX7_begin_4 : decode cX7_begin 4 = .ok (.iconst 0, 1) := by decide +kernel
theorem dX7_begin_5 : decode cX7_begin 5 = .ok (.invokestatic 51, 3) := by decide +kernel
theorem dX7_begin_8 : decode cX7_begin 8 = .ok (.iconst 0, 1) := by decide +kernel
theorem dX7_begin_9 : decode cX7_begin 9 = .ok (.istore_n 2, 1) := by decide +kernel
theorem dX7_begin_10 : decode cX7_begin 10 = .ok (.iload_n 2, 1) := by decide +kernel
theorem dX7_begin_11 : decode cX7_begin 11 = .ok (.bipush 7, 2) := by decide +kernel
theorem dX7_begin_13 : decode cX7_begin 13 = .ok (.if_icmp .ge 24, 3) := by decide +kernel
theorem dX7_begin_16 : decode cX7_begin 16 = .ok (.aload_n 0, 1) := by decide +kernel
theorem dX7_begin_17 : decode cX7_begin 17 = .ok (.getfield 11, 3) := by decide +kernel
theorem dX7_begin_20 : decode cX7_begin 20 = .ok (.iload_n 2, 1) := by decide +kernel
theorem dX7_begin_21 : decode cX7_begin 21 = .ok (.aaload, 1) := by decide +kernel
theorem dX7_begin_22 : decode cX7_begin 22 = .ok (.aload_n 1, 1) := by decide +kernel
theorem dX7_begin_23 : decode cX7_begin 23 = .ok (.iload_n 2, 1) := by decide +kernel
theorem dX7_begin_24 : decode cX7_begin 24 = .ok (.aload_n 1, 1) := by decide +kernel
theorem dX7_begin_25 : decode cX7_begin 25 = .ok (.getfield 57, 3) := by decide +kernel
theorem dX7_begin_28 : decode cX7_begin 28 = .ok (.invokevirtual 60, 3) := by decide +kernel
theorem dX7_begin_31 : decode cX7_begin 31 = .ok (.iinc 2 1, 3) := by decide +kernel
theorem dX7_begin_34 : decode cX7_begin 34 = .ok (.goto (-24), 3) := by decide +kernel
theorem dX7_begin_37 : decode cX7_begin 37 = .ok (.aload_n 0, 1) := by decide +kernel
theorem dX7_begin_38 : decode cX7_begin 38 = .ok (.aload_n 1, 1) := by decide +kernel
theorem dX7_begin_39 : decode cX7_begin 39 = .ok (.getfield 26, 3) := by decide +kernel
theorem dX7_begin_42 : decode cX7_begin 42 = .ok (.aload_n 1, 1) := by decide +kernel
theorem dX7_begin_43 : decode cX7_begin 43 = .ok (.getfield 64, 3) := by decide +kernel
theorem dX7_begin_46 : decode cX7_begin 46 = .ok (.iconst 1, 1) := by decide +kernel
theorem dX7_begin_47 : decode cX7_begin 47 = .ok (.invokevirtual 67, 3) := by decide +kernel
theorem dX7_begin_50 : decode cX7_begin 50 = .ok (.return_, 1) := by decide +kernel
theorem dX7_goOn_0 : decode cX7_goOn 0 = .ok (.iconst 0, 1) := by decide +kernel
theorem dX7_goOn_1 : decode cX7_goOn 1 = .ok (.istore 5, 2) := by decide +kernel
theorem dX7_goOn_3 : decode cX7_goOn 3 = .ok (.iload 5, 2) := by decide +kernel
theorem dX7_goOn_5 : decode cX7_goOn 5 = .ok (.bipush 7, 2) := by decide +kernel
theorem dX7_goOn_7 : decode cX7_goOn 7 = .ok (.if_icmp .ge 65, 3) := by decide +kernel
theorem dX7_goOn_10 : decode cX7_goOn 10 = .ok (.iload_n 1, 1) := by decide +kernel
theorem dX7_goOn_11 : decode cX7_goOn 11 = .ok (.iload 5, 2) := by decide +kernel
theorem dX7_goOn_13 : decode cX7_goOn 13 = .ok (.ishr, 1) := by decide +kernel
theorem dX7_goOn_14 : decode cX7_goOn 14 = .ok (.iconst 1, 1) := by decide +kernel
theorem dX7_goOn_15 : decode cX7_goOn 15 = .ok (.iand, 1) := by decide +kernel
theorem dX7_goOn_16 : decode cX7_goOn 16 = .ok (.iconst 1, 1) := by decide +kernel
theorem dX7_goOn_17 : decode cX7_goOn 17 = .ok (.if_icmp .ne 49, 3) := by decide +kernel
theorem dX7_goOn_20 : decode cX7_goOn 20 = .ok (.iload 5, 2) := by decide +kernel
theorem dX7_goOn_22 : decode cX7_goOn 22 = .ok (.iload_n 3, 1) := by decide +kernel
theorem dX7_goOn_23 : decode cX7_goOn 23 = .ok (.if_icmp .eq 43, 3) := by decide +kernel
theorem dX7_goOn_26 : decode cX7_goOn 26 = .ok (.iload_n 1, 1) := by decide +kernel
theorem dX7_goOn_27 : decode cX7_goOn 27 = .ok (.iconst 1, 1) := by decide +kernel
theorem dX7_goOn_28 : decode cX7_goOn 28 = .ok (.iload 5, 2) := by decide +kernel
theorem dX7_goOn_30 : decode cX7_goOn 30 = .ok (.ishl, 1) := by decide +kernel
theorem dX7_goOn_31 : decode cX7_goOn 31 = .ok (.iconst (-1), 1) := by decide +kernel
theorem dX7_goOn_32 : decode cX7_goOn 32 = .ok (.ixor, 1) := by decide +kernel
theorem dX7_goOn_33 : decode cX7_goOn 33 = .ok (.iand, 1) := by decide +kernel
theorem dX7_goOn_34 : decode cX7_goOn 34 = .ok (.istore 6, 2) := by decide +kernel
theorem dX7_goOn_36 : decode cX7_goOn 36 = .ok (.aload_n 0, 1) := by decide +kernel
theorem dX7_goOn_37 : decode cX7_goOn 37 = .ok (.iload 6, 2) := by decide +kernel
theorem dX7_goOn_39 : decode cX7_goOn 39 = .ok (.iload 5, 2) := by decide +kernel
theorem dX7_goOn_41 : decode cX7_goOn 41 = .ok (.iload_n 2, 1) := by decide +kernel
theorem dX7_goOn_42 : decode cX7_goOn 42 = .ok (.if_icmp .ne 18, 3) := by decide +kernel
theorem dX7_goOn_45 : decode cX7_goOn 45 = .ok (.aload_n 0, 1) := by decide +kernel
theorem dX7_goOn_46 : decode cX7_goOn 46 = .ok (.getfield 11, 3) := by decide +kernel
theorem dX7_goOn_49 : decode cX7_goOn 49 = .ok (.iload 5, 2) := by decide +kernel
theorem dX7_goOn_51 : decode cX7_goOn 51 = .ok (.aaload, 1) := by decide +kernel
theorem dX7_goOn_52 : decode cX7_goOn 52 = .ok (.iload 6, 2) := by decide +kernel
theorem dX7_goOn_54 : decode cX7_goOn 54 = .ok (.invokevirtual 71, 3) := by decide +kernel
theorem dX7_goOn_57 : decode cX7_goOn 57 = .ok (.goto 4, 3) := by decide +kernel
theorem dX7_goOn_60 : decode cX7_goOn 60 = .ok (.iload_n 2, 1) := by decide +kernel
theorem dX7_goOn_61 : decode cX7_goOn 61 = .ok (.iload 4, 2) := by decide +kernel
theorem dX7_goOn_63 : decode cX7_goOn 63 = .ok (.invokevirtual 67, 3) := by decide +kernel
theorem dX7_goOn_66 : decode cX7_goOn 66 = .ok (.iinc 5 1, 3) := by decide +kernel
theorem dX7_goOn_69 : decode cX7_goOn 69 = .ok (.goto (-66), 3) := by decide +kernel
theorem dX7_goOn_72 : decode cX7_goOn 72 = .ok (.return_, 1) := by decide +kernel
theorem dX7_add_0 : decode cX7_add 0 = .ok (.iload_n 1, 1) := by decide +kernel
theorem dX7_add_1 : decode cX7_add 1 = .ok (.ifCond .lt 35, 3) := by decide +kernel
theorem dX7_add_4 : decode cX7_add 4 = .ok (.iload_n 1, 1) := by decide +kernel
theorem dX7_add_5 : decode cX7_add 5 = .ok (.sipush 128, 3) := by decide +kernel
theorem dX7_add_8 : decode cX7_add 8 = .ok (.if_icmp .ge 28, 3) := by decide +kernel
theorem dX7_add_11 : decode cX7_add 11 = .ok (.iload_n 2, 1) := by decide +kernel
theorem dX7_add_12 : decode cX7_add 12 = .ok (.ifCond .lt 24, 3) := by decide +kernel
theorem dX7_add_15 : decode cX7_add 15 = .ok (.iload_n 2, 1) := by decide +kernel
theorem dX7_add_16 : decode cX7_add 16 = .ok (.bipush 7, 2) := by decide +kernel
theorem dX7_add_18 : decode cX7_add 18 = .ok (.if_icmp .ge 18, 3) := by decide +kernel
theorem dX7_add_21 : decode cX7_add 21 = .ok (.aload_n 0, 1) := by decide +kernel
theorem dX7_add_22 : decode cX7_add 22 = .ok (.getfield 17, 3) := by decide +kernel
theorem dX7_add_25 : decode cX7_add 25 = .ok (.iload_n 1, 1) := by decide +kernel
theorem dX7_add_26 : decode cX7_add 26 = .ok (.bipush 7, 2) := by decide +kernel
theorem dX7_add_28 : decode cX7_add 28 = .ok (.imul, 1) := by decide +kernel
theorem dX7_add_29 : decode cX7_add 29 = .ok (.iload_n 2, 1) := by decide +kernel
theorem dX7_add_30 : decode cX7_add 30 = .ok (.iadd, 1) := by decide +kernel
theorem dX7_add_31 : decode cX7_add 31 = .ok (.dup2, 1) := by decide +kernel
theorem dX7_add_32 : decode cX7_add 32 = .ok (.iaload, 1) := by decide +kernel
theorem dX7_add_33 : decode cX7_add 33 = .ok (.iload_n 3, 1) := by decide +kernel
theorem dX7_add_34 : decode cX7_add 34 = .ok (.iadd, 1) := by decide +kernel
theorem dX7_add_35 : decode cX7_add 35 = .ok (.iastore, 1) := by decide +kernel
theorem dX7_add_36 : decode cX7_add 36 = .ok (.return_, 1) := by decide +kernel
theorem dX8_init_0 : decode cX8_init 0 = .ok (.aload_n 0, 1) := by decide +kernel
theorem dX8_init_1 : decode cX8_init 1 = .ok (.invokespecial 3, 3) := by decide +kernel
theorem dX8_init_4 : decode cX8_init 4 = .ok (.aload_n 0, 1) := by decide +kernel
theorem dX8_init_5 : decode cX8_init 5 = .ok (.bipush 40, 2) := by decide +kernel
theorem dX8_init_7 : decode cX8_init 7 = .ok (.newarray .int, 2) := by decide +kernel
theorem dX8_init_9 : decode cX8_init 9 = .ok (.putfield 9, 3) := by decide +kernel
theorem dX8_init_12 : decode cX8_init 12 = .ok (.return_, 1) := by decide +kernel
theorem dX8_add_0 : decode cX8_add 0 = .ok (.aload_n 0, 1) := by decide +kernel
theorem dX8_add_1 : decode cX8_add 1 = .ok (.getfield 15, 3) := by decide +kernel
theorem dX8_add_4 : decode cX8_add 4 = .ok (.ifCond .lt 12, 3) := by decide +kernel
theorem dX8_add_7 : decode cX8_add 7 = .ok (.aload_n 0, 1) := by decide +kernel
theorem dX8_add_8 : decode cX8_add 8 = .ok (.getfield 15, 3) := by decide +kernel
theorem dX8_add_11 : decode cX8_add 11 = .ok (.bipush 40, 2) := by decide +kernel
theorem dX8_add_13 : decode cX8_add 13 = .ok (.if_icmp .lt 5, 3) := by decide +kernel
theorem dX8_add_16 : decode cX8_add 16 = .ok (.iconst 0, 1) := by decide +kernel
theorem dX8_add_17 : decode cX8_add 17 = .ok (.ireturn, 1) := by decide +kernel
theorem dX8_add_18 : decode cX8_add 18 = .ok (.aload_n 0, 1) := by decide +kernel
theorem dX8_add_19 : decode cX8_add 19 = .ok (.getfield 9, 3) := by decide +kernel
theorem dX8_add_22 : decode cX8_add 22 = .ok (.aload_n 0, 1) := by decide +kernel
theorem dX8_add_23 : decode cX8_add 23 = .ok (.getfield 15, 3) := by decide +kernel
theorem dX8_add_26 : decode cX8_add 26 = .ok (.iload_n 1, 1) := by decide +kernel
theorem dX8_add_27 : decode cX8_add 27 = .ok (.iastore, 1) := by decide +kernel
theorem dX8_add_28 : decode cX8_add 28 = .ok (.aload_n 0, 1) := by decide +kernel
theorem dX8_add_29 : decode cX8_add 29 = .ok (.dup, 1) := by decide +kernel
theorem dX8_add_30 : decode cX8_add 30 = .ok (.getfield 15, 3) := by decide +kernel
theorem dX8_add_33 : decode cX8_add 33 = .ok (.iconst 1, 1) := by decide +kernel
theorem dX8_add_34 : decode cX8_add 34 = .ok (.iadd, 1) := by decide +kernel
theorem dX8_add_35 : decode cX8_add 35 = .ok (.putfield 15, 3) := by decide +kernel
theorem dX8_add_38 : decode cX8_add 38 = .ok (.iconst 1, 1) := by decide +kernel
theorem dX8_add_39 : decode cX8_add 39 = .ok (.ireturn, 1) := by decide +kernel
theorem dX8_firstFault_0 : decode cX8_firstFault 0 = .ok (.iconst 0, 1) := by decide +kernel
theorem dX8_firstFault_1 : decode cX8_firstFault 1 = .ok (.istore_n 1, 1) := by decide +kernel
theorem dX8_firstFault_2 : decode cX8_firstFault 2 = .ok (.iload_n 1, 1) := by decide +kernel
theorem dX8_firstFault_3 : decode cX8_firstFault 3 = .ok (.aload_n 0, 1) := by decide +kernel
theorem dX8_firstFault_4 : decode cX8_firstFault 4 = .ok (.getfield 15, 3) := by decide +kernel
theorem dX8_firstFault_7 : decode cX8_firstFault 7 = .ok (.if_icmp .ge 30, 3) := by decide +kernel
theorem dX8_firstFault_10 : decode cX8_firstFault 10 = .ok (.iload_n 1, 1) := by decide +kernel
theorem dX8_firstFault_11 : decode cX8_firstFault 11 = .ok (.bipush 40, 2) := by decide +kernel
theorem dX8_firstFault_13 : decode cX8_firstFault 13 = .ok (.if_icmp .ge 24, 3) := by decide +kernel
theorem dX8_firstFault_16 : decode cX8_firstFault 16 = .ok (.iload_n 1, 1) := by decide +kernel
theorem dX8_firstFault_17 : decode cX8_firstFault 17 = .ok (.aload_n 0, 1) := by decide +kernel
theorem dX8_firstFault_18 : decode cX8_firstFault 18 = .ok (.getfield 9, 3) := by decide +kernel
theorem dX8_firstFault_21 : decode cX8_firstFault 21 = .ok (.iload_n 1, 1) := by decide +kernel
theorem dX8_firstFault_22 : decode cX8_firstFault 22 = .ok (.iaload, 1) := by decide +kernel
theorem dX8_firstFault_23 : decode cX8_firstFault 23 = .ok (.invokestatic 19, 3) := by decide +kernel
theorem dX8_firstFault_26 : decode cX8_firstFault 26 = .ok (.ifCond .ne 5, 3) := by decide +kernel
theorem dX8_firstFault_29 : decode cX8_firstFault 29 = .ok (.iload_n 1, 1) := by decide +kernel
theorem dX8_firstFault_30 : decode cX8_firstFault 30 = .ok (.ireturn, 1) := by decide +kernel
theorem dX8_firstFault_31 : decode cX8_firstFault 31 = .ok (.iinc 1 1, 3) := by decide +kernel
theorem dX8_firstFault_34 : decode cX8_firstFault 34 = .ok (.goto (-32), 3) := by decide +kernel
theorem dX8_firstFault_37 : decode cX8_firstFault 37 = .ok (.aload_n 0, 1) := by decide +kernel
theorem dX8_firstFault_38 : decode cX8_firstFault 38 = .ok (.getfield 15, 3) := by decide +kernel
theorem dX8_firstFault_41 : decode cX8_firstFault 41 = .ok (.iconst 3, 1) := by decide +kernel
theorem dX8_firstFault_42 : decode cX8_firstFault 42 = .ok (.if_icmp .lt 18, 3) := by decide +kernel
theorem dX8_firstFault_45 : decode cX8_firstFault 45 = .ok (.aload_n 0, 1) := by decide +kernel
theorem dX8_firstFault_46 : decode cX8_firstFault 46 = .ok (.getfield 15, 3) := by decide +kernel
theorem dX8_firstFault_49 : decode cX8_firstFault 49 = .ok (.iconst 3, 1) := by decide +kernel
theorem dX8_firstFault_50 : decode cX8_firstFault 50 = .ok (.isub, 1) := by decide +kernel
theorem dX8_firstFault_51 : decode cX8_firstFault 51 = .ok (.iconst 4, 1) := by decide +kernel
theorem dX8_firstFault_52 : decode cX8_firstFault 52 = .ok (.irem, 1) := by decide +kernel
theorem dX8_firstFault_53 : decode cX8_firstFault 53 = .ok (.ifCond .ne 7, 3) := by decide +kernel
theorem dX8_firstFault_56 : decode cX8_firstFault 56 = .ok (.iconst 1, 1) := by decide +kernel
theorem dX8_firstFault_57 : decode cX8_firstFault 57 = .ok (.goto 4, 3) := by decide +kernel
theorem dX8_firstFault_60 : decode cX8_firstFault 60 = .ok (.iconst 0, 1) := by decide +kernel
theorem dX8_firstFault_61 : decode cX8_firstFault 61 = .ok (.istore_n 1, 1) := by decide +kernel
theorem dX8_firstFault_62 : decode cX8_firstFault 62 = .ok (.iload_n 1, 1) := by decide +kernel
theorem dX8_firstFault_63 : decode cX8_firstFault 63 = .ok (.ifCond .eq 8, 3) := by decide +kernel
theorem dX8_firstFault_66 : decode cX8_firstFault 66 = .ok (.bipush (-9), 2) := by decide +kernel
theorem dX8_firstFault_68 : decode cX8_firstFault 68 = .ok (.goto 7, 3) := by decide +kernel
theorem dX8_firstFault_71 : decode cX8_firstFault 71 = .ok (.aload_n 0, 1) := by decide +kernel
theorem dX8_firstFault_72 : decode cX8_firstFault 72 = .ok (.getfield 15, 3) := by decide +kernel
theorem dX8_firstFault_75 : decode cX8_firstFault 75 = .ok (.ireturn, 1) := by decide +kernel
theorem dX8_mayStand_0 : decode cX8_mayStand 0 = .ok (.iload_n 0, 1) := by decide +kernel
theorem dX8_mayStand_1 : decode cX8_mayStand 1 = .ok (.ifCond .ne 15, 3) := by decide +kernel
theorem dX8_mayStand_4 : decode cX8_mayStand 4 = .ok (.iload_n 1, 1) := by decide +kernel
theorem dX8_mayStand_5 : decode cX8_mayStand 5 = .ok (.bipush 84, 2) := by decide +kernel
theorem dX8_mayStand_7 : decode cX8_mayStand 7 = .ok (.if_icmp .ne 7, 3) := by decide +kernel
theorem dX8_mayStand_10 : decode cX8_mayStand 10 = .ok (.iconst 1, 1) := by decide +kernel
theorem dX8_mayStand_11 : decode cX8_mayStand 11 = .ok (.goto 4, 3) := by decide +kernel
theorem dX8_mayStand_14 : decode cX8_mayStand 14 = .ok (.iconst 0, 1) := by decide +kernel
theorem dX8_mayStand_15 : decode cX8_mayStand 15 = .ok (.ireturn, 1) := by decide +kernel
theorem dX8_mayStand_16 : decode cX8_mayStand 16 = .ok (.iload_n 0, 1) := by decide +kernel
theorem dX8_mayStand_17 : decode cX8_mayStand 17 = .ok (.iconst 3, 1) := by decide +kernel
theorem dX8_mayStand_18 : decode cX8_mayStand 18 = .ok (.if_icmp .ge 19, 3) := by decide +kernel
theorem dX8_mayStand_21 : decode cX8_mayStand 21 = .ok (.iload_n 1, 1) := by decide +kernel
theorem dX8_mayStand_22 : decode cX8_mayStand 22 = .ok (.iload_n 0, 1) := by decide +kernel
theorem dX8_mayStand_23 : decode cX8_mayStand 23 = .ok (.iconst 1, 1) := by decide +kernel
theorem dX8_mayStand_24 : decode cX8_mayStand 24 = .ok (.if_icmp .ne 7, 3) := by decide +kernel
theorem dX8_mayStand_27 : decode cX8_mayStand 27 = .ok (.iconst 3, 1) := by decide +kernel
theorem dX8_mayStand_28 : decode cX8_mayStand 28 = .ok (.goto 5, 3) := by decide +kernel
theorem dX8_mayStand_31 : decode cX8_mayStand 31 = .ok (.bipush 9, 2) := by decide +kernel
theorem dX8_mayStand_33 : decode cX8_mayStand 33 = .ok (.invokestatic 23, 3) := by decide +kernel
theorem dX8_mayStand_36 : decode cX8_mayStand 36 = .ok (.ireturn, 1) := by decide +kernel
theorem dX8_mayStand_37 : decode cX8_mayStand 37 = .ok (.iload_n 0, 1) := by decide +kernel
theorem dX8_mayStand_38 : decode cX8_mayStand 38 = .ok (.iconst 3, 1) := by decide +kernel
theorem dX8_mayStand_39 : decode cX8_mayStand 39 = .ok (.isub, 1) := by decide +kernel
theorem dX8_mayStand_40 : decode cX8_mayStand 40 = .ok (.iconst 4, 1) := by decide +kernel
theorem dX8_mayStand_41 : decode cX8_mayStand 41 = .ok (.idiv, 1) := by decide +kernel
theorem dX8_mayStand_42 : decode cX8_mayStand 42 = .ok (.istore_n 2, 1) := by decide +kernel
theorem dX8_mayStand_43 : decode cX8_mayStand 43 = .ok (.iload_n 2, 1) := by decide +kernel
theorem dX8_mayStand_44 : decode cX8_mayStand 44 = .ok (.bipush 7, 2) := by decide +kernel
theorem dX8_mayStand_46 : decode cX8_mayStand 46 = .ok (.if_icmp .lt 5, 3) := by decide +kernel
theorem dX8_mayStand_49 : decode cX8_mayStand 49 = .ok (.iconst 0, 1) := by decide +kernel
theorem dX8_mayStand_50 : decode cX8_mayStand 50 = .ok (.ireturn, 1) := by decide +kernel
theorem dX8_mayStand_51 : decode cX8_mayStand 51 = .ok (.iload_n 0, 1) := by decide +kernel
theorem dX8_mayStand_52 : decode cX8_mayStand 52 = .ok (.iconst 3, 1) := by decide +kernel
theorem dX8_mayStand_53 : decode cX8_mayStand 53 = .ok (.isub, 1) := by decide +kernel
theorem dX8_mayStand_54 : decode cX8_mayStand 54 = .ok (.iconst 4, 1) := by decide +kernel
theorem dX8_mayStand_55 : decode cX8_mayStand 55 = .ok (.irem, 1) := by decide +kernel
theorem dX8_mayStand_56 : decode cX8_mayStand 56 = .ok (.tableswitch 58 0 2 #[28, 40, 52], 28) := by decide +kernel
theorem dX8_mayStand_84 : decode cX8_mayStand 84 = .ok (.iload_n 1, 1) := by decide +kernel
theorem dX8_mayStand_85 : decode cX8_mayStand 85 = .ok (.bipush 80, 2) := by decide +kernel
theorem dX8_mayStand_87 : decode cX8_mayStand 87 = .ok (.if_icmp .ne 7, 3) := by decide +kernel
theorem dX8_mayStand_90 : decode cX8_mayStand 90 = .ok (.iconst 1, 1) := by decide +kernel
theorem dX8_mayStand_91 : decode cX8_mayStand 91 = .ok (.goto 4, 3) := by decide +kernel
theorem dX8_mayStand_94 : decode cX8_mayStand 94 = .ok (.iconst 0, 1) := by decide +kernel
theorem dX8_mayStand_95 : decode cX8_mayStand 95 = .ok (.ireturn, 1) := by decide +kernel
theorem dX8_mayStand_96 : decode cX8_mayStand 96 = .ok (.iload_n 1, 1) := by decide +kernel
theorem dX8_mayStand_97 : decode cX8_mayStand 97 = .ok (.iconst 0, 1) := by decide +kernel
theorem dX8_mayStand_98 : decode cX8_mayStand 98 = .ok (.iload_n 2, 1) := by decide +kernel
theorem dX8_mayStand_99 : decode cX8_mayStand 99 = .ok (.iconst 1, 1) := by decide +kernel
theorem dX8_mayStand_100 : decode cX8_mayStand 100 = .ok (.isub, 1) := by decide +kernel
theorem dX8_mayStand_101 : decode cX8_mayStand 101 = .ok (.invokestatic 26, 3) := by decide +kernel
theorem dX8_mayStand_104 : decode cX8_mayStand 104 = .ok (.invokestatic 23, 3) := by decide +kernel
theorem dX8_mayStand_107 : decode cX8_mayStand 107 = .ok (.ireturn, 1) := by decide +kernel
theorem dX8_mayStand_108 : decode cX8_mayStand 108 = .ok (.iload_n 1, 1) := by decide +kernel
theorem dX8_mayStand_109 : decode cX8_mayStand 109 = .ok (.iconst 1, 1) := by decide +kernel
theorem dX8_mayStand_110 : decode cX8_mayStand 110 = .ok (.invokestatic 23, 3) := by decide +kernel
theorem dX8_mayStand_113 : decode cX8_mayStand 113 = .ok (.ireturn, 1) := by decide +kernel
theorem dX8_mayStand_114 : decode cX8_mayStand 114 = .ok (.iload_n 1, 1) := by decide +kernel
theorem dX8_mayStand_115 : decode cX8_mayStand 115 = .ok (.bipush 9, 2) := by decide +kernel
theorem dX8_mayStand_117 : decode cX8_mayStand 117 = .ok (.invokestatic 23, 3) := by decide +kernel
theorem dX8_mayStand_120 : decode cX8_mayStand 120 = .ok (.ireturn, 1) := by decide +kernel
theorem dX8_isFigure_0 : decode cX8_isFigure 0 = .ok (.iload_n 0, 1) := by decide +kernel
theorem dX8_isFigure_1 : decode cX8_isFigure 1 = .ok (.bipush 48, 2) := by decide +kernel
theorem dX8_isFigure_3 : decode cX8_isFigure 3 = .ok (.if_icmp .lt 15, 3) := by decide +kernel
theorem dX8_isFigure_6 : decode cX8_isFigure 6 = .ok (.iload_n 0, 1) := by decide +kernel
theorem dX8_isFigure_7 : decode cX8_isFigure 7 = .ok (.bipush 48, 2) := by decide +kernel
theorem dX8_isFigure_9 : decode cX8_isFigure 9 = .ok (.iload_n 1, 1) := by decide +kernel
theorem dX8_isFigure_10 : decode cX8_isFigure 10 = .ok (.iadd, 1) := by decide +kernel
theorem dX8_isFigure_11 : decode cX8_isFigure 11 = .ok (.if_icmp .gt 7, 3) := by decide +kernel
theorem dX8_isFigure_14 : decode cX8_isFigure 14 = .ok (.iconst 1, 1) := by decide +kernel
theorem dX8_isFigure_15 : decode cX8_isFigure 15 = .ok (.goto 4, 3) := by decide +kernel
theorem dX8_isFigure_18 : decode cX8_isFigure 18 = .ok (.iconst 0, 1) := by decide +kernel
theorem dX8_isFigure_19 : decode cX8_isFigure 19 = .ok (.ireturn, 1) := by decide +kernel
theorem dX8_figureAt_0 : decode cX8_figureAt 0 = .ok (.iload_n 1, 1) := by decide +kernel
theorem dX8_figureAt_1 : decode cX8_figureAt 1 = .ok (.ifCond .lt 21, 3) := by decide +kernel
theorem dX8_figureAt_4 : decode cX8_figureAt 4 = .ok (.iload_n 1, 1) := by decide +kernel
theorem dX8_figureAt_5 : decode cX8_figureAt 5 = .ok (.bipush 40, 2) := by decide +kernel
theorem dX8_figureAt_7 : decode cX8_figureAt 7 = .ok (.if_icmp .ge 15, 3) := by decide +kernel
theorem dX8_figureAt_10 : decode cX8_figureAt 10 = .ok (.aload_n 0, 1) := by decide +kernel
theorem dX8_figureAt_11 : decode cX8_figureAt 11 = .ok (.getfield 9, 3) := by decide +kernel
theorem dX8_figureAt_14 : decode cX8_figureAt 14 = .ok (.iload_n 1, 1) := by decide +kernel
theorem dX8_figureAt_15 : decode cX8_figureAt 15 = .ok (.iaload, 1) := by decide +kernel
theorem dX8_figureAt_16 : decode cX8_figureAt 16 = .ok (.bipush 48, 2) := by decide +kernel
theorem dX8_figureAt_18 : decode cX8_figureAt 18 = .ok (.isub, 1) := by decide +kernel
theorem dX8_figureAt_19 : decode cX8_figureAt 19 = .ok (.goto 4, 3) := by decide +kernel
theorem dX8_figureAt_22 : decode cX8_figureAt 22 = .ok (.iconst 0, 1) := by decide +kernel
theorem dX8_figureAt_23 : decode cX8_figureAt 23 = .ok (.ireturn, 1) := by decide +kernel
theorem dX8_makeAnew_0 : decode cX8_makeAnew 0 = .ok (.aload_n 1, 1) := by decide +kernel
theorem dX8_makeAnew_1 : decode cX8_makeAnew 1 = .ok (.invokevirtual 32, 3) := by decide +kernel
theorem dX8_makeAnew_4 : decode cX8_makeAnew 4 = .ok (.aload_n 1, 1) := by decide +kernel
theorem dX8_makeAnew_5 : decode cX8_makeAnew 5 = .ok (.aload_n 0, 1) := by decide +kernel
theorem dX8_makeAnew_6 : decode cX8_makeAnew 6 = .ok (.iconst 1, 1) := by decide +kernel
theorem dX8_makeAnew_7 : decode cX8_makeAnew 7 = .ok (.invokevirtual 37, 3) := by decide +kernel
theorem dX8_makeAnew_10 : decode cX8_makeAnew 10 = .ok (.putfield 41, 3) := by decide +kernel
theorem dX8_makeAnew_13 : decode cX8_makeAnew 13 = .ok (.aload_n 1, 1) := by decide +kernel
theorem dX8_makeAnew_14 : decode cX8_makeAnew 14 = .ok (.aload_n 0, 1) := by decide +kernel
theorem dX8_makeAnew_15 : decode cX8_makeAnew 15 = .ok (.iconst 2, 1) := by decide +kernel
theorem dX8_makeAnew_16 : decode cX8_makeAnew 16 = .ok (.invokevirtual 37, 3) := by decide +kernel
theorem dX8_makeAnew_19 : decode cX8_makeAnew 19 = .ok (.putfield 44, 3) := by decide +kernel
theorem dX8_makeAnew_22 : decode cX8_makeAnew 22 = .ok (.iconst 3, 1) := by decide +kernel
theorem dX8_makeAnew_23 : decode cX8_makeAnew 23 = .ok (.istore_n 2, 1) := by decide +kernel
theorem dX8_makeAnew_24 : decode cX8_makeAnew 24 = .ok (.iload_n 2, 1) := by decide +kernel
theorem dX8_makeAnew_25 : decode cX8_makeAnew 25 = .ok (.iconst 4, 1) := by decide +kernel
theorem dX8_makeAnew_26 : decode cX8_makeAnew 26 = .ok (.iadd, 1) := by decide +kernel
theorem dX8_makeAnew_27 : decode cX8_makeAnew 27 = .ok (.aload_n 0, 1) := by decide +kernel
theorem dX8_makeAnew_28 : decode cX8_makeAnew 28 = .ok (.getfield 15, 3) := by decide +kernel
theorem dX8_makeAnew_31 : decode cX8_makeAnew 31 = .ok (.if_icmp .gt 65, 3) := by decide +kernel
theorem dX8_makeAnew_34 : decode cX8_makeAnew 34 = .ok (.iload_n 2, 1) := by decide +kernel
theorem dX8_makeAnew_35 : decode cX8_makeAnew 35 = .ok (.iconst 4, 1) := by decide +kernel
theorem dX8_makeAnew_36 : decode cX8_makeAnew 36 = .ok (.iadd, 1) := by decide +kernel
theorem dX8_makeAnew_37 : decode cX8_makeAnew 37 = .ok (.bipush 40, 2) := by decide +kernel
theorem dX8_makeAnew_39 : decode cX8_makeAnew 39 = .ok (.if_icmp .gt 57, 3) := by decide +kernel
theorem dX8_makeAnew_42 : decode cX8_makeAnew 42 = .ok (.aload_n 1, 1) := by decide +kernel
theorem dX8_makeAnew_43 : decode cX8_makeAnew 43 = .ok (.getfield 47, 3) := by decide +kernel
theorem dX8_makeAnew_46 : decode cX8_makeAnew 46 = .ok (.ifCond .ne 8, 3) := by decide +kernel
theorem dX8_makeAnew_49 : decode cX8_makeAnew 49 = .ok (.bipush (-9), 2) := by decide +kernel
theorem dX8_makeAnew_51 : decode cX8_makeAnew 51 = .ok (.goto 10, 3) := by decide +kernel
theorem dX8_makeAnew_54 : decode cX8_makeAnew 54 = .ok (.aload_n 0, 1) := by decide +kernel
theorem dX8_makeAnew_55 : decode cX8_makeAnew 55 = .ok (.iload_n 2, 1) := by decide +kernel
theorem dX8_makeAnew_56 : decode cX8_makeAnew 56 = .ok (.iconst 1, 1) := by decide +kernel
theorem dX8_makeAnew_57 : decode cX8_makeAnew 57 = .ok (.iadd, 1) := by decide +kernel
theorem dX8_makeAnew_58 : decode cX8_makeAnew 58 = .ok (.invokevirtual 37, 3) := by decide +kernel
theorem dX8_makeAnew_61 : decode cX8_makeAnew 61 = .ok (.istore_n 3, 1) := by decide +kernel
theorem dX8_makeAnew_62 : decode cX8_makeAnew 62 = .ok (.aload_n 1, 1) := by decide +kernel
theorem dX8_makeAnew_63 : decode cX8_makeAnew 63 = .ok (.iload_n 3, 1) := by decide +kernel
theorem dX8_makeAnew_64 : decode cX8_makeAnew 64 = .ok (.aload_n 0, 1) := by decide +kernel
theorem dX8_makeAnew_65 : decode cX8_makeAnew 65 = .ok (.iload_n 2, 1) := by decide +kernel
theorem dX8_makeAnew_66 : decode cX8_makeAnew 66 = .ok (.iconst 2, 1) := by decide +kernel
theorem dX8_makeAnew_67 : decode cX8_makeAnew 67 = .ok (.iadd, 1) := by decide +kernel
theorem dX8_makeAnew_68 : decode cX8_makeAnew 68 = .ok (.invokevirtual 37, 3) := by decide +kernel
theorem dX8_makeAnew_71 : decode cX8_makeAnew 71 = .ok (.iconst 1, 1) := by decide +kernel
theorem dX8_makeAnew_72 : decode cX8_makeAnew 72 = .ok (.if_icmp .ne 7, 3) := by decide +kernel
theorem dX8_makeAnew_75 : decode cX8_makeAnew 75 = .ok (.iconst 1, 1) := by decide +kernel
theorem dX8_makeAnew_76 : decode cX8_makeAnew 76 = .ok (.goto 4, 3) := by decide +kernel
theorem dX8_makeAnew_79 : decode cX8_makeAnew 79 = .ok (.iconst 0, 1) := by decide +kernel
theorem dX8_makeAnew_80 : decode cX8_makeAnew 80 = .ok (.aload_n 0, 1) := by decide +kernel
theorem dX8_makeAnew_81 : decode cX8_makeAnew 81 = .ok (.iload_n 2, 1) := by decide +kernel
theorem dX8_makeAnew_82 : decode cX8_makeAnew 82 = .ok (.iconst 3, 1) := by decide +kernel
theorem dX8_makeAnew_83 : decode cX8_makeAnew 83 = .ok (.iadd, 1) := by decide +kernel
theorem dX8_makeAnew_84 : decode cX8_makeAnew 84 = .ok (.invokevirtual 37, 3) := by decide +kernel
theorem dX8_makeAnew_87 : decode cX8_makeAnew 87 = .ok (.invokevirtual 50, 3) := by decide +kernel
theorem dX8_makeAnew_90 : decode cX8_makeAnew 90 = .ok (.iinc 2 4, 3) := by decide +kernel
theorem dX8_makeAnew_93 : decode cX8_makeAnew 93 = .ok (.goto (-69), 3) := by decide +kernel
theorem dX8_makeAnew_96 : decode cX8_makeAnew 96 = .ok (.aload_n 1, 1) := by decide +kernel
theorem dX8_makeAnew_97 : decode cX8_makeAnew 97 = .ok (.aload_n 1, 1) := by decide +kernel
theorem dX8_makeAnew_98 : decode cX8_makeAnew 98 = .ok (.getfield 47, 3) := by decide +kernel
theorem dX8_makeAnew_101 : decode cX8_makeAnew 101 = .ok (.ifCond .ne 8, 3) := by decide +kernel
theorem dX8_makeAnew_104 : decode cX8_makeAnew 104 = .ok (.bipush (-9), 2) := by decide +kernel
theorem dX8_makeAnew_106 : decode cX8_makeAnew 106 = .ok (.goto 4, 3) := by decide +kernel
theorem dX8_makeAnew_109 : decode cX8_makeAnew 109 = .ok (.iconst 0, 1) := by decide +kernel
theorem dX8_makeAnew_110 : decode cX8_makeAnew 110 = .ok (.putfield 54, 3) := by decide +kernel
theorem dX8_makeAnew_113 : decode cX8_makeAnew 113 = .ok (.return_, 1) := by decide +kernel
theorem dX9_init_0 : decode cX9_init 0 = .ok (.aload_n 0, 1) := by decide +kernel
theorem dX9_init_1 : decode cX9_init 1 = .ok (.invokespecial 1, 3) := by decide +kernel
theorem dX9_init_4 : decode cX9_init 4 = .ok (.aload_n 0, 1) := by decide +kernel
theorem dX9_init_5 : decode cX9_init 5 = .ok (.new 7, 3) := by decide +kernel
theorem dX9_init_8 : decode cX9_init 8 = .ok (.dup, 1) := by decide +kernel
theorem dX9_init_9 : decode cX9_init 9 = .ok (.invokespecial 9, 3) := by decide +kernel
theorem dX9_init_12 : decode cX9_init 12 = .ok (.putfield 10, 3) := by decide +kernel
theorem dX9_init_15 : decode cX9_init 15 = .ok (.aload_n 0, 1) := by decide +kernel
theorem dX9_init_16 : decode cX9_init 16 = .ok (.new 16, 3) := by decide +kernel
theorem dX9_init_19 : decode cX9_init 19 = .ok (.dup, 1) := by decide +kernel
theorem dX9_init_20 : decode cX9_init 20 = .ok (.invokespecial 18, 3) := by decide +kernel
theorem dX9_init_23 : decode cX9_init 23 = .ok (.putfield 19, 3) := by decide +kernel
theorem dX9_init_26 : decode cX9_init 26 = .ok (.aload_n 0, 1) := by decide +kernel
theorem dX9_init_27 : decode cX9_init 27 = .ok (.new 16, 3) := by decide +kernel
theorem dX9_init_30 : decode cX9_init 30 = .ok (.dup, 1) := by decide +kernel
theorem dX9_init_31 : decode cX9_init 31 = .ok (.invokespecial 18, 3) := by decide +kernel
theorem dX9_init_34 : decode cX9_init 34 = .ok (.putfield 23, 3) := by decide +kernel
theorem dX9_init_37 : decode cX9_init 37 = .ok (.aload_n 0, 1) := by decide +kernel
theorem dX9_init_38 : decode cX9_init 38 = .ok (.new 26, 3) := by decide +kernel
theorem dX9_init_41 : decode cX9_init 41 = .ok (.dup, 1) := by decide +kernel
theorem dX9_init_42 : decode cX9_init 42 = .ok (.invokespecial 28, 3) := by decide +kernel
theorem dX9_init_45 : decode cX9_init 45 = .ok (.putfield 29, 3) := by decide +kernel
theorem dX9_init_48 : decode cX9_init 48 = .ok (.aload_n 0, 1) := by decide +kernel
theorem dX9_init_49 : decode cX9_init 49 = .ok (.iconst 2, 1) := by decide +kernel
theorem dX9_init_50 : decode cX9_init 50 = .ok (.anewarray 16, 3) := by decide +kernel
theorem dX9_init_53 : decode cX9_init 53 = .ok (.putfield 33, 3) := by decide +kernel
theorem dX9_init_56 : decode cX9_init 56 = .ok (.aload_n 0, 1) := by decide +kernel
theorem dX9_init_57 : decode cX9_init 57 = .ok (.iconst 2, 1) := by decide +kernel
theorem dX9_init_58 : decode cX9_init 58 = .ok (.newarray .boolean, 2) := by decide +kernel
theorem dX9_init_60 : decode cX9_init 60 = .ok (.putfield 37, 3) := by decide +kernel
theorem dX9_init_63 : decode cX9_init 63 = .ok (.aload_n 0, 1) := by decide +kernel
theorem dX9_init_64 : decode cX9_init 64 = .ok (.new 41, 3) := by decide +kernel
theorem dX9_init_67 : decode cX9_init 67 = .ok (.dup, 1) := by decide +kernel
theorem dX9_init_68 : decode cX9_init 68 = .ok (.invokespecial 43, 3) := by decide +kernel
theorem dX9_init_71 : decode cX9_init 71 = .ok (.putfield 44, 3) := by decide +kernel
theorem dX9_init_74 : decode cX9_init 74 = .ok (.aload_n 0, 1) := by decide +kernel
theorem dX9_init_75 : decode cX9_init 75 = .ok (.new 48, 3) := by decide +kernel
theorem dX9_init_78 : decode cX9_init 78 = .ok (.dup, 1) := by decide +kernel
theorem dX9_init_79 : decode cX9_init 79 = .ok (.invokespecial 50, 3) := by decide +kernel
theorem dX9_init_82 : decode cX9_init 82 = .ok (.putfield 51, 3) := by decide +kernel
theorem dX9_init_85 : decode cX9_init 85 = .ok (.aload_n 0, 1) := by decide +kernel
theorem dX9_init_86 : decode cX9_init 86 = .ok (.new 55, 3) := by decide +kernel
theorem dX9_init_89 : decode cX9_init 89 = .ok (.dup, 1) := by decide +kernel
theorem dX9_init_90 : decode cX9_init 90 = .ok (.invokespecial 57, 3) := by decide +kernel
theorem dX9_init_93 : decode cX9_init 93 = .ok (.putfield 58, 3) := by decide +kernel
theorem dX9_init_96 : decode cX9_init 96 = .ok (.aload_n 0, 1) := by decide +kernel
theorem dX9_init_97 : decode cX9_init 97 = .ok (.new 62, 3) := by decide +kernel
theorem dX9_init_100 : decode cX9_init 100 = .ok (.dup, 1) := by decide +kernel
theorem dX9_init_101 : decode cX9_init 101 = .ok (.invokespecial 64, 3) := by decide +kernel
theorem dX9_init_104 : decode cX9_init 104 = .ok (.putfield 65, 3) := by decide +kernel
theorem dX9_init_107 : decode cX9_init 107 = .ok (.iconst 0, 1) := by decide +kernel
theorem dX9_init_108 : decode cX9_init 108 = .ok (.istore_n 1, 1) := by decide +kernel
theorem dX9_init_109 : decode cX9_init 109 = .ok (.iload_n 1, 1) := by decide +kernel
theorem dX9_init_110 : decode cX9_init 110 = .ok (.iconst 2, 1) := by decide +kernel
theorem dX9_init_111 : decode cX9_init 111 = .ok (.if_icmp .ge 22, 3) := by decide +kernel
theorem dX9_init_114 : decode cX9_init 114 = .ok (.aload_n 0, 1) := by decide +kernel
theorem dX9_init_115 : decode cX9_init 115 = .ok (.getfield 33, 3) := by decide +kernel
theorem dX9_init_118 : decode cX9_init 118 = .ok (.iload_n 1, 1) := by decide +kernel
theorem dX9_init_119 : decode cX9_init 119 = .ok (.new 16, 3) := by decide +kernel
theorem dX9_init_122 : decode cX9_init 122 = .ok (.dup, 1) := by decide +kernel
theorem dX9_init_123 : decode cX9_init 123 = .ok (.invokespecial 18, 3) := by decide +kernel
theorem dX9_init_126 : decode cX9_init 126 = .ok (.aastore, 1) := by decide +kernel
theorem dX9_init_127 : decode cX9_init 127 = .ok (.iinc 1 1, 3) := by decide +kernel
theorem dX9_init_130 : decode cX9_init 130 = .ok (.goto (-21), 3) := by decide +kernel
theorem dX9_init_133 : decode cX9_init 133 = .ok (.return_, 1) := by decide +kernel
theorem dX9_write_0 : decode cX9_write 0 = .ok (.iload_n 1, 1) := by decide +kernel
theorem dX9_write_1 : decode cX9_write 1 = .ok (.ifCond .lt 10, 3) := by decide +kernel
theorem dX9_write_4 : decode cX9_write 4 = .ok (.iload_n 1, 1) := by decide +kernel
theorem dX9_write_5 : decode cX9_write 5 = .ok (.sipush 255, 3) := by decide +kernel
theorem dX9_write_8 : decode cX9_write 8 = .ok (.if_icmp .le 6, 3) := by decide +kernel
theorem dX9_write_11 : decode cX9_write 11 = .ok (.bipush (-2), 2) := by decide +kernel
theorem dX9_write_13 : decode cX9_write 13 = .ok (.ireturn, 1) := by decide +kernel
theorem dX9_write_14 : decode cX9_write 14 = .ok (.aload_n 0, 1) := by decide +kernel
theorem dX9_write_15 : decode cX9_write 15 = .ok (.getfield 10, 3) := by decide +kernel
theorem dX9_write_18 : decode cX9_write 18 = .ok (.iload_n 1, 1) := by decide +kernel
theorem dX9_write_19 : decode cX9_write 19 = .ok (.invokevirtual 69, 3) := by decide +kernel
theorem dX9_write_22 : decode cX9_write 22 = .ok (.ifCond .eq 13, 3) := by decide +kernel
theorem dX9_write_25 : decode cX9_write 25 = .ok (.aload_n 0, 1) := by decide +kernel
theorem dX9_write_26 : decode cX9_write 26 = .ok (.getfield 10, 3) := by decide +kernel
theorem dX9_write_29 : decode cX9_write 29 = .ok (.getfield 73, 3) := by decide +kernel
theorem dX9_write_32 : decode cX9_write 32 = .ok (.goto 5, 3) := by decide +kernel
theorem dX9_write_35 : decode cX9_write 35 = .ok (.bipush (-4), 2) := by decide +kernel
theorem dX9_write_37 : decode cX9_write 37 = .ok (.ireturn, 1) := by decide +kernel
theorem dX9_wipe_0 : decode cX9_wipe 0 = .ok (.aload_n 0, 1) := by decide +kernel
theorem dX9_wipe_1 : decode cX9_wipe 1 = .ok (.getfield 10, 3) := by decide +kernel
theorem dX9_wipe_4 : decode cX9_wipe 4 = .ok (.getfield 73, 3) := by decide +kernel
theorem dX9_wipe_7 : decode cX9_wipe 7 = .ok (.istore_n 1, 1) := by decide +kernel
theorem dX9_wipe_8 : decode cX9_wipe 8 = .ok (.aload_n 0, 1) := by decide +kernel
theorem dX9_wipe_9 : decode cX9_wipe 9 = .ok (.getfield 10, 3) := by decide +kernel
theorem dX9_wipe_12 : decode cX9_wipe 12 = .ok (.iconst 0, 1) := by decide +kernel
theorem dX9_wipe_13 : decode cX9_wipe 13 = .ok (.putfield 73, 3) := by decide +kernel
theorem dX9_wipe_16 : decode cX9_wipe 16 = .ok (.iload_n 1, 1) := by decide +kernel
theorem dX9_wipe_17 : decode cX9_wipe 17 = .ok (.ireturn, 1) := by decide +kernel
theorem dX9_fault_0 : decode cX9_fault 0 = .ok (.aload_n 0, 1) := by decide +kernel
theorem dX9_fault_1 : decode cX9_fault 1 = .ok (.getfield 10, 3) := by decide +kernel
theorem dX9_fault_4 : decode cX9_fault 4 = .ok (.invokevirtual 77, 3) := by decide +kernel
theorem dX9_fault_7 : decode cX9_fault 7 = .ok (.ireturn, 1) := by decide +kernel
theorem dX9_land_0 : decode cX9_land 0 = .ok (.aload_n 0, 1) := by decide +kernel
theorem dX9_land_1 : decode cX9_land 1 = .ok (.getfield 10, 3) := by decide +kernel
theorem dX9_land_4 : decode cX9_land 4 = .ok (.invokevirtual 77, 3) := by decide +kernel
theorem dX9_land_7 : decode cX9_land 7 = .ok (.bipush (-9), 2) := by decide +kernel
theorem dX9_land_9 : decode cX9_land 9 = .ok (.if_icmp .eq 6, 3) := by decide +kernel
theorem dX9_land_12 : decode cX9_land 12 = .ok (.bipush (-3), 2) := by decide +kernel
theorem dX9_land_14 : decode cX9_land 14 = .ok (.ireturn, 1) := by decide +kernel
theorem dX9_land_15 : decode cX9_land 15 = .ok (.aload_n 0, 1) := by decide +kernel
theorem dX9_land_16 : decode cX9_land 16 = .ok (.getfield 10, 3) := by decide +kernel
theorem dX9_land_19 : decode cX9_land 19 = .ok (.aload_n 0, 1) := by decide +kernel
theorem dX9_land_20 : decode cX9_land 20 = .ok (.getfield 19, 3) := by decide +kernel
theorem dX9_land_23 : decode cX9_land 23 = .ok (.invokevirtual 81, 3) := by decide +kernel
theorem dX9_land_26 : decode cX9_land 26 = .ok (.aload_n 0, 1) := by decide +kernel
theorem dX9_land_27 : decode cX9_land 27 = .ok (.getfield 29, 3) := by decide +kernel
theorem dX9_land_30 : decode cX9_land 30 = .ok (.invokevirtual 85, 3) := by decide +kernel
theorem dX9_land_33 : decode cX9_land 33 = .ok (.iconst 0, 1) := by decide +kernel
theorem dX9_land_34 : decode cX9_land 34 = .ok (.istore_n 1, 1) := by decide +kernel
theorem dX9_land_35 : decode cX9_land 35 = .ok (.iload_n 1, 1) := by decide +kernel
theorem dX9_land_36 : decode cX9_land 36 = .ok (.iconst 2, 1) := by decide +kernel
theorem dX9_land_37 : decode cX9_land 37 = .ok (.if_icmp .ge 16, 3) := by decide +kernel
theorem dX9_land_40 : decode cX9_land 40 = .ok (.aload_n 0, 1) := by decide +kernel
theorem dX9_land_41 : decode cX9_land 41 = .ok (.getfield 37, 3) := by decide +kernel
theorem dX9_land_44 : decode cX9_land 44 = .ok (.iload_n 1, 1) := by decide +kernel
theorem dX9_land_45 : decode cX9_land 45 = .ok (.iconst 0, 1) := by decide +kernel
theorem dX9_land_46 : decode cX9_land 46 = .ok (.bastore, 1) := by decide +kernel
theorem dX9_land_47 : decode cX9_land 47 = .ok (.iinc 1 1, 3) := by decide +kernel
theorem dX9_land_50 : decode cX9_land 50 = .ok (.goto (-15), 3) := by decide +kernel
theorem dX9_land_53 : decode cX9_land 53 = .ok (.aload_n 0, 1) := by decide +kernel
theorem dX9_land_54 : decode cX9_land 54 = .ok (.getfield 19, 3) := by decide +kernel
theorem dX9_land_57 : decode cX9_land 57 = .ok (.getfield 88, 3) := by decide +kernel
theorem dX9_land_60 : decode cX9_land 60 = .ok (.ireturn, 1) := by decide +kernel
theorem dX9_about_0 : decode cX9_about 0 = .ok (.iload_n 1, 1) := by decide +kernel
theorem dX9_about_1 : decode cX9_about 1 = .ok (.tableswitch 123 0 8 #[51, 59, 67, 75, 83, 91, 99, 107, 115], 51) := by decide +kernel
theorem dX9_about_52 : decode cX9_about 52 = .ok (.aload_n 0, 1) := by decide +kernel
theorem dX9_about_53 : decode cX9_about 53 = .ok (.getfield 19, 3) := by decide +kernel
theorem dX9_about_56 : decode cX9_about 56 = .ok (.getfield 88, 3) := by decide +kernel
theorem dX9_about_59 : decode cX9_about 59 = .ok (.ireturn, 1) := by decide +kernel
theorem dX9_about_60 : decode cX9_about 60 = .ok (.aload_n 0, 1) := by decide +kernel
theorem dX9_about_61 : decode cX9_about 61 = .ok (.getfield 19, 3) := by decide +kernel
theorem dX9_about_64 : decode cX9_about 64 = .ok (.getfield 91, 3) := by decide +kernel
theorem dX9_about_67 : decode cX9_about 67 = .ok (.ireturn, 1) := by decide +kernel
theorem dX9_about_68 : decode cX9_about 68 = .ok (.aload_n 0, 1) := by decide +kernel
theorem dX9_about_69 : decode cX9_about 69 = .ok (.getfield 19, 3) := by decide +kernel
theorem dX9_about_72 : decode cX9_about 72 = .ok (.getfield 94, 3) := by decide +kernel
theorem dX9_about_75 : decode cX9_about 75 = .ok (.ireturn, 1) := by decide +kernel
theorem dX9_about_76 : decode cX9_about 76 = .ok (.aload_n 0, 1) := by decide +kernel
theorem dX9_about_77 : decode cX9_about 77 = .ok (.getfield 19, 3) := by decide +kernel
theorem dX9_about_80 : decode cX9_about 80 = .ok (.getfield 97, 3) := by decide +kernel
theorem dX9_about_83 : decode cX9_about 83 = .ok (.ireturn, 1) := by decide +kernel
theorem dX9_about_84 : decode cX9_about 84 = .ok (.aload_n 0, 1) := by decide +kernel
theorem dX9_about_85 : decode cX9_about 85 = .ok (.getfield 19, 3) := by decide +kernel
theorem dX9_about_88 : decode cX9_about 88 = .ok (.getfield 100, 3) := by decide +kernel
theorem dX9_about_91 : decode cX9_about 91 = .ok (.ireturn, 1) := by decide +kernel
theorem dX9_about_92 : decode cX9_about 92 = .ok (.aload_n 0, 1) := by decide +kernel
theorem dX9_about_93 : decode cX9_about 93 = .ok (.getfield 19, 3) := by decide +kernel
theorem dX9_about_96 : decode cX9_about 96 = .ok (.getfield 103, 3) := by decide +kernel
theorem dX9_about_99 : decode cX9_about 99 = .ok (.ireturn, 1) := by decide +kernel
theorem dX9_about_100 : decode cX9_about 100 = .ok (.aload_n 0, 1) := by decide +kernel
theorem dX9_about_101 : decode cX9_about 101 = .ok (.getfield 19, 3) := by decide +kernel
theorem dX9_about_104 : decode cX9_about 104 = .ok (.getfield 106, 3) := by decide +kernel
theorem dX9_about_107 : decode cX9_about 107 = .ok (.ireturn, 1) := by decide +kernel
theorem dX9_about_108 : decode cX9_about 108 = .ok (.aload_n 0, 1) := by decide +kernel
theorem dX9_about_109 : decode cX9_about 109 = .ok (.getfield 29, 3) := by decide +kernel
theorem dX9_about_112 : decode cX9_about 112 = .ok (.getfield 109, 3) := by decide +kernel
theorem dX9_about_115 : decode cX9_about 115 = .ok (.ireturn, 1) := by decide +kernel
theorem dX9_about_116 : decode cX9_about 116 = .ok (.aload_n 0, 1) := by decide +kernel
theorem dX9_about_117 : decode cX9_about 117 = .ok (.getfield 10, 3) := by decide +kernel
theorem dX9_about_120 : decode cX9_about 120 = .ok (.getfield 73, 3) := by decide +kernel
theorem dX9_about_123 : decode cX9_about 123 = .ok (.ireturn, 1) := by decide +kernel
theorem dX9_about_124 : decode cX9_about 124 = .ok (.bipush (-2), 2) := by decide +kernel
theorem dX9_about_126 : decode cX9_about 126 = .ok (.ireturn, 1) := by decide +kernel
theorem dX9_person_0 : decode cX9_person 0 = .ok (.aload_n 0, 1) := by decide +kernel
theorem dX9_person_1 : decode cX9_person 1 = .ok (.getfield 19, 3) := by decide +kernel
theorem dX9_person_4 : decode cX9_person 4 = .ok (.iload_n 1, 1) := by decide +kernel
theorem dX9_person_5 : decode cX9_person 5 = .ok (.invokevirtual 112, 3) := by decide +kernel
theorem dX9_person_8 : decode cX9_person 8 = .ok (.ifCond .ne 5, 3) := by decide +kernel
theorem dX9_person_11 : decode cX9_person 11 = .ok (.iconst (-1), 1) := by decide +kernel
theorem dX9_person_12 : decode cX9_person 12 = .ok (.ireturn, 1) := by decide +kernel
theorem dX9_person_13 : decode cX9_person 13 = .ok (.iload_n 2, 1) := by decide +kernel
theorem dX9_person_14 : decode cX9_person 14 = .ok (.tableswitch 95 0 4 #[34, 43, 60, 69, 86], 34) := by decide +kernel
theorem dX9_person_48 : decode cX9_person 48 = .ok (.aload_n 0, 1) := by decide +kernel
theorem dX9_person_49 : decode cX9_person 49 = .ok (.getfield 19, 3) := by decide +kernel
theorem dX9_person_52 : decode cX9_person 52 = .ok (.iload_n 1, 1) := by decide +kernel
theorem dX9_person_53 : decode cX9_person 53 = .ok (.invokevirtual 115, 3) := by decide +kernel
theorem dX9_person_56 : decode cX9_person 56 = .ok (.ireturn, 1) := by decide +kernel
theorem dX9_person_57 : decode cX9_person 57 = .ok (.aload_n 0, 1) := by decide +kernel
theorem dX9_person_58 : decode cX9_person 58 = .ok (.getfield 19, 3) := by decide +kernel
theorem dX9_person_61 : decode cX9_person 61 = .ok (.iload_n 1, 1) := by decide +kernel
theorem dX9_person_62 : decode cX9_person 62 = .ok (.invokevirtual 119, 3) := by decide +kernel
theorem dX9_person_65 : decode cX9_person 65 = .ok (.ifCond .eq 7, 3) := by decide +kernel
theorem dX9_person_68 : decode cX9_person 68 = .ok (.iconst 1, 1) := by decide +kernel
theorem dX9_person_69 : decode cX9_person 69 = .ok (.goto 4, 3) := by decide +kernel
theorem dX9_person_72 : decode cX9_person 72 = .ok (.iconst 0, 1) := by decide +kernel
theorem dX9_person_73 : decode cX9_person 73 = .ok (.ireturn, 1) := by decide +kernel
theorem dX9_person_74 : decode cX9_person 74 = .ok (.aload_n 0, 1) := by decide +kernel
theorem dX9_person_75 : decode cX9_person 75 = .ok (.getfield 19, 3) := by decide +kernel
theorem dX9_person_78 : decode cX9_person 78 = .ok (.iload_n 1, 1) := by decide +kernel
theorem dX9_person_79 : decode cX9_person 79 = .ok (.invokevirtual 122, 3) := by decide +kernel
theorem dX9_person_82 : decode cX9_person 82 = .ok (.ireturn, 1) := by decide +kernel
theorem dX9_person_83 : decode cX9_person 83 = .ok (.aload_n 0, 1) := by decide +kernel
theorem dX9_person_84 : decode cX9_person 84 = .ok (.getfield 19, 3) := by decide +kernel
theorem dX9_person_87 : decode cX9_person 87 = .ok (.iload_n 1, 1) := by decide +kernel
theorem dX9_person_88 : decode cX9_person 88 = .ok (.invokevirtual 125, 3) := by decide +kernel
theorem dX9_person_91 : decode cX9_person 91 = .ok (.ifCond .eq 7, 3) := by decide +kernel
theorem dX9_person_94 : decode cX9_person 94 = .ok (.iconst 1, 1) := by decide +kernel
theorem dX9_person_95 : decode cX9_person 95 = .ok (.goto 4, 3) := by decide +kernel
theorem dX9_person_98 : decode cX9_person 98 = .ok (.iconst 0, 1) := by decide +kernel
theorem dX9_person_99 : decode cX9_person 99 = .ok (.ireturn, 1) := by decide +kernel
theorem dX9_person_100 : decode cX9_person 100 = .ok (.aload_n 0, 1) := by decide +kernel
theorem dX9_person_101 : decode cX9_person 101 = .ok (.getfield 19, 3) := by decide +kernel
theorem dX9_person_104 : decode cX9_person 104 = .ok (.iload_n 1, 1) := by decide +kernel
theorem dX9_person_105 : decode cX9_person 105 = .ok (.invokevirtual 128, 3) := by decide +kernel
theorem dX9_person_108 : decode cX9_person 108 = .ok (.ireturn, 1) := by decide +kernel
theorem dX9_person_109 : decode cX9_person 109 = .ok (.bipush (-2), 2) := by decide +kernel
theorem dX9_person_111 : decode cX9_person 111 = .ok (.ireturn, 1) := by decide +kernel
theorem dX9_die_0 : decode cX9_die 0 = .ok (.aload_n 0, 1) := by decide +kernel
theorem dX9_die_1 : decode cX9_die 1 = .ok (.getfield 19, 3) := by decide +kernel
theorem dX9_die_4 : decode cX9_die 4 = .ok (.iload_n 1, 1) := by decide +kernel
theorem dX9_die_5 : decode cX9_die 5 = .ok (.invokevirtual 112, 3) := by decide +kernel
theorem dX9_die_8 : decode cX9_die 8 = .ok (.ifCond .ne 5, 3) := by decide +kernel
theorem dX9_die_11 : decode cX9_die 11 = .ok (.iconst (-1), 1) := by decide +kernel
theorem dX9_die_12 : decode cX9_die 12 = .ok (.ireturn, 1) := by decide +kernel
theorem dX9_die_13 : decode cX9_die 13 = .ok (.aload_n 0, 1) := by decide +kernel
theorem dX9_die_14 : decode cX9_die 14 = .ok (.getfield 19, 3) := by decide +kernel
theorem dX9_die_17 : decode cX9_die 17 = .ok (.iload_n 1, 1) := by decide +kernel
theorem dX9_die_18 : decode cX9_die 18 = .ok (.invokevirtual 125, 3) := by decide +kernel
theorem dX9_die_21 : decode cX9_die 21 = .ok (.ifCond .ne 6, 3) := by decide +kernel
theorem dX9_die_24 : decode cX9_die 24 = .ok (.bipush (-3), 2) := by decide +kernel
theorem dX9_die_26 : decode cX9_die 26 = .ok (.ireturn, 1) := by decide +kernel
theorem dX9_die_27 : decode cX9_die 27 = .ok (.aload_n 0, 1) := by decide +kernel
theorem dX9_die_28 : decode cX9_die 28 = .ok (.getfield 29, 3) := by decide +kernel
theorem dX9_die_31 : decode cX9_die 31 = .ok (.aload_n 0, 1) := by decide +kernel
theorem dX9_die_32 : decode cX9_die 32 = .ok (.getfield 19, 3) := by decide +kernel
theorem dX9_die_35 : decode cX9_die 35 = .ok (.invokevirtual 131, 3) := by decide +kernel
theorem dX9_die_38 : decode cX9_die 38 = .ok (.aload_n 0, 1) := by decide +kernel
theorem dX9_die_39 : decode cX9_die 39 = .ok (.getfield 19, 3) := by decide +kernel
theorem dX9_die_42 : decode cX9_die 42 = .ok (.iload_n 1, 1) := by decide +kernel
theorem dX9_die_43 : decode cX9_die 43 = .ok (.aload_n 0, 1) := by decide +kernel
theorem dX9_die_44 : decode cX9_die 44 = .ok (.getfield 44, 3) := by decide +kernel
theorem dX9_die_47 : decode cX9_die 47 = .ok (.invokevirtual 134, 3) := by decide +kernel
theorem dX9_die_50 : decode cX9_die 50 = .ok (.aload_n 0, 1) := by decide +kernel
theorem dX9_die_51 : decode cX9_die 51 = .ok (.getfield 19, 3) := by decide +kernel
theorem dX9_die_54 : decode cX9_die 54 = .ok (.getfield 94, 3) := by decide +kernel
theorem dX9_die_57 : decode cX9_die 57 = .ok (.ireturn, 1) := by decide +kernel
theorem dX9_bear_0 : decode cX9_bear 0 = .ok (.aload_n 0, 1) := by decide +kernel
theorem dX9_bear_1 : decode cX9_bear 1 = .ok (.getfield 19, 3) := by decide +kernel
theorem dX9_bear_4 : decode cX9_bear 4 = .ok (.iload_n 1, 1) := by decide +kernel
theorem dX9_bear_5 : decode cX9_bear 5 = .ok (.invokevirtual 112, 3) := by decide +kernel
theorem dX9_bear_8 : decode cX9_bear 8 = .ok (.ifCond .ne 5, 3) := by decide +kernel
theorem dX9_bear_11 : decode cX9_bear 11 = .ok (.iconst (-1), 1) := by decide +kernel
theorem dX9_bear_12 : decode cX9_bear 12 = .ok (.ireturn, 1) := by decide +kernel
theorem dX9_bear_13 : decode cX9_bear 13 = .ok (.iload_n 2, 1) := by decide +kernel
theorem dX9_bear_14 : decode cX9_bear 14 = .ok (.ifCond .eq 11, 3) := by decide +kernel
theorem dX9_bear_17 : decode cX9_bear 17 = .ok (.iload_n 2, 1) := by decide +kernel
theorem dX9_bear_18 : decode cX9_bear 18 = .ok (.iconst 1, 1) := by decide +kernel
theorem dX9_bear_19 : decode cX9_bear 19 = .ok (.if_icmp .eq 6, 3) := by decide +kernel
theorem dX9_bear_22 : decode cX9_bear 22 = .ok (.bipush (-2), 2) := by decide +kernel
theorem dX9_bear_24 : decode cX9_bear 24 = .ok (.ireturn, 1) := by decide +kernel
theorem dX9_bear_25 : decode cX9_bear 25 = .ok (.aload_n 0, 1) := by decide +kernel
theorem dX9_bear_26 : decode cX9_bear 26 = .ok (.getfield 19, 3) := by decide +kernel
theorem dX9_bear_29 : decode cX9_bear 29 = .ok (.iload_n 1, 1) := by decide +kernel
theorem dX9_bear_30 : decode cX9_bear 30 = .ok (.invokevirtual 125, 3) := by decide +kernel
theorem dX9_bear_33 : decode cX9_bear 33 = .ok (.ifCond .ne 6, 3) := by decide +kernel
theorem dX9_bear_36 : decode cX9_bear 36 = .ok (.bipush (-3), 2) := by decide +kernel
theorem dX9_bear_38 : decode cX9_bear 38 = .ok (.ireturn, 1) := by decide +kernel
theorem dX9_bear_39 : decode cX9_bear 39 = .ok (.aload_n 0, 1) := by decide +kernel
theorem dX9_bear_40 : decode cX9_bear 40 = .ok (.getfield 19, 3) := by decide +kernel
theorem dX9_bear_43 : decode cX9_bear 43 = .ok (.getfield 88, 3) := by decide +kernel
theorem dX9_bear_46 : decode cX9_bear 46 = .ok (.bipush 7, 2) := by decide +kernel
theorem dX9_bear_48 : decode cX9_bear 48 = .ok (.if_icmp .lt 6, 3) := by decide +kernel
theorem dX9_bear_51 : decode cX9_bear 51 = .ok (.bipush (-4), 2) := by decide +kernel
theorem dX9_bear_53 : decode cX9_bear 53 = .ok (.ireturn, 1) := by decide +kernel
theorem dX9_bear_54 : decode cX9_bear 54 = .ok (.aload_n 0, 1) := by decide +kernel
theorem dX9_bear_55 : decode cX9_bear 55 = .ok (.getfield 29, 3) := by decide +kernel
theorem dX9_bear_58 : decode cX9_bear 58 = .ok (.aload_n 0, 1) := by decide +kernel
theorem dX9_bear_59 : decode cX9_bear 59 = .ok (.getfield 19, 3) := by decide +kernel
theorem dX9_bear_62 : decode cX9_bear 62 = .ok (.invokevirtual 131, 3) := by decide +kernel
theorem dX9_bear_65 : decode cX9_bear 65 = .ok (.aload_n 0, 1) := by decide +kernel
theorem dX9_bear_66 : decode cX9_bear 66 = .ok (.getfield 19, 3) := by decide +kernel
theorem dX9_bear_69 : decode cX9_bear 69 = .ok (.iload_n 1, 1) := by decide +kernel
theorem dX9_bear_70 : decode cX9_bear 70 = .ok (.iload_n 2, 1) := by decide +kernel
theorem dX9_bear_71 : decode cX9_bear 71 = .ok (.iconst 1, 1) := by decide +kernel
theorem dX9_bear_72 : decode cX9_bear 72 = .ok (.if_icmp .ne 7, 3) := by decide +kernel
theorem dX9_bear_75 : decode cX9_bear 75 = .ok (.iconst 1, 1) := by decide +kernel
theorem dX9_bear_76 : decode cX9_bear 76 = .ok (.goto 4, 3) := by decide +kernel
theorem dX9_bear_79 : decode cX9_bear 79 = .ok (.iconst 0, 1) := by decide +kernel
theorem dX9_bear_80 : decode cX9_bear 80 = .ok (.iconst 0, 1) := by decide +kernel
theorem dX9_bear_81 : decode cX9_bear 81 = .ok (.invokevirtual 138, 3) := by decide +kernel
theorem dX9_bear_84 : decode cX9_bear 84 = .ok (.aload_n 0, 1) := by decide +kernel
theorem dX9_bear_85 : decode cX9_bear 85 = .ok (.getfield 19, 3) := by decide +kernel
theorem dX9_bear_88 : decode cX9_bear 88 = .ok (.getfield 88, 3) := by decide +kernel
theorem dX9_bear_91 : decode cX9_bear 91 = .ok (.iconst 1, 1) := by decide +kernel
theorem dX9_bear_92 : decode cX9_bear 92 = .ok (.isub, 1) := by decide +kernel
theorem dX9_bear_93 : decode cX9_bear 93 = .ok (.ireturn, 1) := by decide +kernel
theorem dX9_cut_0 : decode cX9_cut 0 = .ok (.iload_n 1, 1) := by decide +kernel
theorem dX9_cut_1 : decode cX9_cut 1 = .ok (.iconst 1, 1) := by decide +kernel
theorem dX9_cut_2 : decode cX9_cut 2 = .ok (.if_icmp .lt 9, 3) := by decide +kernel
theorem dX9_cut_5 : decode cX9_cut 5 = .ok (.iload_n 1, 1) := by decide +kernel
theorem dX9_cut_6 : decode cX9_cut 6 = .ok (.bipush 9, 2) := by decide +kernel
theorem dX9_cut_8 : decode cX9_cut 8 = .ok (.if_icmp .le 6, 3) := by decide +kernel
theorem dX9_cut_11 : decode cX9_cut 11 = .ok (.bipush (-2), 2) := by decide +kernel
theorem dX9_cut_13 : decode cX9_cut 13 = .ok (.ireturn, 1) := by decide +kernel
theorem dX9_cut_14 : decode cX9_cut 14 = .ok (.aload_n 0, 1) := by decide +kernel
theorem dX9_cut_15 : decode cX9_cut 15 = .ok (.getfield 19, 3) := by decide +kernel
theorem dX9_cut_18 : decode cX9_cut 18 = .ok (.getfield 100, 3) := by decide +kernel
theorem dX9_cut_21 : decode cX9_cut 21 = .ok (.iload_n 1, 1) := by decide +kernel
theorem dX9_cut_22 : decode cX9_cut 22 = .ok (.if_icmp .lt 15, 3) := by decide +kernel
theorem dX9_cut_25 : decode cX9_cut 25 = .ok (.aload_n 0, 1) := by decide +kernel
theorem dX9_cut_26 : decode cX9_cut 26 = .ok (.getfield 19, 3) := by decide +kernel
theorem dX9_cut_29 : decode cX9_cut 29 = .ok (.getfield 94, 3) := by decide +kernel
theorem dX9_cut_32 : decode cX9_cut 32 = .ok (.bipush (-9), 2) := by decide +kernel
theorem dX9_cut_34 : decode cX9_cut 34 = .ok (.if_icmp .ne 6, 3) := by decide +kernel
theorem dX9_cut_37 : decode cX9_cut 37 = .ok (.bipush (-3), 2) := by decide +kernel
theorem dX9_cut_39 : decode cX9_cut 39 = .ok (.ireturn, 1) := by decide +kernel
theorem dX9_cut_40 : decode cX9_cut 40 = .ok (.aload_n 0, 1) := by decide +kernel
theorem dX9_cut_41 : decode cX9_cut 41 = .ok (.getfield 29, 3) := by decide +kernel
theorem dX9_cut_44 : decode cX9_cut 44 = .ok (.aload_n 0, 1) := by decide +kernel
theorem dX9_cut_45 : decode cX9_cut 45 = .ok (.getfield 19, 3) := by decide +kernel
theorem dX9_cut_48 : decode cX9_cut 48 = .ok (.invokevirtual 131, 3) := by decide +kernel
theorem dX9_cut_51 : decode cX9_cut 51 = .ok (.aload_n 0, 1) := by decide +kernel
theorem dX9_cut_52 : decode cX9_cut 52 = .ok (.getfield 19, 3) := by decide +kernel
theorem dX9_cut_55 : decode cX9_cut 55 = .ok (.dup, 1) := by decide +kernel
theorem dX9_cut_56 : decode cX9_cut 56 = .ok (.getfield 100, 3) := by decide +kernel
theorem dX9_cut_59 : decode cX9_cut 59 = .ok (.iload_n 1, 1) := by decide +kernel
theorem dX9_cut_60 : decode cX9_cut 60 = .ok (.isub, 1) := by decide +kernel
theorem dX9_cut_61 : decode cX9_cut 61 = .ok (.putfield 100, 3) := by decide +kernel
theorem dX9_cut_64 : decode cX9_cut 64 = .ok (.aload_n 0, 1) := by decide +kernel
theorem dX9_cut_65 : decode cX9_cut 65 = .ok (.getfield 19, 3) := by decide +kernel
theorem dX9_cut_68 : decode cX9_cut 68 = .ok (.getfield 100, 3) := by decide +kernel
theorem dX9_cut_71 : decode cX9_cut 71 = .ok (.ireturn, 1) := by decide +kernel
theorem dX9_borrow_0 : decode cX9_borrow 0 = .ok (.iload_n 1, 1) := by decide +kernel
theorem dX9_borrow_1 : decode cX9_borrow 1 = .ok (.iconst 1, 1) := by decide +kernel
theorem dX9_borrow_2 : decode cX9_borrow 2 = .ok (.if_icmp .lt 9, 3) := by decide +kernel
theorem dX9_borrow_5 : decode cX9_borrow 5 = .ok (.iload_n 1, 1) := by decide +kernel
theorem dX9_borrow_6 : decode cX9_borrow 6 = .ok (.bipush 9, 2) := by decide +kernel
theorem dX9_borrow_8 : decode cX9_borrow 8 = .ok (.if_icmp .le 6, 3) := by decide +kernel
theorem dX9_borrow_11 : decode cX9_borrow 11 = .ok (.bipush (-2), 2) := by decide +kernel
theorem dX9_borrow_13 : decode cX9_borrow 13 = .ok (.ireturn, 1) := by decide +kernel
theorem dX9_borrow_14 : decode cX9_borrow 14 = .ok (.aload_n 0, 1) := by decide +kernel
theorem dX9_borrow_15 : decode cX9_borrow 15 = .ok (.getfield 19, 3) := by decide +kernel
theorem dX9_borrow_18 : decode cX9_borrow 18 = .ok (.getfield 103, 3) := by decide +kernel
theorem dX9_borrow_21 : decode cX9_borrow 21 = .ok (.iload_n 1, 1) := by decide +kernel
theorem dX9_borrow_22 : decode cX9_borrow 22 = .ok (.iadd, 1) := by decide +kernel
theorem dX9_borrow_23 : decode cX9_borrow 23 = .ok (.bipush 9, 2) := by decide +kernel
theorem dX9_borrow_25 : decode cX9_borrow 25 = .ok (.if_icmp .gt 15, 3) := by decide +kernel
theorem dX9_borrow_28 : decode cX9_borrow 28 = .ok (.aload_n 0, 1) := by decide +kernel
theorem dX9_borrow_29 : decode cX9_borrow 29 = .ok (.getfield 19, 3) := by decide +kernel
theorem dX9_borrow_32 : decode cX9_borrow 32 = .ok (.getfield 94, 3) := by decide +kernel
theorem dX9_borrow_35 : decode cX9_borrow 35 = .ok (.bipush (-9), 2) := by decide +kernel
theorem dX9_borrow_37 : decode cX9_borrow 37 = .ok (.if_icmp .ne 6, 3) := by decide +kernel
theorem dX9_borrow_40 : decode cX9_borrow 40 = .ok (.bipush (-3), 2) := by decide +kernel
theorem dX9_borrow_42 : decode cX9_borrow 42 = .ok (.ireturn, 1) := by decide +kernel
theorem dX9_borrow_43 : decode cX9_borrow 43 = .ok (.aload_n 0, 1) := by decide +kernel
theorem dX9_borrow_44 : decode cX9_borrow 44 = .ok (.getfield 29, 3) := by decide +kernel
theorem dX9_borrow_47 : decode cX9_borrow 47 = .ok (.aload_n 0, 1) := by decide +kernel
theorem dX9_borrow_48 : decode cX9_borrow 48 = .ok (.getfield 19, 3) := by decide +kernel
theorem dX9_borrow_51 : decode cX9_borrow 51 = .ok (.invokevirtual 131, 3) := by decide +kernel
theorem dX9_borrow_54 : decode cX9_borrow 54 = .ok (.aload_n 0, 1) := by decide +kernel
theorem dX9_borrow_55 : decode cX9_borrow 55 = .ok (.getfield 19, 3) := by decide +kernel
theorem dX9_borrow_58 : decode cX9_borrow 58 = .ok (.dup, 1) := by decide +kernel
theorem dX9_borrow_59 : decode cX9_borrow 59 = .ok (.getfield 103, 3) := by decide +kernel
theorem dX9_borrow_62 : decode cX9_borrow 62 = .ok (.iload_n 1, 1) := by decide +kernel
theorem dX9_borrow_63 : decode cX9_borrow 63 = .ok (.iadd, 1) := by decide +kernel
theorem dX9_borrow_64 : decode cX9_borrow 64 = .ok (.putfield 103, 3) := by decide +kernel
theorem dX9_borrow_67 : decode cX9_borrow 67 = .ok (.aload_n 0, 1) := by decide +kernel
theorem dX9_borrow_68 : decode cX9_borrow 68 = .ok (.getfield 19, 3) := by decide +kernel
