theorem dX11_turn_8 : decode cX11_turn 8 = .ok (.iconst (-1), 1) := by decide +kernel
theorem dX11_turn_9 : decode cX11_turn 9 = .ok (.ireturn, 1) := by decide +kernel
theorem dX11_turn_10 : decode cX11_turn 10 = .ok (.bipush 47, 2) := by decide +kernel
theorem dX11_turn_12 : decode cX11_turn 12 = .ok (.bipush 8, 2) := by decide +kernel
theorem dX11_turn_14 : decode cX11_turn 14 = .ok (.iload_n 1, 1) := by decide +kernel
theorem dX11_turn_15 : decode cX11_turn 15 = .ok (.imul, 1) := by decide +kernel
theorem dX11_turn_16 : decode cX11_turn 16 = .ok (.iadd, 1) := by decide +kernel
theorem dX11_turn_17 : decode cX11_turn 17 = .ok (.istore_n 2, 1) := by decide +kernel
theorem dX11_turn_18 : decode cX11_turn 18 = .ok (.aload_n 0, 1) := by decide +kernel
theorem dX11_turn_19 : decode cX11_turn 19 = .ok (.getfield 7, 3) := by decide +kernel
theorem dX11_turn_22 : decode cX11_turn 22 = .ok (.iload_n 2, 1) := by decide +kernel
theorem dX11_turn_23 : decode cX11_turn 23 = .ok (.bipush 6, 2) := by decide +kernel
theorem dX11_turn_25 : decode cX11_turn 25 = .ok (.iadd, 1) := by decide +kernel
theorem dX11_turn_26 : decode cX11_turn 26 = .ok (.iconst 1, 1) := by decide +kernel
theorem dX11_turn_27 : decode cX11_turn 27 = .ok (.aload_n 0, 1) := by decide +kernel
theorem dX11_turn_28 : decode cX11_turn 28 = .ok (.getfield 7, 3) := by decide +kernel
theorem dX11_turn_31 : decode cX11_turn 31 = .ok (.iload_n 2, 1) := by decide +kernel
theorem dX11_turn_32 : decode cX11_turn 32 = .ok (.bipush 6, 2) := by decide +kernel
theorem dX11_turn_34 : decode cX11_turn 34 = .ok (.iadd, 1) := by decide +kernel
theorem dX11_turn_35 : decode cX11_turn 35 = .ok (.iaload, 1) := by decide +kernel
theorem dX11_turn_36 : decode cX11_turn 36 = .ok (.isub, 1) := by decide +kernel
theorem dX11_turn_37 : decode cX11_turn 37 = .ok (.iastore, 1) := by decide +kernel
theorem dX11_turn_38 : decode cX11_turn 38 = .ok (.aload_n 0, 1) := by decide +kernel
theorem dX11_turn_39 : decode cX11_turn 39 = .ok (.getfield 7, 3) := by decide +kernel
theorem dX11_turn_42 : decode cX11_turn 42 = .ok (.iload_n 2, 1) := by decide +kernel
theorem dX11_turn_43 : decode cX11_turn 43 = .ok (.iconst 4, 1) := by decide +kernel
theorem dX11_turn_44 : decode cX11_turn 44 = .ok (.iadd, 1) := by decide +kernel
theorem dX11_turn_45 : decode cX11_turn 45 = .ok (.aload_n 0, 1) := by decide +kernel
theorem dX11_turn_46 : decode cX11_turn 46 = .ok (.getfield 7, 3) := by decide +kernel
theorem dX11_turn_49 : decode cX11_turn 49 = .ok (.iload_n 2, 1) := by decide +kernel
theorem dX11_turn_50 : decode cX11_turn 50 = .ok (.bipush 6, 2) := by decide +kernel
theorem dX11_turn_52 : decode cX11_turn 52 = .ok (.iadd, 1) := by decide +kernel
theorem dX11_turn_53 : decode cX11_turn 53 = .ok (.iaload, 1) := by decide +kernel
theorem dX11_turn_54 : decode cX11_turn 54 = .ok (.iadd, 1) := by decide +kernel
theorem dX11_turn_55 : decode cX11_turn 55 = .ok (.iaload, 1) := by decide +kernel
theorem dX11_turn_56 : decode cX11_turn 56 = .ok (.ireturn, 1) := by decide +kernel
theorem dX11_wrap_0 : decode cX11_wrap 0 = .ok (.aload_n 0, 1) := by decide +kernel
theorem dX11_wrap_1 : decode cX11_wrap 1 = .ok (.iload_n 1, 1) := by decide +kernel
theorem dX11_wrap_2 : decode cX11_wrap 2 = .ok (.invokevirtual 217, 3) := by decide +kernel
theorem dX11_wrap_5 : decode cX11_wrap 5 = .ok (.ifCond .eq 32, 3) := by decide +kernel
theorem dX11_wrap_8 : decode cX11_wrap 8 = .ok (.iload_n 2, 1) := by decide +kernel
theorem dX11_wrap_9 : decode cX11_wrap 9 = .ok (.i2l, 1) := by decide +kernel
theorem dX11_wrap_10 : decode cX11_wrap 10 = .ok (.lconst 0, 1) := by decide +kernel
theorem dX11_wrap_11 : decode cX11_wrap 11 = .ok (.ldc2_w 215, 3) := by decide +kernel
theorem dX11_wrap_14 : decode cX11_wrap 14 = .ok (.invokestatic 78, 3) := by decide +kernel
theorem dX11_wrap_17 : decode cX11_wrap 17 = .ok (.ifCond .eq 20, 3) := by decide +kernel
theorem dX11_wrap_20 : decode cX11_wrap 20 = .ok (.aload_n 0, 1) := by decide +kernel
theorem dX11_wrap_21 : decode cX11_wrap 21 = .ok (.bipush 47, 2) := by decide +kernel
theorem dX11_wrap_23 : decode cX11_wrap 23 = .ok (.bipush 8, 2) := by decide +kernel
theorem dX11_wrap_25 : decode cX11_wrap 25 = .ok (.iload_n 1, 1) := by decide +kernel
theorem dX11_wrap_26 : decode cX11_wrap 26 = .ok (.imul, 1) := by decide +kernel
theorem dX11_wrap_27 : decode cX11_wrap 27 = .ok (.iadd, 1) := by decide +kernel
theorem dX11_wrap_28 : decode cX11_wrap 28 = .ok (.iconst 1, 1) := by decide +kernel
theorem dX11_wrap_29 : decode cX11_wrap 29 = .ok (.iadd, 1) := by decide +kernel
theorem dX11_wrap_30 : decode cX11_wrap 30 = .ok (.iload_n 2, 1) := by decide +kernel
theorem dX11_wrap_31 : decode cX11_wrap 31 = .ok (.invokevirtual 230, 3) := by decide +kernel
theorem dX11_wrap_34 : decode cX11_wrap 34 = .ok (.goto 4, 3) := by decide +kernel
theorem dX11_wrap_37 : decode cX11_wrap 37 = .ok (.iconst (-1), 1) := by decide +kernel
theorem dX11_wrap_38 : decode cX11_wrap 38 = .ok (.ireturn, 1) := by decide +kernel
theorem dX11_memo_0 : decode cX11_memo 0 = .ok (.aload_n 0, 1) := by decide +kernel
theorem dX11_memo_1 : decode cX11_memo 1 = .ok (.iload_n 1, 1) := by decide +kernel
theorem dX11_memo_2 : decode cX11_memo 2 = .ok (.invokevirtual 217, 3) := by decide +kernel
theorem dX11_memo_5 : decode cX11_memo 5 = .ok (.ifCond .eq 35, 3) := by decide +kernel
theorem dX11_memo_8 : decode cX11_memo 8 = .ok (.iload_n 2, 1) := by decide +kernel
theorem dX11_memo_9 : decode cX11_memo 9 = .ok (.bipush (-4), 2) := by decide +kernel
theorem dX11_memo_11 : decode cX11_memo 11 = .ok (.if_icmp .eq 11, 3) := by decide +kernel
theorem dX11_memo_14 : decode cX11_memo 14 = .ok (.aload_n 0, 1) := by decide +kernel
theorem dX11_memo_15 : decode cX11_memo 15 = .ok (.iload_n 2, 1) := by decide +kernel
theorem dX11_memo_16 : decode cX11_memo 16 = .ok (.invokevirtual 233, 3) := by decide +kernel
theorem dX11_memo_19 : decode cX11_memo 19 = .ok (.ifCond .eq 21, 3) := by decide +kernel
theorem dX11_memo_22 : decode cX11_memo 22 = .ok (.aload_n 0, 1) := by decide +kernel
theorem dX11_memo_23 : decode cX11_memo 23 = .ok (.bipush 47, 2) := by decide +kernel
theorem dX11_memo_25 : decode cX11_memo 25 = .ok (.bipush 8, 2) := by decide +kernel
theorem dX11_memo_27 : decode cX11_memo 27 = .ok (.iload_n 1, 1) := by decide +kernel
theorem dX11_memo_28 : decode cX11_memo 28 = .ok (.imul, 1) := by decide +kernel
theorem dX11_memo_29 : decode cX11_memo 29 = .ok (.iadd, 1) := by decide +kernel
theorem dX11_memo_30 : decode cX11_memo 30 = .ok (.bipush 7, 2) := by decide +kernel
theorem dX11_memo_32 : decode cX11_memo 32 = .ok (.iadd, 1) := by decide +kernel
theorem dX11_memo_33 : decode cX11_memo 33 = .ok (.iload_n 2, 1) := by decide +kernel
theorem dX11_memo_34 : decode cX11_memo 34 = .ok (.invokevirtual 230, 3) := by decide +kernel
theorem dX11_memo_37 : decode cX11_memo 37 = .ok (.goto 4, 3) := by decide +kernel
theorem dX11_memo_40 : decode cX11_memo 40 = .ok (.iconst (-1), 1) := by decide +kernel
theorem dX11_memo_41 : decode cX11_memo 41 = .ok (.ireturn, 1) := by decide +kernel
theorem dX11_rake_0 : decode cX11_rake 0 = .ok (.aload_n 0, 1) := by decide +kernel
theorem dX11_rake_1 : decode cX11_rake 1 = .ok (.iload_n 1, 1) := by decide +kernel
theorem dX11_rake_2 : decode cX11_rake 2 = .ok (.invokevirtual 212, 3) := by decide +kernel
theorem dX11_rake_5 : decode cX11_rake 5 = .ok (.ifCond .ne 5, 3) := by decide +kernel
theorem dX11_rake_8 : decode cX11_rake 8 = .ok (.iconst (-1), 1) := by decide +kernel
theorem dX11_rake_9 : decode cX11_rake 9 = .ok (.ireturn, 1) := by decide +kernel
theorem dX11_rake_10 : decode cX11_rake 10 = .ok (.aload_n 0, 1) := by decide +kernel
theorem dX11_rake_11 : decode cX11_rake 11 = .ok (.getfield 7, 3) := by decide +kernel
theorem dX11_rake_14 : decode cX11_rake 14 = .ok (.bipush 95, 2) := by decide +kernel
theorem dX11_rake_16 : decode cX11_rake 16 = .ok (.iaload, 1) := by decide +kernel
theorem dX11_rake_17 : decode cX11_rake 17 = .ok (.iload_n 1, 1) := by decide +kernel
theorem dX11_rake_18 : decode cX11_rake 18 = .ok (.ishr, 1) := by decide +kernel
theorem dX11_rake_19 : decode cX11_rake 19 = .ok (.iconst 1, 1) := by decide +kernel
theorem dX11_rake_20 : decode cX11_rake 20 = .ok (.iand, 1) := by decide +kernel
theorem dX11_rake_21 : decode cX11_rake 21 = .ok (.istore_n 3, 1) := by decide +kernel
theorem dX11_rake_22 : decode cX11_rake 22 = .ok (.aload_n 0, 1) := by decide +kernel
theorem dX11_rake_23 : decode cX11_rake 23 = .ok (.getfield 7, 3) := by decide +kernel
theorem dX11_rake_26 : decode cX11_rake 26 = .ok (.bipush 95, 2) := by decide +kernel
theorem dX11_rake_28 : decode cX11_rake 28 = .ok (.iload_n 2, 1) := by decide +kernel
theorem dX11_rake_29 : decode cX11_rake 29 = .ok (.ifCond .eq 17, 3) := by decide +kernel
theorem dX11_rake_32 : decode cX11_rake 32 = .ok (.aload_n 0, 1) := by decide +kernel
theorem dX11_rake_33 : decode cX11_rake 33 = .ok (.getfield 7, 3) := by decide +kernel
theorem dX11_rake_36 : decode cX11_rake 36 = .ok (.bipush 95, 2) := by decide +kernel
theorem dX11_rake_38 : decode cX11_rake 38 = .ok (.iaload, 1) := by decide +kernel
theorem dX11_rake_39 : decode cX11_rake 39 = .ok (.iconst 1, 1) := by decide +kernel
theorem dX11_rake_40 : decode cX11_rake 40 = .ok (.iload_n 1, 1) := by decide +kernel
theorem dX11_rake_41 : decode cX11_rake 41 = .ok (.ishl, 1) := by decide +kernel
theorem dX11_rake_42 : decode cX11_rake 42 = .ok (.ior, 1) := by decide +kernel
theorem dX11_rake_43 : decode cX11_rake 43 = .ok (.goto 16, 3) := by decide +kernel
theorem dX11_rake_46 : decode cX11_rake 46 = .ok (.aload_n 0, 1) := by decide +kernel
theorem dX11_rake_47 : decode cX11_rake 47 = .ok (.getfield 7, 3) := by decide +kernel
theorem dX11_rake_50 : decode cX11_rake 50 = .ok (.bipush 95, 2) := by decide +kernel
theorem dX11_rake_52 : decode cX11_rake 52 = .ok (.iaload, 1) := by decide +kernel
theorem dX11_rake_53 : decode cX11_rake 53 = .ok (.iconst 1, 1) := by decide +kernel
theorem dX11_rake_54 : decode cX11_rake 54 = .ok (.iload_n 1, 1) := by decide +kernel
theorem dX11_rake_55 : decode cX11_rake 55 = .ok (.ishl, 1) := by decide +kernel
theorem dX11_rake_56 : decode cX11_rake 56 = .ok (.iconst (-1), 1) := by decide +kernel
theorem dX11_rake_57 : decode cX11_rake 57 = .ok (.ixor, 1) := by decide +kernel
theorem dX11_rake_58 : decode cX11_rake 58 = .ok (.iand, 1) := by decide +kernel
theorem dX11_rake_59 : decode cX11_rake 59 = .ok (.iastore, 1) := by decide +kernel
theorem dX11_rake_60 : decode cX11_rake 60 = .ok (.iload_n 3, 1) := by decide +kernel
theorem dX11_rake_61 : decode cX11_rake 61 = .ok (.ireturn, 1) := by decide +kernel
theorem dX11_go_0 : decode cX11_go 0 = .ok (.iload_n 1, 1) := by decide +kernel
theorem dX11_go_1 : decode cX11_go 1 = .ok (.i2l, 1) := by decide +kernel
theorem dX11_go_2 : decode cX11_go 2 = .ok (.lconst 0, 1) := by decide +kernel
theorem dX11_go_3 : decode cX11_go 3 = .ok (.ldc2_w 236, 3) := by decide +kernel
theorem dX11_go_6 : decode cX11_go 6 = .ok (.invokestatic 78, 3) := by decide +kernel
theorem dX11_go_9 : decode cX11_go 9 = .ok (.ifCond .ne 5, 3) := by decide +kernel
theorem dX11_go_12 : decode cX11_go 12 = .ok (.iconst (-1), 1) := by decide +kernel
theorem dX11_go_13 : decode cX11_go 13 = .ok (.ireturn, 1) := by decide +kernel
theorem dX11_go_14 : decode cX11_go 14 = .ok (.aload_n 0, 1) := by decide +kernel
theorem dX11_go_15 : decode cX11_go 15 = .ok (.getfield 7, 3) := by decide +kernel
theorem dX11_go_18 : decode cX11_go 18 = .ok (.bipush 45, 2) := by decide +kernel
theorem dX11_go_20 : decode cX11_go 20 = .ok (.iaload, 1) := by decide +kernel
theorem dX11_go_21 : decode cX11_go 21 = .ok (.iload_n 1, 1) := by decide +kernel
theorem dX11_go_22 : decode cX11_go 22 = .ok (.iadd, 1) := by decide +kernel
theorem dX11_go_23 : decode cX11_go 23 = .ok (.sipush 999, 3) := by decide +kernel
theorem dX11_go_26 : decode cX11_go 26 = .ok (.if_icmp .le 6, 3) := by decide +kernel
theorem dX11_go_29 : decode cX11_go 29 = .ok (.bipush (-3), 2) := by decide +kernel
theorem dX11_go_31 : decode cX11_go 31 = .ok (.ireturn, 1) := by decide +kernel
theorem dX11_go_32 : decode cX11_go 32 = .ok (.aload_n 0, 1) := by decide +kernel
theorem dX11_go_33 : decode cX11_go 33 = .ok (.invokevirtual 222, 3) := by decide +kernel
theorem dX11_go_36 : decode cX11_go 36 = .ok (.aload_n 0, 1) := by decide +kernel
theorem dX11_go_37 : decode cX11_go 37 = .ok (.iload_n 1, 1) := by decide +kernel
theorem dX11_go_38 : decode cX11_go 38 = .ok (.invokevirtual 238, 3) := by decide +kernel
theorem dX11_go_41 : decode cX11_go 41 = .ok (.iconst 0, 1) := by decide +kernel
theorem dX11_go_42 : decode cX11_go 42 = .ok (.istore_n 2, 1) := by decide +kernel
theorem dX11_go_43 : decode cX11_go 43 = .ok (.iload_n 2, 1) := by decide +kernel
theorem dX11_go_44 : decode cX11_go 44 = .ok (.bipush 115, 2) := by decide +kernel
theorem dX11_go_46 : decode cX11_go 46 = .ok (.if_icmp .ge 21, 3) := by decide +kernel
theorem dX11_go_49 : decode cX11_go 49 = .ok (.aload_n 0, 1) := by decide +kernel
theorem dX11_go_50 : decode cX11_go 50 = .ok (.getfield 7, 3) := by decide +kernel
theorem dX11_go_53 : decode cX11_go 53 = .ok (.iload_n 2, 1) := by decide +kernel
theorem dX11_go_54 : decode cX11_go 54 = .ok (.aload_n 0, 1) := by decide +kernel
theorem dX11_go_55 : decode cX11_go 55 = .ok (.getfield 13, 3) := by decide +kernel
theorem dX11_go_58 : decode cX11_go 58 = .ok (.iload_n 2, 1) := by decide +kernel
theorem dX11_go_59 : decode cX11_go 59 = .ok (.iaload, 1) := by decide +kernel
theorem dX11_go_60 : decode cX11_go 60 = .ok (.iastore, 1) := by decide +kernel
theorem dX11_go_61 : decode cX11_go 61 = .ok (.iinc 2 1, 3) := by decide +kernel
theorem dX11_go_64 : decode cX11_go 64 = .ok (.goto (-21), 3) := by decide +kernel
theorem dX11_go_67 : decode cX11_go 67 = .ok (.aload_n 0, 1) := by decide +kernel
theorem dX11_go_68 : decode cX11_go 68 = .ok (.invokevirtual 241, 3) := by decide +kernel
theorem dX11_go_71 : decode cX11_go 71 = .ok (.ireturn, 1) := by decide +kernel
theorem dX11_ahead_0 : decode cX11_ahead 0 = .ok (.aload_n 0, 1) := by decide +kernel
theorem dX11_ahead_1 : decode cX11_ahead 1 = .ok (.iload_n 1, 1) := by decide +kernel
theorem dX11_ahead_2 : decode cX11_ahead 2 = .ok (.invokevirtual 217, 3) := by decide +kernel
theorem dX11_ahead_5 : decode cX11_ahead 5 = .ok (.ifCond .eq 27, 3) := by decide +kernel
theorem dX11_ahead_8 : decode cX11_ahead 8 = .ok (.iload_n 2, 1) := by decide +kernel
theorem dX11_ahead_9 : decode cX11_ahead 9 = .ok (.i2l, 1) := by decide +kernel
theorem dX11_ahead_10 : decode cX11_ahead 10 = .ok (.lconst 0, 1) := by decide +kernel
theorem dX11_ahead_11 : decode cX11_ahead 11 = .ok (.ldc2_w 236, 3) := by decide +kernel
theorem dX11_ahead_14 : decode cX11_ahead 14 = .ok (.invokestatic 78, 3) := by decide +kernel
theorem dX11_ahead_17 : decode cX11_ahead 17 = .ok (.ifCond .eq 15, 3) := by decide +kernel
theorem dX11_ahead_20 : decode cX11_ahead 20 = .ok (.iload_n 3, 1) := by decide +kernel
theorem dX11_ahead_21 : decode cX11_ahead 21 = .ok (.i2l, 1) := by decide +kernel
theorem dX11_ahead_22 : decode cX11_ahead 22 = .ok (.lconst 0, 1) := by decide +kernel
theorem dX11_ahead_23 : decode cX11_ahead 23 = .ok (.ldc2_w 220, 3) := by decide +kernel
theorem dX11_ahead_26 : decode cX11_ahead 26 = .ok (.invokestatic 78, 3) := by decide +kernel
theorem dX11_ahead_29 : decode cX11_ahead 29 = .ok (.ifCond .ne 5, 3) := by decide +kernel
theorem dX11_ahead_32 : decode cX11_ahead 32 = .ok (.iconst (-1), 1) := by decide +kernel
theorem dX11_ahead_33 : decode cX11_ahead 33 = .ok (.ireturn, 1) := by decide +kernel
theorem dX11_ahead_34 : decode cX11_ahead 34 = .ok (.aload_n 0, 1) := by decide +kernel
theorem dX11_ahead_35 : decode cX11_ahead 35 = .ok (.invokevirtual 222, 3) := by decide +kernel
theorem dX11_ahead_38 : decode cX11_ahead 38 = .ok (.aload_n 0, 1) := by decide +kernel
theorem dX11_ahead_39 : decode cX11_ahead 39 = .ok (.iload_n 2, 1) := by decide +kernel
theorem dX11_ahead_40 : decode cX11_ahead 40 = .ok (.invokevirtual 238, 3) := by decide +kernel
theorem dX11_ahead_43 : decode cX11_ahead 43 = .ok (.aload_n 0, 1) := by decide +kernel
theorem dX11_ahead_44 : decode cX11_ahead 44 = .ok (.iload_n 1, 1) := by decide +kernel
theorem dX11_ahead_45 : decode cX11_ahead 45 = .ok (.iload_n 3, 1) := by decide +kernel
theorem dX11_ahead_46 : decode cX11_ahead 46 = .ok (.invokevirtual 225, 3) := by decide +kernel
theorem dX11_ahead_49 : decode cX11_ahead 49 = .ok (.ireturn, 1) := by decide +kernel
theorem dX11_later_0 : decode cX11_later 0 = .ok (.aload_n 0, 1) := by decide +kernel
theorem dX11_later_1 : decode cX11_later 1 = .ok (.iload_n 1, 1) := by decide +kernel
theorem dX11_later_2 : decode cX11_later 2 = .ok (.invokevirtual 212, 3) := by decide +kernel
theorem dX11_later_5 : decode cX11_later 5 = .ok (.ifCond .eq 15, 3) := by decide +kernel
theorem dX11_later_8 : decode cX11_later 8 = .ok (.iload_n 2, 1) := by decide +kernel
theorem dX11_later_9 : decode cX11_later 9 = .ok (.i2l, 1) := by decide +kernel
theorem dX11_later_10 : decode cX11_later 10 = .ok (.lconst 0, 1) := by decide +kernel
theorem dX11_later_11 : decode cX11_later 11 = .ok (.ldc2_w 236, 3) := by decide +kernel
theorem dX11_later_14 : decode cX11_later 14 = .ok (.invokestatic 78, 3) := by decide +kernel
theorem dX11_later_17 : decode cX11_later 17 = .ok (.ifCond .ne 5, 3) := by decide +kernel
theorem dX11_later_20 : decode cX11_later 20 = .ok (.iconst (-1), 1) := by decide +kernel
theorem dX11_later_21 : decode cX11_later 21 = .ok (.ireturn, 1) := by decide +kernel
theorem dX11_later_22 : decode cX11_later 22 = .ok (.aload_n 0, 1) := by decide +kernel
theorem dX11_later_23 : decode cX11_later 23 = .ok (.invokevirtual 222, 3) := by decide +kernel
theorem dX11_later_26 : decode cX11_later 26 = .ok (.aload_n 0, 1) := by decide +kernel
theorem dX11_later_27 : decode cX11_later 27 = .ok (.iload_n 2, 1) := by decide +kernel
theorem dX11_later_28 : decode cX11_later 28 = .ok (.invokevirtual 238, 3) := by decide +kernel
theorem dX11_later_31 : decode cX11_later 31 = .ok (.aload_n 0, 1) := by decide +kernel
theorem dX11_later_32 : decode cX11_later 32 = .ok (.getfield 13, 3) := by decide +kernel
theorem dX11_later_35 : decode cX11_later 35 = .ok (.iconst 0, 1) := by decide +kernel
theorem dX11_later_36 : decode cX11_later 36 = .ok (.iload_n 1, 1) := by decide +kernel
theorem dX11_later_37 : decode cX11_later 37 = .ok (.iadd, 1) := by decide +kernel
theorem dX11_later_38 : decode cX11_later 38 = .ok (.iaload, 1) := by decide +kernel
theorem dX11_later_39 : decode cX11_later 39 = .ok (.ireturn, 1) := by decide +kernel
theorem dX11_when_0 : decode cX11_when 0 = .ok (.aload_n 0, 1) := by decide +kernel
theorem dX11_when_1 : decode cX11_when 1 = .ok (.iload_n 1, 1) := by decide +kernel
theorem dX11_when_2 : decode cX11_when 2 = .ok (.invokevirtual 217, 3) := by decide +kernel
theorem dX11_when_5 : decode cX11_when 5 = .ok (.ifCond .eq 15, 3) := by decide +kernel
theorem dX11_when_8 : decode cX11_when 8 = .ok (.iload_n 2, 1) := by decide +kernel
theorem dX11_when_9 : decode cX11_when 9 = .ok (.i2l, 1) := by decide +kernel
theorem dX11_when_10 : decode cX11_when 10 = .ok (.lconst 0, 1) := by decide +kernel
theorem dX11_when_11 : decode cX11_when 11 = .ok (.ldc2_w 215, 3) := by decide +kernel
theorem dX11_when_14 : decode cX11_when 14 = .ok (.invokestatic 78, 3) := by decide +kernel
theorem dX11_when_17 : decode cX11_when 17 = .ok (.ifCond .ne 5, 3) := by decide +kernel
theorem dX11_when_20 : decode cX11_when 20 = .ok (.iconst (-1), 1) := by decide +kernel
theorem dX11_when_21 : decode cX11_when 21 = .ok (.ireturn, 1) := by decide +kernel
theorem dX11_when_22 : decode cX11_when 22 = .ok (.bipush (-4), 2) := by decide +kernel
theorem dX11_when_24 : decode cX11_when 24 = .ok (.istore_n 3, 1) := by decide +kernel
theorem dX11_when_25 : decode cX11_when 25 = .ok (.bipush (-4), 2) := by decide +kernel
theorem dX11_when_27 : decode cX11_when 27 = .ok (.istore 4, 2) := by decide +kernel
theorem dX11_when_29 : decode cX11_when 29 = .ok (.iconst 0, 1) := by decide +kernel
theorem dX11_when_30 : decode cX11_when 30 = .ok (.istore 5, 2) := by decide +kernel
theorem dX11_when_32 : decode cX11_when 32 = .ok (.aload_n 0, 1) := by decide +kernel
theorem dX11_when_33 : decode cX11_when 33 = .ok (.invokevirtual 222, 3) := by decide +kernel
theorem dX11_when_36 : decode cX11_when 36 = .ok (.iconst 0, 1) := by decide +kernel
theorem dX11_when_37 : decode cX11_when 37 = .ok (.istore 6, 2) := by decide +kernel
theorem dX11_when_39 : decode cX11_when 39 = .ok (.iload 6, 2) := by decide +kernel
theorem dX11_when_41 : decode cX11_when 41 = .ok (.bipush 40, 2) := by decide +kernel
theorem dX11_when_43 : decode cX11_when 43 = .ok (.if_icmp .gt 71, 3) := by decide +kernel
theorem dX11_when_46 : decode cX11_when 46 = .ok (.iload_n 3, 1) := by decide +kernel
theorem dX11_when_47 : decode cX11_when 47 = .ok (.bipush (-4), 2) := by decide +kernel
theorem dX11_when_49 : decode cX11_when 49 = .ok (.if_icmp .ne 16, 3) := by decide +kernel
theorem dX11_when_52 : decode cX11_when 52 = .ok (.aload_n 0, 1) := by decide +kernel
theorem dX11_when_53 : decode cX11_when 53 = .ok (.iload_n 1, 1) := by decide +kernel
theorem dX11_when_54 : decode cX11_when 54 = .ok (.invokevirtual 199, 3) := by decide +kernel
theorem dX11_when_57 : decode cX11_when 57 = .ok (.ifCond .eq 8, 3) := by decide +kernel
theorem dX11_when_60 : decode cX11_when 60 = .ok (.iload 6, 2) := by decide +kernel
theorem dX11_when_62 : decode cX11_when 62 = .ok (.goto 4, 3) := by decide +kernel
theorem dX11_when_65 : decode cX11_when 65 = .ok (.iload_n 3, 1) := by decide +kernel
theorem dX11_when_66 : decode cX11_when 66 = .ok (.istore_n 3, 1) := by decide +kernel
theorem dX11_when_67 : decode cX11_when 67 = .ok (.iload 4, 2) := by decide +kernel
theorem dX11_when_69 : decode cX11_when 69 = .ok (.bipush (-4), 2) := by decide +kernel
theorem dX11_when_71 : decode cX11_when 71 = .ok (.if_icmp .ne 16, 3) := by decide +kernel
theorem dX11_when_74 : decode cX11_when 74 = .ok (.aload_n 0, 1) := by decide +kernel
theorem dX11_when_75 : decode cX11_when 75 = .ok (.iload_n 1, 1) := by decide +kernel
theorem dX11_when_76 : decode cX11_when 76 = .ok (.invokevirtual 202, 3) := by decide +kernel
theorem dX11_when_79 : decode cX11_when 79 = .ok (.ifCond .eq 8, 3) := by decide +kernel
theorem dX11_when_82 : decode cX11_when 82 = .ok (.iload 6, 2) := by decide +kernel
theorem dX11_when_84 : decode cX11_when 84 = .ok (.goto 5, 3) := by decide +kernel
theorem dX11_when_87 : decode cX11_when 87 = .ok (.iload 4, 2) := by decide +kernel
theorem dX11_when_89 : decode cX11_when 89 = .ok (.istore 4, 2) := by decide +kernel
theorem dX11_when_91 : decode cX11_when 91 = .ok (.iload 5, 2) := by decide +kernel
theorem dX11_when_93 : decode cX11_when 93 = .ok (.aload_n 0, 1) := by decide +kernel
theorem dX11_when_94 : decode cX11_when 94 = .ok (.iload_n 1, 1) := by decide +kernel
theorem dX11_when_95 : decode cX11_when 95 = .ok (.invokevirtual 205, 3) := by decide +kernel
theorem dX11_when_98 : decode cX11_when 98 = .ok (.invokestatic 208, 3) := by decide +kernel
theorem dX11_when_101 : decode cX11_when 101 = .ok (.iadd, 1) := by decide +kernel
theorem dX11_when_102 : decode cX11_when 102 = .ok (.istore 5, 2) := by decide +kernel
theorem dX11_when_104 : decode cX11_when 104 = .ok (.aload_n 0, 1) := by decide +kernel
theorem dX11_when_105 : decode cX11_when 105 = .ok (.invokevirtual 196, 3) := by decide +kernel
theorem dX11_when_108 : decode cX11_when 108 = .ok (.iinc 6 1, 3) := by decide +kernel
theorem dX11_when_111 : decode cX11_when 111 = .ok (.goto (-72), 3) := by decide +kernel
theorem dX11_when_114 : decode cX11_when 114 = .ok (.iload_n 2, 1) := by decide +kernel
theorem dX11_when_115 : decode cX11_when 115 = .ok (.ifCond .ne 7, 3) := by decide +kernel
theorem dX11_when_118 : decode cX11_when 118 = .ok (.iload_n 3, 1) := by decide +kernel
theorem dX11_when_119 : decode cX11_when 119 = .ok (.goto 15, 3) := by decide +kernel
theorem dX11_when_122 : decode cX11_when 122 = .ok (.iload_n 2, 1) := by decide +kernel
theorem dX11_when_123 : decode cX11_when 123 = .ok (.iconst 1, 1) := by decide +kernel
theorem dX11_when_124 : decode cX11_when 124 = .ok (.if_icmp .ne 8, 3) := by decide +kernel
theorem dX11_when_127 : decode cX11_when 127 = .ok (.iload 4, 2) := by decide +kernel
theorem dX11_when_129 : decode cX11_when 129 = .ok (.goto 5, 3) := by decide +kernel
theorem dX11_when_132 : decode cX11_when 132 = .ok (.iload 5, 2) := by decide +kernel
theorem dX11_when_134 : decode cX11_when 134 = .ok (.ireturn, 1) := by decide +kernel
theorem dX11_findGoods_0 : decode cX11_findGoods 0 = .ok (.iconst 0, 1) := by decide +kernel
theorem dX11_findGoods_1 : decode cX11_findGoods 1 = .ok (.istore_n 2, 1) := by decide +kernel
theorem dX11_findGoods_2 : decode cX11_findGoods 2 = .ok (.iload_n 2, 1) := by decide +kernel
theorem dX11_findGoods_3 : decode cX11_findGoods 3 = .ok (.aload_n 0, 1) := by decide +kernel
theorem dX11_findGoods_4 : decode cX11_findGoods 4 = .ok (.getfield 7, 3) := by decide +kernel
theorem dX11_findGoods_7 : decode cX11_findGoods 7 = .ok (.bipush 46, 2) := by decide +kernel
theorem dX11_findGoods_9 : decode cX11_findGoods 9 = .ok (.iaload, 1) := by decide +kernel
theorem dX11_findGoods_10 : decode cX11_findGoods 10 = .ok (.if_icmp .ge 84, 3) := by decide +kernel
theorem dX11_findGoods_13 : decode cX11_findGoods 13 = .ok (.aload_n 0, 1) := by decide +kernel
theorem dX11_findGoods_14 : decode cX11_findGoods 14 = .ok (.getfield 26, 3) := by decide +kernel
theorem dX11_findGoods_17 : decode cX11_findGoods 17 = .ok (.iload_n 2, 1) := by decide +kernel
theorem dX11_findGoods_18 : decode cX11_findGoods 18 = .ok (.iconst 0, 1) := by decide +kernel
theorem dX11_findGoods_19 : decode cX11_findGoods 19 = .ok (.iastore, 1) := by decide +kernel
theorem dX11_findGoods_20 : decode cX11_findGoods 20 = .ok (.iconst 0, 1) := by decide +kernel
theorem dX11_findGoods_21 : decode cX11_findGoods 21 = .ok (.istore_n 3, 1) := by decide +kernel
theorem dX11_findGoods_22 : decode cX11_findGoods 22 = .ok (.iload_n 3, 1) := by decide +kernel
theorem dX11_findGoods_23 : decode cX11_findGoods 23 = .ok (.iconst 3, 1) := by decide +kernel
theorem dX11_findGoods_24 : decode cX11_findGoods 24 = .ok (.aload_n 0, 1) := by decide +kernel
theorem dX11_findGoods_25 : decode cX11_findGoods 25 = .ok (.getfield 73, 3) := by decide +kernel
theorem dX11_findGoods_28 : decode cX11_findGoods 28 = .ok (.imul, 1) := by decide +kernel
theorem dX11_findGoods_29 : decode cX11_findGoods 29 = .ok (.if_icmp .ge 44, 3) := by decide +kernel
theorem dX11_findGoods_32 : decode cX11_findGoods 32 = .ok (.aload_n 0, 1) := by decide +kernel
theorem dX11_findGoods_33 : decode cX11_findGoods 33 = .ok (.invokevirtual 222, 3) := by decide +kernel
theorem dX11_findGoods_36 : decode cX11_findGoods 36 = .ok (.aload_n 0, 1) := by decide +kernel
theorem dX11_findGoods_37 : decode cX11_findGoods 37 = .ok (.iload_n 2, 1) := by decide +kernel
theorem dX11_findGoods_38 : decode cX11_findGoods 38 = .ok (.iconst 2, 1) := by decide +kernel
theorem dX11_findGoods_39 : decode cX11_findGoods 39 = .ok (.iload_n 3, 1) := by decide +kernel
theorem dX11_findGoods_40 : decode cX11_findGoods 40 = .ok (.invokevirtual 179, 3) := by decide +kernel
theorem dX11_findGoods_43 : decode cX11_findGoods 43 = .ok (.aload_n 0, 1) := by decide +kernel
theorem dX11_findGoods_44 : decode cX11_findGoods 44 = .ok (.iload_n 1, 1) := by decide +kernel
theorem dX11_findGoods_45 : decode cX11_findGoods 45 = .ok (.invokevirtual 238, 3) := by decide +kernel
theorem dX11_findGoods_48 : decode cX11_findGoods 48 = .ok (.aload_n 0, 1) := by decide +kernel
theorem dX11_findGoods_49 : decode cX11_findGoods 49 = .ok (.getfield 26, 3) := by decide +kernel
theorem dX11_findGoods_52 : decode cX11_findGoods 52 = .ok (.iload_n 2, 1) := by decide +kernel
theorem dX11_findGoods_53 : decode cX11_findGoods 53 = .ok (.dup2, 1) := by decide +kernel
theorem dX11_findGoods_54 : decode cX11_findGoods 54 = .ok (.iaload, 1) := by decide +kernel
theorem dX11_findGoods_55 : decode cX11_findGoods 55 = .ok (.aload_n 0, 1) := by decide +kernel
theorem dX11_findGoods_56 : decode cX11_findGoods 56 = .ok (.iload_n 2, 1) := by decide +kernel
theorem dX11_findGoods_57 : decode cX11_findGoods 57 = .ok (.invokevirtual 205, 3) := by decide +kernel
theorem dX11_findGoods_60 : decode cX11_findGoods 60 = .ok (.invokestatic 208, 3) := by decide +kernel
theorem dX11_findGoods_63 : decode cX11_findGoods 63 = .ok (.iload_n 3, 1) := by decide +kernel
theorem dX11_findGoods_64 : decode cX11_findGoods 64 = .ok (.ishl, 1) := by decide +kernel
theorem dX11_findGoods_65 : decode cX11_findGoods 65 = .ok (.ior, 1) := by decide +kernel
theorem dX11_findGoods_66 : decode cX11_findGoods 66 = .ok (.iastore, 1) := by decide +kernel
theorem dX11_findGoods_67 : decode cX11_findGoods 67 = .ok (.iinc 3 1, 3) := by decide +kernel
theorem dX11_findGoods_70 : decode cX11_findGoods 70 = .ok (.goto (-48), 3) := by decide +kernel
theorem dX11_findGoods_73 : decode cX11_findGoods 73 = .ok (.aload_n 0, 1) := by decide +kernel
theorem dX11_findGoods_74 : decode cX11_findGoods 74 = .ok (.invokevirtual 222, 3) := by decide +kernel
theorem dX11_findGoods_77 : decode cX11_findGoods 77 = .ok (.aload_n 0, 1) := by decide +kernel
theorem dX11_findGoods_78 : decode cX11_findGoods 78 = .ok (.getfield 29, 3) := by decide +kernel
theorem dX11_findGoods_81 : decode cX11_findGoods 81 = .ok (.iload_n 2, 1) := by decide +kernel
theorem dX11_findGoods_82 : decode cX11_findGoods 82 = .ok (.aload_n 0, 1) := by decide +kernel
theorem dX11_findGoods_83 : decode cX11_findGoods 83 = .ok (.iload_n 2, 1) := by decide +kernel
theorem dX11_findGoods_84 : decode cX11_findGoods 84 = .ok (.invokevirtual 205, 3) := by decide +kernel
theorem dX11_findGoods_87 : decode cX11_findGoods 87 = .ok (.bastore, 1) := by decide +kernel
theorem dX11_findGoods_88 : decode cX11_findGoods 88 = .ok (.iinc 2 1, 3) := by decide +kernel
theorem dX11_findGoods_91 : decode cX11_findGoods 91 = .ok (.goto (-89), 3) := by decide +kernel
theorem dX11_findGoods_94 : decode cX11_findGoods 94 = .ok (.return_, 1) := by decide +kernel
theorem dX11_bitsOf_0 : decode cX11_bitsOf 0 = .ok (.iconst 0, 1) := by decide +kernel
theorem dX11_bitsOf_1 : decode cX11_bitsOf 1 = .ok (.istore_n 1, 1) := by decide +kernel
theorem dX11_bitsOf_2 : decode cX11_bitsOf 2 = .ok (.iconst 0, 1) := by decide +kernel
theorem dX11_bitsOf_3 : decode cX11_bitsOf 3 = .ok (.istore_n 2, 1) := by decide +kernel
theorem dX11_bitsOf_4 : decode cX11_bitsOf 4 = .ok (.iload_n 2, 1) := by decide +kernel
theorem dX11_bitsOf_5 : decode cX11_bitsOf 5 = .ok (.bipush 6, 2) := by decide +kernel
theorem dX11_bitsOf_7 : decode cX11_bitsOf 7 = .ok (.if_icmp .ge 17, 3) := by decide +kernel
theorem dX11_bitsOf_10 : decode cX11_bitsOf 10 = .ok (.iload_n 1, 1) := by decide +kernel
theorem dX11_bitsOf_11 : decode cX11_bitsOf 11 = .ok (.iload_n 0, 1) := by decide +kernel
theorem dX11_bitsOf_12 : decode cX11_bitsOf 12 = .ok (.iload_n 2, 1) := by decide +kernel
theorem dX11_bitsOf_13 : decode cX11_bitsOf 13 = .ok (.ishr, 1) := by decide +kernel
theorem dX11_bitsOf_14 : decode cX11_bitsOf 14 = .ok (.iconst 1, 1) := by decide +kernel
theorem dX11_bitsOf_15 : decode cX11_bitsOf 15 = .ok (.iand, 1) := by decide +kernel
theorem dX11_bitsOf_16 : decode cX11_bitsOf 16 = .ok (.iadd, 1) := by decide +kernel
theorem dX11_bitsOf_17 : decode cX11_bitsOf 17 = .ok (.istore_n 1, 1) := by decide +kernel
theorem dX11_bitsOf_18 : decode cX11_bitsOf 18 = .ok (.iinc 2 1, 3) := by decide +kernel
theorem dX11_bitsOf_21 : decode cX11_bitsOf 21 = .ok (.goto (-17), 3) := by decide +kernel
theorem dX11_bitsOf_24 : decode cX11_bitsOf 24 = .ok (.iload_n 1, 1) := by decide +kernel
theorem dX11_bitsOf_25 : decode cX11_bitsOf 25 = .ok (.ireturn, 1) := by decide +kernel
theorem dX11_mostFrom_0 : decode cX11_mostFrom 0 = .ok (.iconst 0, 1) := by decide +kernel
theorem dX11_mostFrom_1 : decode cX11_mostFrom 1 = .ok (.istore_n 3, 1) := by decide +kernel
theorem dX11_mostFrom_2 : decode cX11_mostFrom 2 = .ok (.iconst 0, 1) := by decide +kernel
theorem dX11_mostFrom_3 : decode cX11_mostFrom 3 = .ok (.istore 4, 2) := by decide +kernel
theorem dX11_mostFrom_5 : decode cX11_mostFrom 5 = .ok (.iload 4, 2) := by decide +kernel
theorem dX11_mostFrom_7 : decode cX11_mostFrom 7 = .ok (.bipush 64, 2) := by decide +kernel
theorem dX11_mostFrom_9 : decode cX11_mostFrom 9 = .ok (.if_icmp .ge 26, 3) := by decide +kernel
theorem dX11_mostFrom_12 : decode cX11_mostFrom 12 = .ok (.aload_n 0, 1) := by decide +kernel
theorem dX11_mostFrom_13 : decode cX11_mostFrom 13 = .ok (.getfield 32, 3) := by decide +kernel
theorem dX11_mostFrom_16 : decode cX11_mostFrom 16 = .ok (.iload 4, 2) := by decide +kernel
theorem dX11_mostFrom_18 : decode cX11_mostFrom 18 = .ok (.iload 4, 2) := by decide +kernel
theorem dX11_mostFrom_20 : decode cX11_mostFrom 20 = .ok (.ifCond .ne 7, 3) := by decide +kernel
theorem dX11_mostFrom_23 : decode cX11_mostFrom 23 = .ok (.iconst 1, 1) := by decide +kernel
theorem dX11_mostFrom_24 : decode cX11_mostFrom 24 = .ok (.goto 4, 3) := by decide +kernel
theorem dX11_mostFrom_27 : decode cX11_mostFrom 27 = .ok (.iconst 0, 1) := by decide +kernel
theorem dX11_mostFrom_28 : decode cX11_mostFrom 28 = .ok (.bastore, 1) := by decide +kernel
theorem dX11_mostFrom_29 : decode cX11_mostFrom 29 = .ok (.iinc 4 1, 3) := by decide +kernel
theorem dX11_mostFrom_32 : decode cX11_mostFrom 32 = .ok (.goto (-27), 3) := by decide +kernel
theorem dX11_mostFrom_35 : decode cX11_mostFrom 35 = .ok (.iload_n 1, 1) := by decide +kernel
theorem dX11_mostFrom_36 : decode cX11_mostFrom 36 = .ok (.istore 4, 2) := by decide +kernel
theorem dX11_mostFrom_38 : decode cX11_mostFrom 38 = .ok (.iload 4, 2) := by decide +kernel
theorem dX11_mostFrom_40 : decode cX11_mostFrom 40 = .ok (.aload_n 0, 1) := by decide +kernel
theorem dX11_mostFrom_41 : decode cX11_mostFrom 41 = .ok (.getfield 7, 3) := by decide +kernel
theorem dX11_mostFrom_44 : decode cX11_mostFrom 44 = .ok (.bipush 46, 2) := by decide +kernel
theorem dX11_mostFrom_46 : decode cX11_mostFrom 46 = .ok (.iaload, 1) := by decide +kernel
theorem dX11_mostFrom_47 : decode cX11_mostFrom 47 = .ok (.if_icmp .ge 25, 3) := by decide +kernel
theorem dX11_mostFrom_50 : decode cX11_mostFrom 50 = .ok (.iload_n 3, 1) := by decide +kernel
theorem dX11_mostFrom_51 : decode cX11_mostFrom 51 = .ok (.aload_n 0, 1) := by decide +kernel
theorem dX11_mostFrom_52 : decode cX11_mostFrom 52 = .ok (.getfield 29, 3) := by decide +kernel
theorem dX11_mostFrom_55 : decode cX11_mostFrom 55 = .ok (.iload 4, 2) := by decide +kernel
theorem dX11_mostFrom_57 : decode cX11_mostFrom 57 = .ok (.baload, 1) := by decide +kernel
theorem dX11_mostFrom_58 : decode cX11_mostFrom 58 = .ok (.invokestatic 208, 3) := by decide +kernel
theorem dX11_mostFrom_61 : decode cX11_mostFrom 61 = .ok (.iload 4, 2) := by decide +kernel
theorem dX11_mostFrom_63 : decode cX11_mostFrom 63 = .ok (.ishl, 1) := by decide +kernel
theorem dX11_mostFrom_64 : decode cX11_mostFrom 64 = .ok (.ior, 1) := by decide +kernel
theorem dX11_mostFrom_65 : decode cX11_mostFrom 65 = .ok (.istore_n 3, 1) := by decide +kernel
theorem dX11_mostFrom_66 : decode cX11_mostFrom 66 = .ok (.iinc 4 1, 3) := by decide +kernel
theorem dX11_mostFrom_69 : decode cX11_mostFrom 69 = .ok (.goto (-31), 3) := by decide +kernel
theorem dX11_mostFrom_72 : decode cX11_mostFrom 72 = .ok (.iconst 0, 1) := by decide +kernel
theorem dX11_mostFrom_73 : decode cX11_mostFrom 73 = .ok (.istore 4, 2) := by decide +kernel
theorem dX11_mostFrom_75 : decode cX11_mostFrom 75 = .ok (.iload 4, 2) := by decide +kernel
theorem dX11_mostFrom_77 : decode cX11_mostFrom 77 = .ok (.iconst 3, 1) := by decide +kernel
theorem dX11_mostFrom_78 : decode cX11_mostFrom 78 = .ok (.aload_n 0, 1) := by decide +kernel
theorem dX11_mostFrom_79 : decode cX11_mostFrom 79 = .ok (.getfield 73, 3) := by decide +kernel
theorem dX11_mostFrom_82 : decode cX11_mostFrom 82 = .ok (.imul, 1) := by decide +kernel
theorem dX11_mostFrom_83 : decode cX11_mostFrom 83 = .ok (.if_icmp .ge 120, 3) := by decide +kernel
theorem dX11_mostFrom_86 : decode cX11_mostFrom 86 = .ok (.bipush 63, 2) := by decide +kernel
theorem dX11_mostFrom_88 : decode cX11_mostFrom 88 = .ok (.istore 5, 2) := by decide +kernel
theorem dX11_mostFrom_90 : decode cX11_mostFrom 90 = .ok (.iload 5, 2) := by decide +kernel
theorem dX11_mostFrom_92 : decode cX11_mostFrom 92 = .ok (.ifCond .lt 105, 3) := by decide +kernel
theorem dX11_mostFrom_95 : decode cX11_mostFrom 95 = .ok (.iload_n 2, 1) := by decide +kernel
theorem dX11_mostFrom_96 : decode cX11_mostFrom 96 = .ok (.iload 4, 2) := by decide +kernel
theorem dX11_mostFrom_98 : decode cX11_mostFrom 98 = .ok (.ishr, 1) := by decide +kernel
theorem dX11_mostFrom_99 : decode cX11_mostFrom 99 = .ok (.iconst 1, 1) := by decide +kernel
theorem dX11_mostFrom_100 : decode cX11_mostFrom 100 = .ok (.iand, 1) := by decide +kernel
theorem dX11_mostFrom_101 : decode cX11_mostFrom 101 = .ok (.ifCond .ne 96, 3) := by decide +kernel
theorem dX11_mostFrom_104 : decode cX11_mostFrom 104 = .ok (.iload_n 1, 1) := by decide +kernel
theorem dX11_mostFrom_105 : decode cX11_mostFrom 105 = .ok (.istore 6, 2) := by decide +kernel
theorem dX11_mostFrom_107 : decode cX11_mostFrom 107 = .ok (.iload 6, 2) := by decide +kernel
theorem dX11_mostFrom_109 : decode cX11_mostFrom 109 = .ok (.aload_n 0, 1) := by decide +kernel
theorem dX11_mostFrom_110 : decode cX11_mostFrom 110 = .ok (.getfield 7, 3) := by decide +kernel
theorem dX11_mostFrom_113 : decode cX11_mostFrom 113 = .ok (.bipush 46, 2) := by decide +kernel
theorem dX11_mostFrom_115 : decode cX11_mostFrom 115 = .ok (.iaload, 1) := by decide +kernel
theorem dX11_mostFrom_116 : decode cX11_mostFrom 116 = .ok (.if_icmp .ge 75, 3) := by decide +kernel
theorem dX11_mostFrom_119 : decode cX11_mostFrom 119 = .ok (.aload_n 0, 1) := by decide +kernel
theorem dX11_mostFrom_120 : decode cX11_mostFrom 120 = .ok (.getfield 32, 3) := by decide +kernel
theorem dX11_mostFrom_123 : decode cX11_mostFrom 123 = .ok (.iload 5, 2) := by decide +kernel
theorem dX11_mostFrom_125 : decode cX11_mostFrom 125 = .ok (.baload, 1) := by decide +kernel
theorem dX11_mostFrom_126 : decode cX11_mostFrom 126 = .ok (.ifCond .eq 65, 3) := by decide +kernel
theorem dX11_mostFrom_129 : decode cX11_mostFrom 129 = .ok (.iload 5, 2) := by decide +kernel
theorem dX11_mostFrom_131 : decode cX11_mostFrom 131 = .ok (.iload 6, 2) := by decide +kernel
theorem dX11_mostFrom_133 : decode cX11_mostFrom 133 = .ok (.ishr, 1) := by decide +kernel
theorem dX11_mostFrom_134 : decode cX11_mostFrom 134 = .ok (.iconst 1, 1) := by decide +kernel
theorem dX11_mostFrom_135 : decode cX11_mostFrom 135 = .ok (.iand, 1) := by decide +kernel
theorem dX11_mostFrom_136 : decode cX11_mostFrom 136 = .ok (.ifCond .ne 23, 3) := by decide +kernel
theorem dX11_mostFrom_139 : decode cX11_mostFrom 139 = .ok (.aload_n 0, 1) := by decide +kernel
theorem dX11_mostFrom_140 : decode cX11_mostFrom 140 = .ok (.getfield 26, 3) := by decide +kernel
theorem dX11_mostFrom_143 : decode cX11_mostFrom 143 = .ok (.iload 6, 2) := by decide +kernel
theorem dX11_mostFrom_145 : decode cX11_mostFrom 145 = .ok (.iaload, 1) := by decide +kernel
theorem dX11_mostFrom_146 : decode cX11_mostFrom 146 = .ok (.iload 4, 2) := by decide +kernel
theorem dX11_mostFrom_148 : decode cX11_mostFrom 148 = .ok (.ishr, 1) := by decide +kernel
theorem dX11_mostFrom_149 : decode cX11_mostFrom 149 = .ok (.iconst 1, 1) := by decide +kernel
theorem dX11_mostFrom_150 : decode cX11_mostFrom 150 = .ok (.iand, 1) := by decide +kernel
theorem dX11_mostFrom_151 : decode cX11_mostFrom 151 = .ok (.iconst 1, 1) := by decide +kernel
theorem dX11_mostFrom_152 : decode cX11_mostFrom 152 = .ok (.if_icmp .ne 7, 3) := by decide +kernel
theorem dX11_mostFrom_155 : decode cX11_mostFrom 155 = .ok (.iconst 1, 1) := by decide +kernel
theorem dX11_mostFrom_156 : decode cX11_mostFrom 156 = .ok (.goto 4, 3) := by decide +kernel
theorem dX11_mostFrom_159 : decode cX11_mostFrom 159 = .ok (.iconst 0, 1) := by decide +kernel
theorem dX11_mostFrom_160 : decode cX11_mostFrom 160 = .ok (.istore 7, 2) := by decide +kernel
theorem dX11_mostFrom_162 : decode cX11_mostFrom 162 = .ok (.aload_n 0, 1) := by decide +kernel
theorem dX11_mostFrom_163 : decode cX11_mostFrom 163 = .ok (.getfield 32, 3) := by decide +kernel
theorem dX11_mostFrom_166 : decode cX11_mostFrom 166 = .ok (.iload 7, 2) := by decide +kernel
theorem dX11_mostFrom_168 : decode cX11_mostFrom 168 = .ok (.ifCond .eq 13, 3) := by decide +kernel
theorem dX11_mostFrom_171 : decode cX11_mostFrom 171 = .ok (.iload 5, 2) := by decide +kernel
theorem dX11_mostFrom_173 : decode cX11_mostFrom 173 = .ok (.iconst 1, 1) := by decide +kernel
theorem dX11_mostFrom_174 : decode cX11_mostFrom 174 = .ok (.iload 6, 2) := by decide +kernel
theorem dX11_mostFrom_176 : decode cX11_mostFrom 176 = .ok (.ishl, 1) := by decide +kernel
theorem dX11_mostFrom_177 : decode cX11_mostFrom 177 = .ok (.ior, 1) := by decide +kernel
theorem dX11_mostFrom_178 : decode cX11_mostFrom 178 = .ok (.goto 5, 3) := by decide +kernel
theorem dX11_mostFrom_181 : decode cX11_mostFrom 181 = .ok (.iload 5, 2) := by decide +kernel
theorem dX11_mostFrom_183 : decode cX11_mostFrom 183 = .ok (.iconst 1, 1) := by decide +kernel
theorem dX11_mostFrom_184 : decode cX11_mostFrom 184 = .ok (.bastore, 1) := by decide +kernel
theorem dX11_mostFrom_185 : decode cX11_mostFrom 185 = .ok (.iinc 6 1, 3) := by decide +kernel
theorem dX11_mostFrom_188 : decode cX11_mostFrom 188 = .ok (.goto (-81), 3) := by decide +kernel
theorem dX11_mostFrom_191 : decode cX11_mostFrom 191 = .ok (.iinc 5 (-1), 3) := by decide +kernel
theorem dX11_mostFrom_194 : decode cX11_mostFrom 194 = .ok (.goto (-104), 3) := by decide +kernel
theorem dX11_mostFrom_197 : decode cX11_mostFrom 197 = .ok (.iinc 4 1, 3) := by decide +kernel
theorem dX11_mostFrom_200 : decode cX11_mostFrom 200 = .ok (.goto (-125), 3) := by decide +kernel
theorem dX11_mostFrom_203 : decode cX11_mostFrom 203 = .ok (.iconst 0, 1) := by decide +kernel
theorem dX11_mostFrom_204 : decode cX11_mostFrom 204 = .ok (.istore 4, 2) := by decide +kernel
theorem dX11_mostFrom_206 : decode cX11_mostFrom 206 = .ok (.iconst 0, 1) := by decide +kernel
theorem dX11_mostFrom_207 : decode cX11_mostFrom 207 = .ok (.istore 5, 2) := by decide +kernel
theorem dX11_mostFrom_209 : decode cX11_mostFrom 209 = .ok (.iload 5, 2) := by decide +kernel
theorem dX11_mostFrom_211 : decode cX11_mostFrom 211 = .ok (.bipush 64, 2) := by decide +kernel
theorem dX11_mostFrom_213 : decode cX11_mostFrom 213 = .ok (.if_icmp .ge 48, 3) := by decide +kernel
theorem dX11_mostFrom_216 : decode cX11_mostFrom 216 = .ok (.aload_n 0, 1) := by decide +kernel
theorem dX11_mostFrom_217 : decode cX11_mostFrom 217 = .ok (.getfield 32, 3) := by decide +kernel
theorem dX11_mostFrom_220 : decode cX11_mostFrom 220 = .ok (.iload 5, 2) := by decide +kernel
theorem dX11_mostFrom_222 : decode cX11_mostFrom 222 = .ok (.baload, 1) := by decide +kernel
theorem dX11_mostFrom_223 : decode cX11_mostFrom 223 = .ok (.ifCond .eq 13, 3) := by decide +kernel
theorem dX11_mostFrom_226 : decode cX11_mostFrom 226 = .ok (.iload 5, 2) := by decide +kernel
theorem dX11_mostFrom_228 : decode cX11_mostFrom 228 = .ok (.iload_n 3, 1) := by decide +kernel
theorem dX11_mostFrom_229 : decode cX11_mostFrom 229 = .ok (.ior, 1) := by decide +kernel
theorem dX11_mostFrom_230 : decode cX11_mostFrom 230 = .ok (.invokestatic 244, 3) := by decide +kernel
theorem dX11_mostFrom_233 : decode cX11_mostFrom 233 = .ok (.goto 4, 3) := by decide +kernel
theorem dX11_mostFrom_236 : decode cX11_mostFrom 236 = .ok (.iconst 0, 1) := by decide +kernel
theorem dX11_mostFrom_237 : decode cX11_mostFrom 237 = .ok (.istore 6, 2) := by decide +kernel
theorem dX11_mostFrom_239 : decode cX11_mostFrom 239 = .ok (.iload 6, 2) := by decide +kernel
theorem dX11_mostFrom_241 : decode cX11_mostFrom 241 = .ok (.iload 4, 2) := by decide +kernel
theorem dX11_mostFrom_243 : decode cX11_mostFrom 243 = .ok (.if_icmp .le 8, 3) := by decide +kernel
theorem dX11_mostFrom_246 : decode cX11_mostFrom 246 = .ok (.iload 6, 2) := by decide +kernel
theorem dX11_mostFrom_248 : decode cX11_mostFrom 248 = .ok (.goto 5, 3) := by decide +kernel
theorem dX11_mostFrom_251 : decode cX11_mostFrom 251 = .ok (.iload 4, 2) := by decide +kernel
theorem dX11_mostFrom_253 : decode cX11_mostFrom 253 = .ok (.istore 4, 2) := by decide +kernel
theorem dX11_mostFrom_255 : decode cX11_mostFrom 255 = .ok (.iinc 5 1, 3) := by decide +kernel
theorem dX11_mostFrom_258 : decode cX11_mostFrom 258 = .ok (.goto (-49), 3) := by decide +kernel
theorem dX11_mostFrom_261 : decode cX11_mostFrom 261 = .ok (.iload 4, 2) := by decide +kernel
theorem dX11_mostFrom_263 : decode cX11_mostFrom 263 = .ok (.ireturn, 1) := by decide +kernel
theorem dX11_placeOf_0 : decode cX11_placeOf 0 = .ok (.iconst 0, 1) := by decide +kernel
theorem dX11_placeOf_1 : decode cX11_placeOf 1 = .ok (.istore 4, 2) := by decide +kernel
theorem dX11_placeOf_3 : decode cX11_placeOf 3 = .ok (.iload 4, 2) := by decide +kernel
theorem dX11_placeOf_5 : decode cX11_placeOf 5 = .ok (.iconst 3, 1) := by decide +kernel
theorem dX11_placeOf_6 : decode cX11_placeOf 6 = .ok (.aload_n 0, 1) := by decide +kernel
theorem dX11_placeOf_7 : decode cX11_placeOf 7 = .ok (.getfield 73, 3) := by decide +kernel
theorem dX11_placeOf_10 : decode cX11_placeOf 10 = .ok (.imul, 1) := by decide +kernel
theorem dX11_placeOf_11 : decode cX11_placeOf 11 = .ok (.if_icmp .ge 62, 3) := by decide +kernel
theorem dX11_placeOf_14 : decode cX11_placeOf 14 = .ok (.iload_n 2, 1) := by decide +kernel
theorem dX11_placeOf_15 : decode cX11_placeOf 15 = .ok (.iload 4, 2) := by decide +kernel
theorem dX11_placeOf_17 : decode cX11_placeOf 17 = .ok (.ishr, 1) := by decide +kernel
theorem dX11_placeOf_18 : decode cX11_placeOf 18 = .ok (.iconst 1, 1) := by decide +kernel
theorem dX11_placeOf_19 : decode cX11_placeOf 19 = .ok (.iand, 1) := by decide +kernel
theorem dX11_placeOf_20 : decode cX11_placeOf 20 = .ok (.ifCond .ne 7, 3) := by decide +kernel
theorem dX11_placeOf_23 : decode cX11_placeOf 23 = .ok (.iconst 1, 1) := by decide +kernel
theorem dX11_placeOf_24 : decode cX11_placeOf 24 = .ok (.goto 4, 3) := by decide +kernel
theorem dX11_placeOf_27 : decode cX11_placeOf 27 = .ok (.iconst 0, 1) := by decide +kernel
theorem dX11_placeOf_28 : decode cX11_placeOf 28 = .ok (.istore 5, 2) := by decide +kernel
theorem dX11_placeOf_30 : decode cX11_placeOf 30 = .ok (.iload 5, 2) := by decide +kernel
theorem dX11_placeOf_32 : decode cX11_placeOf 32 = .ok (.ifCond .eq 35, 3) := by decide +kernel
theorem dX11_placeOf_35 : decode cX11_placeOf 35 = .ok (.aload_n 0, 1) := by decide +kernel
theorem dX11_placeOf_36 : decode cX11_placeOf 36 = .ok (.getfield 26, 3) := by decide +kernel
theorem dX11_placeOf_39 : decode cX11_placeOf 39 = .ok (.iload_n 1, 1) := by decide +kernel
theorem dX11_placeOf_40 : decode cX11_placeOf 40 = .ok (.iaload, 1) := by decide +kernel
theorem dX11_placeOf_41 : decode cX11_placeOf 41 = .ok (.iload 4, 2) := by decide +kernel
theorem dX11_placeOf_43 : decode cX11_placeOf 43 = .ok (.ishr, 1) := by decide +kernel
theorem dX11_placeOf_44 : decode cX11_placeOf 44 = .ok (.iconst 1, 1) := by decide +kernel
theorem dX11_placeOf_45 : decode cX11_placeOf 45 = .ok (.iand, 1) := by decide +kernel
theorem dX11_placeOf_46 : decode cX11_placeOf 46 = .ok (.aload_n 0, 1) := by decide +kernel
theorem dX11_placeOf_47 : decode cX11_placeOf 47 = .ok (.iload_n 1, 1) := by decide +kernel
theorem dX11_placeOf_48 : decode cX11_placeOf 48 = .ok (.iconst 1, 1) := by decide +kernel
theorem dX11_placeOf_49 : decode cX11_placeOf 49 = .ok (.iadd, 1) := by decide +kernel
theorem dX11_placeOf_50 : decode cX11_placeOf 50 = .ok (.iload_n 2, 1) := by decide +kernel
theorem dX11_placeOf_51 : decode cX11_placeOf 51 = .ok (.iconst 1, 1) := by decide +kernel
theorem dX11_placeOf_52 : decode cX11_placeOf 52 = .ok (.iload 4, 2) := by decide +kernel
theorem dX11_placeOf_54 : decode cX11_placeOf 54 = .ok (.ishl, 1) := by decide +kernel
theorem dX11_placeOf_55 : decode cX11_placeOf 55 = .ok (.ior, 1) := by decide +kernel
theorem dX11_placeOf_56 : decode cX11_placeOf 56 = .ok (.invokevirtual 247, 3) := by decide +kernel
theorem dX11_placeOf_59 : decode cX11_placeOf 59 = .ok (.iadd, 1) := by decide +kernel
theorem dX11_placeOf_60 : decode cX11_placeOf 60 = .ok (.iload_n 3, 1) := by decide +kernel
theorem dX11_placeOf_61 : decode cX11_placeOf 61 = .ok (.if_icmp .ne 6, 3) := by decide +kernel
theorem dX11_placeOf_64 : decode cX11_placeOf 64 = .ok (.iload 4, 2) := by decide +kernel
theorem dX11_placeOf_66 : decode cX11_placeOf 66 = .ok (.ireturn, 1) := by decide +kernel
theorem dX11_placeOf_67 : decode cX11_placeOf 67 = .ok (.iinc 4 1, 3) := by decide +kernel
theorem dX11_placeOf_70 : decode cX11_placeOf 70 = .ok (.goto (-67), 3) := by decide +kernel
theorem dX11_placeOf_73 : decode cX11_placeOf 73 = .ok (.bipush (-4), 2) := by decide +kernel
theorem dX11_placeOf_75 : decode cX11_placeOf 75 = .ok (.ireturn, 1) := by decide +kernel
theorem dX11_places_0 : decode cX11_places 0 = .ok (.iload_n 1, 1) := by decide +kernel
theorem dX11_places_1 : decode cX11_places 1 = .ok (.i2l, 1) := by decide +kernel
theorem dX11_places_2 : decode cX11_places 2 = .ok (.lconst 0, 1) := by decide +kernel
theorem dX11_places_3 : decode cX11_places 3 = .ok (.ldc2_w 250, 3) := by decide +kernel
theorem dX11_places_6 : decode cX11_places 6 = .ok (.invokestatic 78, 3) := by decide +kernel
theorem dX11_places_9 : decode cX11_places 9 = .ok (.ifCond .eq 18, 3) := by decide +kernel
theorem dX11_places_12 : decode cX11_places 12 = .ok (.iload_n 2, 1) := by decide +kernel
theorem dX11_places_13 : decode cX11_places 13 = .ok (.ifCond .eq 16, 3) := by decide +kernel
theorem dX11_places_16 : decode cX11_places 16 = .ok (.aload_n 0, 1) := by decide +kernel
theorem dX11_places_17 : decode cX11_places 17 = .ok (.iload_n 2, 1) := by decide +kernel
theorem dX11_places_18 : decode cX11_places 18 = .ok (.bipush 10, 2) := by decide +kernel
theorem dX11_places_20 : decode cX11_places 20 = .ok (.isub, 1) := by decide +kernel
theorem dX11_places_21 : decode cX11_places 21 = .ok (.invokevirtual 217, 3) := by decide +kernel
theorem dX11_places_24 : decode cX11_places 24 = .ok (.ifCond .ne 5, 3) := by decide +kernel
theorem dX11_places_27 : decode cX11_places 27 = .ok (.iconst (-1), 1) := by decide +kernel
theorem dX11_places_28 : decode cX11_places 28 = .ok (.ireturn, 1) := by decide +kernel
theorem dX11_places_29 : decode cX11_places 29 = .ok (.aload_n 0, 1) := by decide +kernel
theorem dX11_places_30 : decode cX11_places 30 = .ok (.iload_n 1, 1) := by decide +kernel
theorem dX11_places_31 : decode cX11_places 31 = .ok (.invokevirtual 252, 3) := by decide +kernel
theorem dX11_places_34 : decode cX11_places 34 = .ok (.aload_n 0, 1) := by decide +kernel
theorem dX11_places_35 : decode cX11_places 35 = .ok (.iconst 0, 1) := by decide +kernel
theorem dX11_places_36 : decode cX11_places 36 = .ok (.iconst 0, 1) := by decide +kernel
theorem dX11_places_37 : decode cX11_places 37 = .ok (.invokevirtual 247, 3) := by decide +kernel
theorem dX11_places_40 : decode cX11_places 40 = .ok (.istore_n 3, 1) := by decide +kernel
theorem dX11_places_41 : decode cX11_places 41 = .ok (.iconst 0, 1) := by decide +kernel
theorem dX11_places_42 : decode cX11_places 42 = .ok (.istore 4, 2) := by decide +kernel
theorem dX11_places_44 : decode cX11_places 44 = .ok (.bipush (-4), 2) := by decide +kernel
theorem dX11_places_46 : decode cX11_places 46 = .ok (.istore 5, 2) := by decide +kernel
theorem dX11_places_48 : decode cX11_places 48 = .ok (.iload_n 2, 1) := by decide +kernel
theorem dX11_places_49 : decode cX11_places 49 = .ok (.ifCond .ne 5, 3) := by decide +kernel
theorem dX11_places_52 : decode cX11_places 52 = .ok (.iload_n 3, 1) := by decide +kernel
theorem dX11_places_53 : decode cX11_places 53 = .ok (.ireturn, 1) := by decide +kernel
theorem dX11_places_54 : decode cX11_places 54 = .ok (.iconst 0, 1) := by decide +kernel
theorem dX11_places_55 : decode cX11_places 55 = .ok (.istore 6, 2) := by decide +kernel
theorem dX11_places_57 : decode cX11_places 57 = .ok (.iload 6, 2) := by decide +kernel
theorem dX11_places_59 : decode cX11_places 59 = .ok (.iload_n 2, 1) := by decide +kernel
theorem dX11_places_60 : decode cX11_places 60 = .ok (.bipush 10, 2) := by decide +kernel
theorem dX11_places_62 : decode cX11_places 62 = .ok (.isub, 1) := by decide +kernel
theorem dX11_places_63 : decode cX11_places 63 = .ok (.if_icmp .gt 75, 3) := by decide +kernel
theorem dX11_places_66 : decode cX11_places 66 = .ok (.aload_n 0, 1) := by decide +kernel
theorem dX11_places_67 : decode cX11_places 67 = .ok (.iload 6, 2) := by decide +kernel
theorem dX11_places_69 : decode cX11_places 69 = .ok (.iload 4, 2) := by decide +kernel
theorem dX11_places_71 : decode cX11_places 71 = .ok (.iload_n 3, 1) := by decide +kernel
theorem dX11_places_72 : decode cX11_places 72 = .ok (.invokevirtual 255, 3) := by decide +kernel
theorem dX11_places_75 : decode cX11_places 75 = .ok (.istore 5, 2) := by decide +kernel
theorem dX11_places_77 : decode cX11_places 77 = .ok (.iload_n 3, 1) := by decide +kernel
theorem dX11_places_78 : decode cX11_places 78 = .ok (.iload 5, 2) := by decide +kernel
theorem dX11_places_80 : decode cX11_places 80 = .ok (.bipush (-4), 2) := by decide +kernel
theorem dX11_places_82 : decode cX11_places 82 = .ok (.if_icmp .ne 16, 3) := by decide +kernel
theorem dX11_places_85 : decode cX11_places 85 = .ok (.aload_n 0, 1) := by decide +kernel
theorem dX11_places_86 : decode cX11_places 86 = .ok (.getfield 29, 3) := by decide +kernel
theorem dX11_places_89 : decode cX11_places 89 = .ok (.iload 6, 2) := by decide +kernel
theorem dX11_places_91 : decode cX11_places 91 = .ok (.baload, 1) := by decide +kernel
theorem dX11_places_92 : decode cX11_places 92 = .ok (.invokestatic 208, 3) := by decide +kernel
theorem dX11_places_95 : decode cX11_places 95 = .ok (.goto 15, 3) := by decide +kernel
theorem dX11_places_98 : decode cX11_places 98 = .ok (.aload_n 0, 1) := by decide +kernel
theorem dX11_places_99 : decode cX11_places 99 = .ok (.getfield 26, 3) := by decide +kernel
theorem dX11_places_102 : decode cX11_places 102 = .ok (.iload 6, 2) := by decide +kernel
theorem dX11_places_104 : decode cX11_places 104 = .ok (.iaload, 1) := by decide +kernel
theorem dX11_places_105 : decode cX11_places 105 = .ok (.iload 5, 2) := by decide +kernel
theorem dX11_places_107 : decode cX11_places 107 = .ok (.ishr, 1) := by decide +kernel
theorem dX11_places_108 : decode cX11_places 108 = .ok (.iconst 1, 1) := by decide +kernel
theorem dX11_places_109 : decode cX11_places 109 = .ok (.iand, 1) := by decide +kernel
theorem dX11_places_110 : decode cX11_places 110 = .ok (.isub, 1) := by decide +kernel
theorem dX11_places_111 : decode cX11_places 111 = .ok (.istore_n 3, 1) := by decide +kernel
theorem dX11_places_112 : decode cX11_places 112 = .ok (.iload 4, 2) := by decide +kernel
theorem dX11_places_114 : decode cX11_places 114 = .ok (.iload 5, 2) := by decide +kernel
theorem dX11_places_116 : decode cX11_places 116 = .ok (.bipush (-4), 2) := by decide +kernel
theorem dX11_places_118 : decode cX11_places 118 = .ok (.if_icmp .ne 7, 3) := by decide +kernel
theorem dX11_places_121 : decode cX11_places 121 = .ok (.iconst 0, 1) := by decide +kernel
theorem dX11_places_122 : decode cX11_places 122 = .ok (.goto 7, 3) := by decide +kernel
theorem dX11_places_125 : decode cX11_places 125 = .ok (.iconst 1, 1) := by decide +kernel
theorem dX11_places_126 : decode cX11_places 126 = .ok (.iload 5, 2) := by decide +kernel
theorem dX11_places_128 : decode cX11_places 128 = .ok (.ishl, 1) := by decide +kernel
theorem dX11_places_129 : decode cX11_places 129 = .ok (.ior, 1) := by decide +kernel
theorem dX11_places_130 : decode cX11_places 130 = .ok (.istore 4, 2) := by decide +kernel
theorem dX11_places_132 : decode cX11_places 132 = .ok (.iinc 6 1, 3) := by decide +kernel
theorem dX11_places_135 : decode cX11_places 135 = .ok (.goto (-78), 3) := by decide +kernel
theorem dX11_places_138 : decode cX11_places 138 = .ok (.iload 5, 2) := by decide +kernel
theorem dX11_places_140 : decode cX11_places 140 = .ok (.ireturn, 1) := by decide +kernel
theorem dX11_flip_0 : decode cX11_flip 0 = .ok (.aload_n 0, 1) := by decide +kernel
theorem dX11_flip_1 : decode cX11_flip 1 = .ok (.iload_n 1, 1) := by decide +kernel
theorem dX11_flip_2 : decode cX11_flip 2 = .ok (.invokevirtual 217, 3) := by decide +kernel
theorem dX11_flip_5 : decode cX11_flip 5 = .ok (.ifCond .eq 15, 3) := by decide +kernel
theorem dX11_flip_8 : decode cX11_flip 8 = .ok (.iload_n 2, 1) := by decide +kernel
theorem dX11_flip_9 : decode cX11_flip 9 = .ok (.i2l, 1) := by decide +kernel
theorem dX11_flip_10 : decode cX11_flip 10 = .ok (.lconst 1, 1) := by decide +kernel
theorem dX11_flip_11 : decode cX11_flip 11 = .ok (.ldc2_w 250, 3) := by decide +kernel
theorem dX11_flip_14 : decode cX11_flip 14 = .ok (.invokestatic 78, 3) := by decide +kernel
theorem dX11_flip_17 : decode cX11_flip 17 = .ok (.ifCond .ne 5, 3) := by decide +kernel
theorem dX11_flip_20 : decode cX11_flip 20 = .ok (.iconst (-1), 1) := by decide +kernel
theorem dX11_flip_21 : decode cX11_flip 21 = .ok (.ireturn, 1) := by decide +kernel
theorem dX11_flip_22 : decode cX11_flip 22 = .ok (.iconst 0, 1) := by decide +kernel
theorem dX11_flip_23 : decode cX11_flip 23 = .ok (.istore_n 3, 1) := by decide +kernel
theorem dX11_flip_24 : decode cX11_flip 24 = .ok (.iload_n 3, 1) := by decide +kernel
theorem dX11_flip_25 : decode cX11_flip 25 = .ok (.iload_n 2, 1) := by decide +kernel
theorem dX11_flip_26 : decode cX11_flip 26 = .ok (.if_icmp .ge 51, 3) := by decide +kernel
theorem dX11_flip_29 : decode cX11_flip 29 = .ok (.aload_n 0, 1) := by decide +kernel
theorem dX11_flip_30 : decode cX11_flip 30 = .ok (.invokevirtual 222, 3) := by decide +kernel
theorem dX11_flip_33 : decode cX11_flip 33 = .ok (.aload_n 0, 1) := by decide +kernel
theorem dX11_flip_34 : decode cX11_flip 34 = .ok (.iload_n 3, 1) := by decide +kernel
theorem dX11_flip_35 : decode cX11_flip 35 = .ok (.invokevirtual 238, 3) := by decide +kernel
theorem dX11_flip_38 : decode cX11_flip 38 = .ok (.aload_n 0, 1) := by decide +kernel
theorem dX11_flip_39 : decode cX11_flip 39 = .ok (.iload_n 1, 1) := by decide +kernel
theorem dX11_flip_40 : decode cX11_flip 40 = .ok (.bipush 6, 2) := by decide +kernel
theorem dX11_flip_42 : decode cX11_flip 42 = .ok (.iconst 1, 1) := by decide +kernel
theorem dX11_flip_43 : decode cX11_flip 43 = .ok (.aload_n 0, 1) := by decide +kernel
theorem dX11_flip_44 : decode cX11_flip 44 = .ok (.iload_n 1, 1) := by decide +kernel
theorem dX11_flip_45 : decode cX11_flip 45 = .ok (.bipush 6, 2) := by decide +kernel
theorem dX11_flip_47 : decode cX11_flip 47 = .ok (.invokevirtual 173, 3) := by decide +kernel
theorem dX11_flip_50 : decode cX11_flip 50 = .ok (.isub, 1) := by decide +kernel
theorem dX11_flip_51 : decode cX11_flip 51 = .ok (.invokevirtual 179, 3) := by decide +kernel
theorem dX11_flip_54 : decode cX11_flip 54 = .ok (.aload_n 0, 1) := by decide +kernel
theorem dX11_flip_55 : decode cX11_flip 55 = .ok (.iload_n 2, 1) := by decide +kernel
theorem dX11_flip_56 : decode cX11_flip 56 = .ok (.iload_n 3, 1) := by decide +kernel
theorem dX11_flip_57 : decode cX11_flip 57 = .ok (.isub, 1) := by decide +kernel
theorem dX11_flip_58 : decode cX11_flip 58 = .ok (.invokevirtual 238, 3) := by decide +kernel
theorem dX11_flip_61 : decode cX11_flip 61 = .ok (.aload_n 0, 1) := by decide +kernel
theorem dX11_flip_62 : decode cX11_flip 62 = .ok (.iload_n 1, 1) := by decide +kernel
theorem dX11_flip_63 : decode cX11_flip 63 = .ok (.invokevirtual 205, 3) := by decide +kernel
theorem dX11_flip_66 : decode cX11_flip 66 = .ok (.ifCond .eq 5, 3) := by decide +kernel
theorem dX11_flip_69 : decode cX11_flip 69 = .ok (.iload_n 3, 1) := by decide +kernel
theorem dX11_flip_70 : decode cX11_flip 70 = .ok (.ireturn, 1) := by decide +kernel
theorem dX11_flip_71 : decode cX11_flip 71 = .ok (.iinc 3 1, 3) := by decide +kernel
theorem dX11_flip_74 : decode cX11_flip 74 = .ok (.goto (-50), 3) := by decide +kernel
theorem dX11_flip_77 : decode cX11_flip 77 = .ok (.bipush (-4), 2) := by decide +kernel
theorem dX11_flip_79 : decode cX11_flip 79 = .ok (.ireturn, 1) := by decide +kernel
theorem dX11_least_0 : decode cX11_least 0 = .ok (.aload_n 0, 1) := by decide +kernel
theorem dX11_least_1 : decode cX11_least 1 = .ok (.iload_n 1, 1) := by decide +kernel
theorem dX11_least_2 : decode cX11_least 2 = .ok (.invokevirtual 217, 3) := by decide +kernel
theorem dX11_least_5 : decode cX11_least 5 = .ok (.ifCond .eq 15, 3) := by decide +kernel
theorem dX11_least_8 : decode cX11_least 8 = .ok (.iload_n 2, 1) := by decide +kernel
theorem dX11_least_9 : decode cX11_least 9 = .ok (.i2l, 1) := by decide +kernel
theorem dX11_least_10 : decode cX11_least 10 = .ok (.lconst 1, 1) := by decide +kernel
theorem dX11_least_11 : decode cX11_least 11 = .ok (.ldc2_w 250, 3) := by decide +kernel
theorem dX11_least_14 : decode cX11_least 14 = .ok (.invokestatic 78, 3) := by decide +kernel
theorem dX11_least_17 : decode cX11_least 17 = .ok (.ifCond .ne 5, 3) := by decide +kernel
theorem dX11_least_20 : decode cX11_least 20 = .ok (.iconst (-1), 1) := by decide +kernel
theorem dX11_least_21 : decode cX11_least 21 = .ok (.ireturn, 1) := by decide +kernel
theorem dX11_least_22 : decode cX11_least 22 = .ok (.aload_n 0, 1) := by decide +kernel
theorem dX11_least_23 : decode cX11_least 23 = .ok (.getfield 7, 3) := by decide +kernel
theorem dX11_least_26 : decode cX11_least 26 = .ok (.bipush 47, 2) := by decide +kernel
theorem dX11_least_28 : decode cX11_least 28 = .ok (.bipush 8, 2) := by decide +kernel
theorem dX11_least_30 : decode cX11_least 30 = .ok (.iload_n 1, 1) := by decide +kernel
theorem dX11_least_31 : decode cX11_least 31 = .ok (.imul, 1) := by decide +kernel
theorem dX11_least_32 : decode cX11_least 32 = .ok (.iadd, 1) := by decide +kernel
theorem dX11_least_33 : decode cX11_least 33 = .ok (.iconst 2, 1) := by decide +kernel
theorem dX11_least_34 : decode cX11_least 34 = .ok (.iadd, 1) := by decide +kernel
theorem dX11_least_35 : decode cX11_least 35 = .ok (.iaload, 1) := by decide +kernel
theorem dX11_least_36 : decode cX11_least 36 = .ok (.istore_n 3, 1) := by decide +kernel
theorem dX11_least_37 : decode cX11_least 37 = .ok (.iload_n 3, 1) := by decide +kernel
theorem dX11_least_38 : decode cX11_least 38 = .ok (.bipush (-4), 2) := by decide +kernel
theorem dX11_least_40 : decode cX11_least 40 = .ok (.if_icmp .ne 6, 3) := by decide +kernel
theorem dX11_least_43 : decode cX11_least 43 = .ok (.bipush (-2), 2) := by decide +kernel
theorem dX11_least_45 : decode cX11_least 45 = .ok (.ireturn, 1) := by decide +kernel
theorem dX11_least_46 : decode cX11_least 46 = .ok (.iconst 0, 1) := by decide +kernel
theorem dX11_least_47 : decode cX11_least 47 = .ok (.istore 4, 2) := by decide +kernel
theorem dX11_least_49 : decode cX11_least 49 = .ok (.iload 4, 2) := by decide +kernel
theorem dX11_least_51 : decode cX11_least 51 = .ok (.bipush 99, 2) := by decide +kernel
theorem dX11_least_53 : decode cX11_least 53 = .ok (.if_icmp .gt 88, 3) := by decide +kernel
theorem dX11_least_56 : decode cX11_least 56 = .ok (.aload_n 0, 1) := by decide +kernel
theorem dX11_least_57 : decode cX11_least 57 = .ok (.invokevirtual 222, 3) := by decide +kernel
theorem dX11_least_60 : decode cX11_least 60 = .ok (.iconst 0, 1) := by decide +kernel
theorem dX11_least_61 : decode cX11_least 61 = .ok (.istore 5, 2) := by decide +kernel
theorem dX11_least_63 : decode cX11_least 63 = .ok (.iload 5, 2) := by decide +kernel
theorem dX11_least_65 : decode cX11_least 65 = .ok (.iload_n 2, 1) := by decide +kernel
theorem dX11_least_66 : decode cX11_least 66 = .ok (.if_icmp .ge 58, 3) := by decide +kernel
theorem dX11_least_69 : decode cX11_least 69 = .ok (.iconst 0, 1) := by decide +kernel
theorem dX11_least_70 : decode cX11_least 70 = .ok (.istore 6, 2) := by decide +kernel
theorem dX11_least_72 : decode cX11_least 72 = .ok (.iload 6, 2) := by decide +kernel
theorem dX11_least_74 : decode cX11_least 74 = .ok (.aload_n 0, 1) := by decide +kernel
theorem dX11_least_75 : decode cX11_least 75 = .ok (.getfield 13, 3) := by decide +kernel
theorem dX11_least_78 : decode cX11_least 78 = .ok (.bipush 46, 2) := by decide +kernel
theorem dX11_least_80 : decode cX11_least 80 = .ok (.iaload, 1) := by decide +kernel
theorem dX11_least_81 : decode cX11_least 81 = .ok (.if_icmp .ge 15, 3) := by decide +kernel
theorem dX11_least_84 : decode cX11_least 84 = .ok (.aload_n 0, 1) := by decide +kernel
theorem dX11_least_85 : decode cX11_least 85 = .ok (.iload 6, 2) := by decide +kernel
theorem dX11_least_87 : decode cX11_least 87 = .ok (.invokevirtual 187, 3) := by decide +kernel
theorem dX11_least_90 : decode cX11_least 90 = .ok (.iinc 6 1, 3) := by decide +kernel
theorem dX11_least_93 : decode cX11_least 93 = .ok (.goto (-21), 3) := by decide +kernel
theorem dX11_least_96 : decode cX11_least 96 = .ok (.aload_n 0, 1) := by decide +kernel
theorem dX11_least_97 : decode cX11_least 97 = .ok (.invokevirtual 190, 3) := by decide +kernel
theorem dX11_least_100 : decode cX11_least 100 = .ok (.iload 5, 2) := by decide +kernel
theorem dX11_least_102 : decode cX11_least 102 = .ok (.ifCond .ne 12, 3) := by decide +kernel
theorem dX11_least_105 : decode cX11_least 105 = .ok (.aload_n 0, 1) := by decide +kernel
theorem dX11_least_106 : decode cX11_least 106 = .ok (.iload_n 3, 1) := by decide +kernel
theorem dX11_least_107 : decode cX11_least 107 = .ok (.iconst 3, 1) := by decide +kernel
theorem dX11_least_108 : decode cX11_least 108 = .ok (.idiv, 1) := by decide +kernel
theorem dX11_least_109 : decode cX11_least 109 = .ok (.iload 4, 2) := by decide +kernel
theorem dX11_least_111 : decode cX11_least 111 = .ok (.invokevirtual 183, 3) := by decide +kernel
theorem dX11_least_114 : decode cX11_least 114 = .ok (.aload_n 0, 1) := by decide +kernel
theorem dX11_least_115 : decode cX11_least 115 = .ok (.invokevirtual 193, 3) := by decide +kernel
theorem dX11_least_118 : decode cX11_least 118 = .ok (.iinc 5 1, 3) := by decide +kernel
theorem dX11_least_121 : decode cX11_least 121 = .ok (.goto (-58), 3) := by decide +kernel
theorem dX11_least_124 : decode cX11_least 124 = .ok (.aload_n 0, 1) := by decide +kernel
theorem dX11_least_125 : decode cX11_least 125 = .ok (.iload_n 1, 1) := by decide +kernel
theorem dX11_least_126 : decode cX11_least 126 = .ok (.invokevirtual 199, 3) := by decide +kernel
theorem dX11_least_129 : decode cX11_least 129 = .ok (.ifCond .eq 6, 3) := by decide +kernel
theorem dX11_least_132 : decode cX11_least 132 = .ok (.iload 4, 2) := by decide +kernel
theorem dX11_least_134 : decode cX11_least 134 = .ok (.ireturn, 1) := by decide +kernel
theorem dX11_least_135 : decode cX11_least 135 = .ok (.iinc 4 1, 3) := by decide +kernel
theorem dX11_least_138 : decode cX11_least 138 = .ok (.goto (-89), 3) := by decide +kernel
theorem dX11_least_141 : decode cX11_least 141 = .ok (.bipush (-4), 2) := by decide +kernel
theorem dX11_least_143 : decode cX11_least 143 = .ok (.ireturn, 1) := by decide +kernel
theorem dX11_best_0 : decode cX11_best 0 = .ok (.iload_n 1, 1) := by decide +kernel
theorem dX11_best_1 : decode cX11_best 1 = .ok (.i2l, 1) := by decide +kernel
theorem dX11_best_2 : decode cX11_best 2 = .ok (.lconst 0, 1) := by decide +kernel
theorem dX11_best_3 : decode cX11_best 3 = .ok (.lconst 1, 1) := by decide +kernel
theorem dX11_best_4 : decode cX11_best 4 = .ok (.invokestatic 78, 3) := by decide +kernel
theorem dX11_best_7 : decode cX11_best 7 = .ok (.ifCond .ne 5, 3) := by decide +kernel
theorem dX11_best_10 : decode cX11_best 10 = .ok (.iconst (-1), 1) := by decide +kernel
theorem dX11_best_11 : decode cX11_best 11 = .ok (.ireturn, 1) := by decide +kernel
theorem dX11_best_12 : decode cX11_best 12 = .ok (.iconst 0, 1) := by decide +kernel
theorem dX11_best_13 : decode cX11_best 13 = .ok (.istore_n 2, 1) := by decide +kernel
theorem dX11_best_14 : decode cX11_best 14 = .ok (.iconst (-1), 1) := by decide +kernel
theorem dX11_best_15 : decode cX11_best 15 = .ok (.istore_n 3, 1) := by decide +kernel
theorem dX11_best_16 : decode cX11_best 16 = .ok (.aload_n 0, 1) := by decide +kernel
theorem dX11_best_17 : decode cX11_best 17 = .ok (.invokevirtual 222, 3) := by decide +kernel
theorem dX11_best_20 : decode cX11_best 20 = .ok (.iconst 0, 1) := by decide +kernel
theorem dX11_best_21 : decode cX11_best 21 = .ok (.istore 4, 2) := by decide +kernel
theorem dX11_best_23 : decode cX11_best 23 = .ok (.iload 4, 2) := by decide +kernel
theorem dX11_best_25 : decode cX11_best 25 = .ok (.bipush 20, 2) := by decide +kernel
theorem dX11_best_27 : decode cX11_best 27 = .ok (.if_icmp .gt 45, 3) := by decide +kernel
theorem dX11_best_30 : decode cX11_best 30 = .ok (.aload_n 0, 1) := by decide +kernel
theorem dX11_best_31 : decode cX11_best 31 = .ok (.invokevirtual 241, 3) := by decide +kernel
theorem dX11_best_34 : decode cX11_best 34 = .ok (.istore 5, 2) := by decide +kernel
theorem dX11_best_36 : decode cX11_best 36 = .ok (.iload 5, 2) := by decide +kernel
theorem dX11_best_38 : decode cX11_best 38 = .ok (.iload_n 3, 1) := by decide +kernel
theorem dX11_best_39 : decode cX11_best 39 = .ok (.if_icmp .le 8, 3) := by decide +kernel
theorem dX11_best_42 : decode cX11_best 42 = .ok (.iload 4, 2) := by decide +kernel
theorem dX11_best_44 : decode cX11_best 44 = .ok (.goto 4, 3) := by decide +kernel
theorem dX11_best_47 : decode cX11_best 47 = .ok (.iload_n 2, 1) := by decide +kernel
theorem dX11_best_48 : decode cX11_best 48 = .ok (.istore_n 2, 1) := by decide +kernel
theorem dX11_best_49 : decode cX11_best 49 = .ok (.iload 5, 2) := by decide +kernel
theorem dX11_best_51 : decode cX11_best 51 = .ok (.iload_n 3, 1) := by decide +kernel
theorem dX11_best_52 : decode cX11_best 52 = .ok (.if_icmp .le 8, 3) := by decide +kernel
theorem dX11_best_55 : decode cX11_best 55 = .ok (.iload 5, 2) := by decide +kernel
theorem dX11_best_57 : decode cX11_best 57 = .ok (.goto 4, 3) := by decide +kernel
theorem dX11_best_60 : decode cX11_best 60 = .ok (.iload_n 3, 1) := by decide +kernel
theorem dX11_best_61 : decode cX11_best 61 = .ok (.istore_n 3, 1) := by decide +kernel
theorem dX11_best_62 : decode cX11_best 62 = .ok (.aload_n 0, 1) := by decide +kernel
theorem dX11_best_63 : decode cX11_best 63 = .ok (.invokevirtual 196, 3) := by decide +kernel
theorem dX11_best_66 : decode cX11_best 66 = .ok (.iinc 4 1, 3) := by decide +kernel
theorem dX11_best_69 : decode cX11_best 69 = .ok (.goto (-46), 3) := by decide +kernel
theorem dX11_best_72 : decode cX11_best 72 = .ok (.iload_n 1, 1) := by decide +kernel
theorem dX11_best_73 : decode cX11_best 73 = .ok (.ifCond .ne 7, 3) := by decide +kernel
theorem dX11_best_76 : decode cX11_best 76 = .ok (.iload_n 2, 1) := by decide +kernel
theorem dX11_best_77 : decode cX11_best 77 = .ok (.goto 4, 3) := by decide +kernel
theorem dX11_best_80 : decode cX11_best 80 = .ok (.iload_n 3, 1) := by decide +kernel
theorem dX11_best_81 : decode cX11_best 81 = .ok (.ireturn, 1) := by decide +kernel
theorem dX11_feel_0 : decode cX11_feel 0 = .ok (.iload_n 1, 1) := by decide +kernel
theorem dX11_feel_1 : decode cX11_feel 1 = .ok (.i2l, 1) := by decide +kernel
theorem dX11_feel_2 : decode cX11_feel 2 = .ok (.lconst 0, 1) := by decide +kernel
theorem dX11_feel_3 : decode cX11_feel 3 = .ok (.ldc2_w 250, 3) := by decide +kernel
theorem dX11_feel_6 : decode cX11_feel 6 = .ok (.invokestatic 78, 3) := by decide +kernel
theorem dX11_feel_9 : decode cX11_feel 9 = .ok (.ifCond .eq 23, 3) := by decide +kernel
theorem dX11_feel_12 : decode cX11_feel 12 = .ok (.aload_n 0, 1) := by decide +kernel
theorem dX11_feel_13 : decode cX11_feel 13 = .ok (.iload_n 2, 1) := by decide +kernel
theorem dX11_feel_14 : decode cX11_feel 14 = .ok (.invokevirtual 212, 3) := by decide +kernel
theorem dX11_feel_17 : decode cX11_feel 17 = .ok (.ifCond .eq 15, 3) := by decide +kernel
theorem dX11_feel_20 : decode cX11_feel 20 = .ok (.iload_n 3, 1) := by decide +kernel
theorem dX11_feel_21 : decode cX11_feel 21 = .ok (.i2l, 1) := by decide +kernel
theorem dX11_feel_22 : decode cX11_feel 22 = .ok (.lconst 0, 1) := by decide +kernel
theorem dX11_feel_23 : decode cX11_feel 23 = .ok (.ldc2_w 228, 3) := by decide +kernel
theorem dX11_feel_26 : decode cX11_feel 26 = .ok (.invokestatic 78, 3) := by decide +kernel
theorem dX11_feel_29 : decode cX11_feel 29 = .ok (.ifCond .ne 5, 3) := by decide +kernel
theorem dX11_feel_32 : decode cX11_feel 32 = .ok (.iconst (-1), 1) := by decide +kernel
theorem dX11_feel_33 : decode cX11_feel 33 = .ok (.ireturn, 1) := by decide +kernel
theorem dX11_feel_34 : decode cX11_feel 34 = .ok (.aload_n 0, 1) := by decide +kernel
theorem dX11_feel_35 : decode cX11_feel 35 = .ok (.getfield 7, 3) := by decide +kernel
theorem dX11_feel_38 : decode cX11_feel 38 = .ok (.bipush 96, 2) := by decide +kernel
theorem dX11_feel_40 : decode cX11_feel 40 = .ok (.iaload, 1) := by decide +kernel
theorem dX11_feel_41 : decode cX11_feel 41 = .ok (.bipush 6, 2) := by decide +kernel
theorem dX11_feel_43 : decode cX11_feel 43 = .ok (.if_icmp .ne 6, 3) := by decide +kernel
theorem dX11_feel_46 : decode cX11_feel 46 = .ok (.bipush (-3), 2) := by decide +kernel
theorem dX11_feel_48 : decode cX11_feel 48 = .ok (.ireturn, 1) := by decide +kernel
theorem dX11_feel_49 : decode cX11_feel 49 = .ok (.bipush 97, 2) := by decide +kernel
theorem dX11_feel_51 : decode cX11_feel 51 = .ok (.iconst 3, 1) := by decide +kernel
theorem dX11_feel_52 : decode cX11_feel 52 = .ok (.aload_n 0, 1) := by decide +kernel
theorem dX11_feel_53 : decode cX11_feel 53 = .ok (.getfield 7, 3) := by decide +kernel
theorem dX11_feel_56 : decode cX11_feel 56 = .ok (.bipush 96, 2) := by decide +kernel
theorem dX11_feel_58 : decode cX11_feel 58 = .ok (.iaload, 1) := by decide +kernel
theorem dX11_feel_59 : decode cX11_feel 59 = .ok (.imul, 1) := by decide +kernel
theorem dX11_feel_60 : decode cX11_feel 60 = .ok (.iadd, 1) := by decide +kernel
theorem dX11_feel_61 : decode cX11_feel 61 = .ok (.istore 4, 2) := by decide +kernel
theorem dX11_feel_63 : decode cX11_feel 63 = .ok (.aload_n 0, 1) := by decide +kernel
theorem dX11_feel_64 : decode cX11_feel 64 = .ok (.getfield 7, 3) := by decide +kernel
theorem dX11_feel_67 : decode cX11_feel 67 = .ok (.iload 4, 2) := by decide +kernel
theorem dX11_feel_69 : decode cX11_feel 69 = .ok (.iload_n 1, 1) := by decide +kernel
theorem dX11_feel_70 : decode cX11_feel 70 = .ok (.iastore, 1) := by decide +kernel
theorem dX11_feel_71 : decode cX11_feel 71 = .ok (.aload_n 0, 1) := by decide +kernel
theorem dX11_feel_72 : decode cX11_feel 72 = .ok (.getfield 7, 3) := by decide +kernel
theorem dX11_feel_75 : decode cX11_feel 75 = .ok (.iload 4, 2) := by decide +kernel
theorem dX11_feel_77 : decode cX11_feel 77 = .ok (.iconst 1, 1) := by decide +kernel
theorem dX11_feel_78 : decode cX11_feel 78 = .ok (.iadd, 1) := by decide +kernel
theorem dX11_feel_79 : decode cX11_feel 79 = .ok (.iload_n 2, 1) := by decide +kernel
theorem dX11_feel_80 : decode cX11_feel 80 = .ok (.iastore, 1) := by decide +kernel
theorem dX11_feel_81 : decode cX11_feel 81 = .ok (.aload_n 0, 1) := by decide +kernel
theorem dX11_feel_82 : decode cX11_feel 82 = .ok (.getfield 7, 3) := by decide +kernel
theorem dX11_feel_85 : decode cX11_feel 85 = .ok (.iload 4, 2) := by decide +kernel
theorem dX11_feel_87 : decode cX11_feel 87 = .ok (.iconst 2, 1) := by decide +kernel
theorem dX11_feel_88 : decode cX11_feel 88 = .ok (.iadd, 1) := by decide +kernel
theorem dX11_feel_89 : decode cX11_feel 89 = .ok (.iload_n 3, 1) := by decide +kernel
theorem dX11_feel_90 : decode cX11_feel 90 = .ok (.iastore, 1) := by decide +kernel
theorem dX11_feel_91 : decode cX11_feel 91 = .ok (.aload_n 0, 1) := by decide +kernel
theorem dX11_feel_92 : decode cX11_feel 92 = .ok (.getfield 7, 3) := by decide +kernel
theorem dX11_feel_95 : decode cX11_feel 95 = .ok (.bipush 96, 2) := by decide +kernel
theorem dX11_feel_97 : decode cX11_feel 97 = .ok (.dup2, 1) := by decide +kernel
theorem dX11_feel_98 : decode cX11_feel 98 = .ok (.iaload, 1) := by decide +kernel
theorem dX11_feel_99 : decode cX11_feel 99 = .ok (.iconst 1, 1) := by decide +kernel
theorem dX11_feel_100 : decode cX11_feel 100 = .ok (.iadd, 1) := by decide +kernel
theorem dX11_feel_101 : decode cX11_feel 101 = .ok (.iastore, 1) := by decide +kernel
theorem dX11_feel_102 : decode cX11_feel 102 = .ok (.aload_n 0, 1) := by decide +kernel
theorem dX11_feel_103 : decode cX11_feel 103 = .ok (.getfield 7, 3) := by decide +kernel
theorem dX11_feel_106 : decode cX11_feel 106 = .ok (.bipush 96, 2) := by decide +kernel
theorem dX11_feel_108 : decode cX11_feel 108 = .ok (.iaload, 1) := by decide +kernel
theorem dX11_feel_109 : decode cX11_feel 109 = .ok (.ireturn, 1) := by decide +kernel
theorem dX11_forget_0 : decode cX11_forget 0 = .ok (.iload_n 1, 1) := by decide +kernel
theorem dX11_forget_1 : decode cX11_forget 1 = .ok (.i2l, 1) := by decide +kernel
theorem dX11_forget_2 : decode cX11_forget 2 = .ok (.lconst 0, 1) := by decide +kernel
theorem dX11_forget_3 : decode cX11_forget 3 = .ok (.aload_n 0, 1) := by decide +kernel
theorem dX11_forget_4 : decode cX11_forget 4 = .ok (.getfield 7, 3) := by decide +kernel
theorem dX11_forget_7 : decode cX11_forget 7 = .ok (.bipush 96, 2) := by decide +kernel
theorem dX11_forget_9 : decode cX11_forget 9 = .ok (.iaload, 1) := by decide +kernel
theorem dX11_forget_10 : decode cX11_forget 10 = .ok (.i2l, 1) := by decide +kernel
theorem dX11_forget_11 : decode cX11_forget 11 = .ok (.invokestatic 78, 3) := by decide +kernel
theorem dX11_forget_14 : decode cX11_forget 14 = .ok (.ifCond .eq 13, 3) := by decide +kernel
theorem dX11_forget_17 : decode cX11_forget 17 = .ok (.aload_n 0, 1) := by decide +kernel
theorem dX11_forget_18 : decode cX11_forget 18 = .ok (.bipush 96, 2) := by decide +kernel
theorem dX11_forget_20 : decode cX11_forget 20 = .ok (.iload_n 1, 1) := by decide +kernel
theorem dX11_forget_21 : decode cX11_forget 21 = .ok (.invokevirtual 230, 3) := by decide +kernel
theorem dX11_forget_24 : decode cX11_forget 24 = .ok (.goto 4, 3) := by decide +kernel
theorem dX11_forget_27 : decode cX11_forget 27 = .ok (.iconst (-1), 1) := by decide +kernel
theorem dX11_forget_28 : decode cX11_forget 28 = .ok (.ireturn, 1) := by decide +kernel
theorem dX11_isSo_0 : decode cX11_isSo 0 = .ok (.iconst 1, 1) := by decide +kernel
theorem dX11_isSo_1 : decode cX11_isSo 1 = .ok (.istore_n 3, 1) := by decide +kernel
theorem dX11_isSo_2 : decode cX11_isSo 2 = .ok (.aload_n 0, 1) := by decide +kernel
theorem dX11_isSo_3 : decode cX11_isSo 3 = .ok (.invokevirtual 222, 3) := by decide +kernel
theorem dX11_isSo_6 : decode cX11_isSo 6 = .ok (.aload_n 0, 1) := by decide +kernel
theorem dX11_isSo_7 : decode cX11_isSo 7 = .ok (.getfield 13, 3) := by decide +kernel
theorem dX11_isSo_10 : decode cX11_isSo 10 = .ok (.bipush 24, 2) := by decide +kernel
theorem dX11_isSo_12 : decode cX11_isSo 12 = .ok (.iload_n 1, 1) := by decide +kernel
theorem dX11_isSo_13 : decode cX11_isSo 13 = .ok (.iastore, 1) := by decide +kernel
theorem dX11_isSo_14 : decode cX11_isSo 14 = .ok (.aload_n 0, 1) := by decide +kernel
theorem dX11_isSo_15 : decode cX11_isSo 15 = .ok (.getfield 13, 3) := by decide +kernel
theorem dX11_isSo_18 : decode cX11_isSo 18 = .ok (.bipush 25, 2) := by decide +kernel
theorem dX11_isSo_20 : decode cX11_isSo 20 = .ok (.iload_n 2, 1) := by decide +kernel
theorem dX11_isSo_21 : decode cX11_isSo 21 = .ok (.iastore, 1) := by decide +kernel
theorem dX11_isSo_22 : decode cX11_isSo 22 = .ok (.iconst 0, 1) := by decide +kernel
theorem dX11_isSo_23 : decode cX11_isSo 23 = .ok (.istore 4, 2) := by decide +kernel
theorem dX11_isSo_25 : decode cX11_isSo 25 = .ok (.iload 4, 2) := by decide +kernel
theorem dX11_isSo_27 : decode cX11_isSo 27 = .ok (.bipush 20, 2) := by decide +kernel
theorem dX11_isSo_29 : decode cX11_isSo 29 = .ok (.if_icmp .gt 93, 3) := by decide +kernel
theorem dX11_isSo_32 : decode cX11_isSo 32 = .ok (.iconst 0, 1) := by decide +kernel
theorem dX11_isSo_33 : decode cX11_isSo 33 = .ok (.istore 5, 2) := by decide +kernel
theorem dX11_isSo_35 : decode cX11_isSo 35 = .ok (.iload 5, 2) := by decide +kernel
theorem dX11_isSo_37 : decode cX11_isSo 37 = .ok (.aload_n 0, 1) := by decide +kernel
theorem dX11_isSo_38 : decode cX11_isSo 38 = .ok (.getfield 7, 3) := by decide +kernel
theorem dX11_isSo_41 : decode cX11_isSo 41 = .ok (.bipush 96, 2) := by decide +kernel
theorem dX11_isSo_43 : decode cX11_isSo 43 = .ok (.iaload, 1) := by decide +kernel
theorem dX11_isSo_44 : decode cX11_isSo 44 = .ok (.if_icmp .ge 68, 3) := by decide +kernel
theorem dX11_isSo_47 : decode cX11_isSo 47 = .ok (.bipush 97, 2) := by decide +kernel
theorem dX11_isSo_49 : decode cX11_isSo 49 = .ok (.iconst 3, 1) := by decide +kernel
theorem dX11_isSo_50 : decode cX11_isSo 50 = .ok (.iload 5, 2) := by decide +kernel
theorem dX11_isSo_52 : decode cX11_isSo 52 = .ok (.imul, 1) := by decide +kernel
theorem dX11_isSo_53 : decode cX11_isSo 53 = .ok (.iadd, 1) := by decide +kernel
theorem dX11_isSo_54 : decode cX11_isSo 54 = .ok (.istore 6, 2) := by decide +kernel
theorem dX11_isSo_56 : decode cX11_isSo 56 = .ok (.iload_n 3, 1) := by decide +kernel
theorem dX11_isSo_57 : decode cX11_isSo 57 = .ok (.ifCond .eq 47, 3) := by decide +kernel
theorem dX11_isSo_60 : decode cX11_isSo 60 = .ok (.aload_n 0, 1) := by decide +kernel
theorem dX11_isSo_61 : decode cX11_isSo 61 = .ok (.getfield 7, 3) := by decide +kernel
theorem dX11_isSo_64 : decode cX11_isSo 64 = .ok (.iload 6, 2) := by decide +kernel
theorem dX11_isSo_66 : decode cX11_isSo 66 = .ok (.iaload, 1) := by decide +kernel
theorem dX11_isSo_67 : decode cX11_isSo 67 = .ok (.iload 4, 2) := by decide +kernel
theorem dX11_isSo_69 : decode cX11_isSo 69 = .ok (.if_icmp .ne 31, 3) := by decide +kernel
theorem dX11_isSo_72 : decode cX11_isSo 72 = .ok (.aload_n 0, 1) := by decide +kernel
theorem dX11_isSo_73 : decode cX11_isSo 73 = .ok (.getfield 13, 3) := by decide +kernel
theorem dX11_isSo_76 : decode cX11_isSo 76 = .ok (.iconst 0, 1) := by decide +kernel
theorem dX11_isSo_77 : decode cX11_isSo 77 = .ok (.aload_n 0, 1) := by decide +kernel
theorem dX11_isSo_78 : decode cX11_isSo 78 = .ok (.getfield 7, 3) := by decide +kernel
theorem dX11_isSo_81 : decode cX11_isSo 81 = .ok (.iload 6, 2) := by decide +kernel
theorem dX11_isSo_83 : decode cX11_isSo 83 = .ok (.iconst 1, 1) := by decide +kernel
theorem dX11_isSo_84 : decode cX11_isSo 84 = .ok (.iadd, 1) := by decide +kernel
theorem dX11_isSo_85 : decode cX11_isSo 85 = .ok (.iaload, 1) := by decide +kernel
theorem dX11_isSo_86 : decode cX11_isSo 86 = .ok (.iadd, 1) := by decide +kernel
theorem dX11_isSo_87 : decode cX11_isSo 87 = .ok (.iaload, 1) := by decide +kernel
theorem dX11_isSo_88 : decode cX11_isSo 88 = .ok (.aload_n 0, 1) := by decide +kernel
theorem dX11_isSo_89 : decode cX11_isSo 89 = .ok (.getfield 7, 3) := by decide +kernel
theorem dX11_isSo_92 : decode cX11_isSo 92 = .ok (.iload 6, 2) := by decide +kernel
theorem dX11_isSo_94 : decode cX11_isSo 94 = .ok (.iconst 2, 1) := by decide +kernel
theorem dX11_isSo_95 : decode cX11_isSo 95 = .ok (.iadd, 1) := by decide +kernel
theorem dX11_isSo_96 : decode cX11_isSo 96 = .ok (.iaload, 1) := by decide +kernel
theorem dX11_isSo_97 : decode cX11_isSo 97 = .ok (.if_icmp .ne 7, 3) := by decide +kernel
theorem dX11_isSo_100 : decode cX11_isSo 100 = .ok (.iconst 1, 1) := by decide +kernel
theorem dX11_isSo_101 : decode cX11_isSo 101 = .ok (.goto 4, 3) := by decide +kernel
theorem dX11_isSo_104 : decode cX11_isSo 104 = .ok (.iconst 0, 1) := by decide +kernel
theorem dX11_isSo_105 : decode cX11_isSo 105 = .ok (.istore_n 3, 1) := by decide +kernel
theorem dX11_isSo_106 : decode cX11_isSo 106 = .ok (.iinc 5 1, 3) := by decide +kernel
theorem dX11_isSo_109 : decode cX11_isSo 109 = .ok (.goto (-74), 3) := by decide +kernel
theorem dX11_isSo_112 : decode cX11_isSo 112 = .ok (.aload_n 0, 1) := by decide +kernel
theorem dX11_isSo_113 : decode cX11_isSo 113 = .ok (.invokevirtual 196, 3) := by decide +kernel
theorem dX11_isSo_116 : decode cX11_isSo 116 = .ok (.iinc 4 1, 3) := by decide +kernel
theorem dX11_isSo_119 : decode cX11_isSo 119 = .ok (.goto (-94), 3) := by decide +kernel
theorem dX11_isSo_122 : decode cX11_isSo 122 = .ok (.iload_n 3, 1) := by decide +kernel
theorem dX11_isSo_123 : decode cX11_isSo 123 = .ok (.ireturn, 1) := by decide +kernel
theorem dX11_fits_0 : decode cX11_fits 0 = .ok (.iload_n 1, 1) := by decide +kernel
theorem dX11_fits_1 : decode cX11_fits 1 = .ok (.i2l, 1) := by decide +kernel
theorem dX11_fits_2 : decode cX11_fits 2 = .ok (.lconst 0, 1) := by decide +kernel
theorem dX11_fits_3 : decode cX11_fits 3 = .ok (.ldc2_w 215, 3) := by decide +kernel
theorem dX11_fits_6 : decode cX11_fits 6 = .ok (.invokestatic 78, 3) := by decide +kernel
theorem dX11_fits_9 : decode cX11_fits 9 = .ok (.ifCond .ne 5, 3) := by decide +kernel
theorem dX11_fits_12 : decode cX11_fits 12 = .ok (.iconst (-1), 1) := by decide +kernel
theorem dX11_fits_13 : decode cX11_fits 13 = .ok (.ireturn, 1) := by decide +kernel
theorem dX11_fits_14 : decode cX11_fits 14 = .ok (.iconst 0, 1) := by decide +kernel
theorem dX11_fits_15 : decode cX11_fits 15 = .ok (.istore_n 2, 1) := by decide +kernel
theorem dX11_fits_16 : decode cX11_fits 16 = .ok (.bipush (-4), 2) := by decide +kernel
theorem dX11_fits_18 : decode cX11_fits 18 = .ok (.istore_n 3, 1) := by decide +kernel
theorem dX11_fits_19 : decode cX11_fits 19 = .ok (.bipush (-4), 2) := by decide +kernel
theorem dX11_fits_21 : decode cX11_fits 21 = .ok (.istore 4, 2) := by decide +kernel
theorem dX11_fits_23 : decode cX11_fits 23 = .ok (.iconst 0, 1) := by decide +kernel
theorem dX11_fits_24 : decode cX11_fits 24 = .ok (.istore 5, 2) := by decide +kernel
theorem dX11_fits_26 : decode cX11_fits 26 = .ok (.iload 5, 2) := by decide +kernel
theorem dX11_fits_28 : decode cX11_fits 28 = .ok (.bipush 100, 2) := by decide +kernel
theorem dX11_fits_30 : decode cX11_fits 30 = .ok (.if_icmp .ge 44, 3) := by decide +kernel
theorem dX11_fits_33 : decode cX11_fits 33 = .ok (.aload_n 0, 1) := by decide +kernel
theorem dX11_fits_34 : decode cX11_fits 34 = .ok (.iload 5, 2) := by decide +kernel
theorem dX11_fits_36 : decode cX11_fits 36 = .ok (.bipush 10, 2) := by decide +kernel
theorem dX11_fits_38 : decode cX11_fits 38 = .ok (.idiv, 1) := by decide +kernel
theorem dX11_fits_39 : decode cX11_fits 39 = .ok (.iload 5, 2) := by decide +kernel
theorem dX11_fits_41 : decode cX11_fits 41 = .ok (.bipush 10, 2) := by decide +kernel
theorem dX11_fits_43 : decode cX11_fits 43 = .ok (.irem, 1) := by decide +kernel
theorem dX11_fits_44 : decode cX11_fits 44 = .ok (.invokevirtual 259, 3) := by decide +kernel
theorem dX11_fits_47 : decode cX11_fits 47 = .ok (.ifCond .eq 21, 3) := by decide +kernel
theorem dX11_fits_50 : decode cX11_fits 50 = .ok (.iload_n 2, 1) := by decide +kernel
theorem dX11_fits_51 : decode cX11_fits 51 = .ok (.ifCond .ne 8, 3) := by decide +kernel
theorem dX11_fits_54 : decode cX11_fits 54 = .ok (.iload 5, 2) := by decide +kernel
theorem dX11_fits_56 : decode cX11_fits 56 = .ok (.goto 4, 3) := by decide +kernel
theorem dX11_fits_59 : decode cX11_fits 59 = .ok (.iload_n 3, 1) := by decide +kernel
theorem dX11_fits_60 : decode cX11_fits 60 = .ok (.istore_n 3, 1) := by decide +kernel
theorem dX11_fits_61 : decode cX11_fits 61 = .ok (.iload 5, 2) := by decide +kernel
theorem dX11_fits_63 : decode cX11_fits 63 = .ok (.istore 4, 2) := by decide +kernel
theorem dX11_fits_65 : decode cX11_fits 65 = .ok (.iinc 2 1, 3) := by decide +kernel
theorem dX11_fits_68 : decode cX11_fits 68 = .ok (.iinc 5 1, 3) := by decide +kernel
theorem dX11_fits_71 : decode cX11_fits 71 = .ok (.goto (-45), 3) := by decide +kernel
theorem dX11_fits_74 : decode cX11_fits 74 = .ok (.iload_n 1, 1) := by decide +kernel
theorem dX11_fits_75 : decode cX11_fits 75 = .ok (.ifCond .ne 7, 3) := by decide +kernel
theorem dX11_fits_78 : decode cX11_fits 78 = .ok (.iload_n 2, 1) := by decide +kernel
theorem dX11_fits_79 : decode cX11_fits 79 = .ok (.goto 14, 3) := by decide +kernel
theorem dX11_fits_82 : decode cX11_fits 82 = .ok (.iload_n 1, 1) := by decide +kernel
theorem dX11_fits_83 : decode cX11_fits 83 = .ok (.iconst 1, 1) := by decide +kernel
theorem dX11_fits_84 : decode cX11_fits 84 = .ok (.if_icmp .ne 7, 3) := by decide +kernel
theorem dX11_fits_87 : decode cX11_fits 87 = .ok (.iload_n 3, 1) := by decide +kernel
theorem dX11_fits_88 : decode cX11_fits 88 = .ok (.goto 5, 3) := by decide +kernel
theorem dX11_fits_91 : decode cX11_fits 91 = .ok (.iload 4, 2) := by decide +kernel
theorem dX11_fits_93 : decode cX11_fits 93 = .ok (.ireturn, 1) := by decide +kernel
theorem dX11_weightOf_0 : decode cX11_weightOf 0 = .ok (.aload_n 0, 1) := by decide +kernel
theorem dX11_weightOf_1 : decode cX11_weightOf 1 = .ok (.getfield 7, 3) := by decide +kernel
theorem dX11_weightOf_4 : decode cX11_weightOf 4 = .ok (.bipush 47, 2) := by decide +kernel
theorem dX11_weightOf_6 : decode cX11_weightOf 6 = .ok (.bipush 8, 2) := by decide +kernel
theorem dX11_weightOf_8 : decode cX11_weightOf 8 = .ok (.iload_n 1, 1) := by decide +kernel
theorem dX11_weightOf_9 : decode cX11_weightOf 9 = .ok (.imul, 1) := by decide +kernel
theorem dX11_weightOf_10 : decode cX11_weightOf 10 = .ok (.iadd, 1) := by decide +kernel
theorem dX11_weightOf_11 : decode cX11_weightOf 11 = .ok (.bipush 7, 2) := by decide +kernel
theorem dX11_weightOf_13 : decode cX11_weightOf 13 = .ok (.iadd, 1) := by decide +kernel
theorem dX11_weightOf_14 : decode cX11_weightOf 14 = .ok (.iaload, 1) := by decide +kernel
theorem dX11_weightOf_15 : decode cX11_weightOf 15 = .ok (.istore_n 3, 1) := by decide +kernel
theorem dX11_weightOf_16 : decode cX11_weightOf 16 = .ok (.iload_n 3, 1) := by decide +kernel
theorem dX11_weightOf_17 : decode cX11_weightOf 17 = .ok (.bipush (-4), 2) := by decide +kernel
theorem dX11_weightOf_19 : decode cX11_weightOf 19 = .ok (.if_icmp .eq 18, 3) := by decide +kernel
theorem dX11_weightOf_22 : decode cX11_weightOf 22 = .ok (.aload_n 0, 1) := by decide +kernel
theorem dX11_weightOf_23 : decode cX11_weightOf 23 = .ok (.getfield 7, 3) := by decide +kernel
theorem dX11_weightOf_26 : decode cX11_weightOf 26 = .ok (.bipush 95, 2) := by decide +kernel
theorem dX11_weightOf_28 : decode cX11_weightOf 28 = .ok (.iaload, 1) := by decide +kernel
theorem dX11_weightOf_29 : decode cX11_weightOf 29 = .ok (.iload_n 2, 1) := by decide +kernel
theorem dX11_weightOf_30 : decode cX11_weightOf 30 = .ok (.ishr, 1) := by decide +kernel
theorem dX11_weightOf_31 : decode cX11_weightOf 31 = .ok (.iconst 1, 1) := by decide +kernel
theorem dX11_weightOf_32 : decode cX11_weightOf 32 = .ok (.iand, 1) := by decide +kernel
theorem dX11_weightOf_33 : decode cX11_weightOf 33 = .ok (.iconst 1, 1) := by decide +kernel
theorem dX11_weightOf_34 : decode cX11_weightOf 34 = .ok (.if_icmp .ne 5, 3) := by decide +kernel
theorem dX11_weightOf_37 : decode cX11_weightOf 37 = .ok (.iconst 0, 1) := by decide +kernel
theorem dX11_weightOf_38 : decode cX11_weightOf 38 = .ok (.ireturn, 1) := by decide +kernel
theorem dX11_weightOf_39 : decode cX11_weightOf 39 = .ok (.iload_n 2, 1) := by decide +kernel
theorem dX11_weightOf_40 : decode cX11_weightOf 40 = .ok (.iconst 3, 1) := by decide +kernel
theorem dX11_weightOf_41 : decode cX11_weightOf 41 = .ok (.idiv, 1) := by decide +kernel
theorem dX11_weightOf_42 : decode cX11_weightOf 42 = .ok (.iload_n 3, 1) := by decide +kernel
theorem dX11_weightOf_43 : decode cX11_weightOf 43 = .ok (.isub, 1) := by decide +kernel
theorem dX11_weightOf_44 : decode cX11_weightOf 44 = .ok (.istore 4, 2) := by decide +kernel
theorem dX11_weightOf_46 : decode cX11_weightOf 46 = .ok (.iload 4, 2) := by decide +kernel
theorem dX11_weightOf_48 : decode cX11_weightOf 48 = .ok (.ifCond .ne 7, 3) := by decide +kernel
theorem dX11_weightOf_51 : decode cX11_weightOf 51 = .ok (.iconst 2, 1) := by decide +kernel
theorem dX11_weightOf_52 : decode cX11_weightOf 52 = .ok (.goto 20, 3) := by decide +kernel
theorem dX11_weightOf_55 : decode cX11_weightOf 55 = .ok (.iload 4, 2) := by decide +kernel
theorem dX11_weightOf_57 : decode cX11_weightOf 57 = .ok (.iconst 1, 1) := by decide +kernel
theorem dX11_weightOf_58 : decode cX11_weightOf 58 = .ok (.if_icmp .eq 9, 3) := by decide +kernel
theorem dX11_weightOf_61 : decode cX11_weightOf 61 = .ok (.iload 4, 2) := by decide +kernel
theorem dX11_weightOf_63 : decode cX11_weightOf 63 = .ok (.iconst (-1), 1) := by decide +kernel
theorem dX11_weightOf_64 : decode cX11_weightOf 64 = .ok (.if_icmp .ne 7, 3) := by decide +kernel
theorem dX11_weightOf_67 : decode cX11_weightOf 67 = .ok (.iconst 1, 1) := by decide +kernel
theorem dX11_weightOf_68 : decode cX11_weightOf 68 = .ok (.goto 4, 3) := by decide +kernel
theorem dX11_weightOf_71 : decode cX11_weightOf 71 = .ok (.iconst 0, 1) := by decide +kernel
theorem dX11_weightOf_72 : decode cX11_weightOf 72 = .ok (.ireturn, 1) := by decide +kernel
theorem dX11_allOf_0 : decode cX11_allOf 0 = .ok (.iconst 0, 1) := by decide +kernel
theorem dX11_allOf_1 : decode cX11_allOf 1 = .ok (.istore_n 2, 1) := by decide +kernel
theorem dX11_allOf_2 : decode cX11_allOf 2 = .ok (.iconst 0, 1) := by decide +kernel
theorem dX11_allOf_3 : decode cX11_allOf 3 = .ok (.istore_n 3, 1) := by decide +kernel
theorem dX11_allOf_4 : decode cX11_allOf 4 = .ok (.iload_n 3, 1) := by decide +kernel
theorem dX11_allOf_5 : decode cX11_allOf 5 = .ok (.iconst 3, 1) := by decide +kernel
theorem dX11_allOf_6 : decode cX11_allOf 6 = .ok (.aload_n 0, 1) := by decide +kernel
theorem dX11_allOf_7 : decode cX11_allOf 7 = .ok (.getfield 73, 3) := by decide +kernel
theorem dX11_allOf_10 : decode cX11_allOf 10 = .ok (.imul, 1) := by decide +kernel
theorem dX11_allOf_11 : decode cX11_allOf 11 = .ok (.if_icmp .ge 18, 3) := by decide +kernel
theorem dX11_allOf_14 : decode cX11_allOf 14 = .ok (.iload_n 2, 1) := by decide +kernel
theorem dX11_allOf_15 : decode cX11_allOf 15 = .ok (.aload_n 0, 1) := by decide +kernel
theorem dX11_allOf_16 : decode cX11_allOf 16 = .ok (.iload_n 1, 1) := by decide +kernel
theorem dX11_allOf_17 : decode cX11_allOf 17 = .ok (.iload_n 3, 1) := by decide +kernel
theorem dX11_allOf_18 : decode cX11_allOf 18 = .ok (.invokevirtual 263, 3) := by decide +kernel
theorem dX11_allOf_21 : decode cX11_allOf 21 = .ok (.iadd, 1) := by decide +kernel
theorem dX11_allOf_22 : decode cX11_allOf 22 = .ok (.istore_n 2, 1) := by decide +kernel
theorem dX11_allOf_23 : decode cX11_allOf 23 = .ok (.iinc 3 1, 3) := by decide +kernel
theorem dX11_allOf_26 : decode cX11_allOf 26 = .ok (.goto (-22), 3) := by decide +kernel
theorem dX11_allOf_29 : decode cX11_allOf 29 = .ok (.iload_n 2, 1) := by decide +kernel
theorem dX11_allOf_30 : decode cX11_allOf 30 = .ok (.ireturn, 1) := by decide +kernel
theorem dX11_common_0 : decode cX11_common 0 = .ok (.lload_n 0, 1) := by decide +kernel
theorem dX11_common_1 : decode cX11_common 1 = .ok (.lstore 4, 2) := by decide +kernel
theorem dX11_common_3 : decode cX11_common 3 = .ok (.lload_n 2, 1) := by decide +kernel
theorem dX11_common_4 : decode cX11_common 4 = .ok (.lstore 6, 2) := by decide +kernel
theorem dX11_common_6 : decode cX11_common 6 = .ok (.lload 6, 2) := by decide +kernel
theorem dX11_common_8 : decode cX11_common 8 = .ok (.lconst 0, 1) := by decide +kernel
theorem dX11_common_9 : decode cX11_common 9 = .ok (.lcmp, 1) := by decide +kernel
theorem dX11_common_10 : decode cX11_common 10 = .ok (.ifCond .eq 21, 3) := by decide +kernel
theorem dX11_common_13 : decode cX11_common 13 = .ok (.lload 4, 2) := by decide +kernel
theorem dX11_common_15 : decode cX11_common 15 = .ok (.lload 6, 2) := by decide +kernel
theorem dX11_common_17 : decode cX11_common 17 = .ok (.lrem, 1) := by decide +kernel
theorem dX11_common_18 : decode cX11_common 18 = .ok (.lstore 8, 2) := by decide +kernel
theorem dX11_common_20 : decode cX11_common 20 = .ok (.lload 6, 2) := by decide +kernel
theorem dX11_common_22 : decode cX11_common 22 = .ok (.lstore 4, 2) := by decide +kernel
theorem dX11_common_24 : decode cX11_common 24 = .ok (.lload 8, 2) := by decide +kernel
theorem dX11_common_26 : decode cX11_common 26 = .ok (.lstore 6, 2) := by decide +kernel
theorem dX11_common_28 : decode cX11_common 28 = .ok (.goto (-22), 3) := by decide +kernel
theorem dX11_common_31 : decode cX11_common 31 = .ok (.lload 4, 2) := by decide +kernel
theorem dX11_common_33 : decode cX11_common 33 = .ok (.lreturn, 1) := by decide +kernel
theorem dX11_told_0 : decode cX11_told 0 = .ok (.lload_n 2, 1) := by decide +kernel
theorem dX11_told_1 : decode cX11_told 1 = .ok (.lload_n 0, 1) := by decide +kernel
theorem dX11_told_2 : decode cX11_told 2 = .ok (.invokestatic 266, 3) := by decide +kernel
theorem dX11_told_5 : decode cX11_told 5 = .ok (.lstore 5, 2) := by decide +kernel
theorem dX11_told_7 : decode cX11_told 7 = .ok (.iload 4, 2) := by decide +kernel
theorem dX11_told_9 : decode cX11_told 9 = .ok (.ifCond .eq 10, 3) := by decide +kernel
theorem dX11_told_12 : decode cX11_told 12 = .ok (.lload_n 0, 1) := by decide +kernel
theorem dX11_told_13 : decode cX11_told 13 = .ok (.lload 5, 2) := by decide +kernel
theorem dX11_told_15 : decode cX11_told 15 = .ok (.ldiv, 1) := by decide +kernel
theorem dX11_told_16 : decode cX11_told 16 = .ok (.goto 7, 3) := by decide +kernel
theorem dX11_told_19 : decode cX11_told 19 = .ok (.lload_n 2, 1) := by decide +kernel
theorem dX11_told_20 : decode cX11_told 20 = .ok (.lload 5, 2) := by decide +kernel
theorem dX11_told_22 : decode cX11_told 22 = .ok (.ldiv, 1) := by decide +kernel
theorem dX11_told_23 : decode cX11_told 23 = .ok (.lreturn, 1) := by decide +kernel
theorem dX11_lies_0 : decode cX11_lies 0 = .ok (.aload_n 0, 1) := by decide +kernel
theorem dX11_lies_1 : decode cX11_lies 1 = .ok (.iload_n 1, 1) := by decide +kernel
theorem dX11_lies_2 : decode cX11_lies 2 = .ok (.invokevirtual 217, 3) := by decide +kernel
theorem dX11_lies_5 : decode cX11_lies 5 = .ok (.ifCond .eq 21, 3) := by decide +kernel
theorem dX11_lies_8 : decode cX11_lies 8 = .ok (.aload_n 0, 1) := by decide +kernel
theorem dX11_lies_9 : decode cX11_lies 9 = .ok (.iload_n 2, 1) := by decide +kernel
theorem dX11_lies_10 : decode cX11_lies 10 = .ok (.invokevirtual 212, 3) := by decide +kernel
theorem dX11_lies_13 : decode cX11_lies 13 = .ok (.ifCond .eq 13, 3) := by decide +kernel
theorem dX11_lies_16 : decode cX11_lies 16 = .ok (.iload_n 3, 1) := by decide +kernel
theorem dX11_lies_17 : decode cX11_lies 17 = .ok (.i2l, 1) := by decide +kernel
theorem dX11_lies_18 : decode cX11_lies 18 = .ok (.lconst 0, 1) := by decide +kernel
theorem dX11_lies_19 : decode cX11_lies 19 = .ok (.lconst 1, 1) := by decide +kernel
theorem dX11_lies_20 : decode cX11_lies 20 = .ok (.invokestatic 78, 3) := by decide +kernel
theorem dX11_lies_23 : decode cX11_lies 23 = .ok (.ifCond .ne 7, 3) := by decide +kernel
theorem dX11_lies_26 : decode cX11_lies 26 = .ok (.ldc2_w 270, 3) := by decide +kernel
theorem dX11_lies_29 : decode cX11_lies 29 = .ok (.lreturn, 1) := by decide +kernel
theorem dX11_lies_30 : decode cX11_lies 30 = .ok (.aload_n 0, 1) := by decide +kernel
theorem dX11_lies_31 : decode cX11_lies 31 = .ok (.getfield 7, 3) := by decide +kernel
theorem dX11_lies_34 : decode cX11_lies 34 = .ok (.bipush 47, 2) := by decide +kernel
theorem dX11_lies_36 : decode cX11_lies 36 = .ok (.bipush 8, 2) := by decide +kernel
theorem dX11_lies_38 : decode cX11_lies 38 = .ok (.iload_n 1, 1) := by decide +kernel
theorem dX11_lies_39 : decode cX11_lies 39 = .ok (.imul, 1) := by decide +kernel
theorem dX11_lies_40 : decode cX11_lies 40 = .ok (.iadd, 1) := by decide +kernel
theorem dX11_lies_41 : decode cX11_lies 41 = .ok (.bipush 7, 2) := by decide +kernel
theorem dX11_lies_43 : decode cX11_lies 43 = .ok (.iadd, 1) := by decide +kernel
theorem dX11_lies_44 : decode cX11_lies 44 = .ok (.iaload, 1) := by decide +kernel
theorem dX11_lies_45 : decode cX11_lies 45 = .ok (.bipush (-4), 2) := by decide +kernel
theorem dX11_lies_47 : decode cX11_lies 47 = .ok (.if_icmp .ne 7, 3) := by decide +kernel
theorem dX11_lies_50 : decode cX11_lies 50 = .ok (.ldc2_w 272, 3) := by decide +kernel
theorem dX11_lies_53 : decode cX11_lies 53 = .ok (.lreturn, 1) := by decide +kernel
theorem dX11_lies_54 : decode cX11_lies 54 = .ok (.aload_n 0, 1) := by decide +kernel
theorem dX11_lies_55 : decode cX11_lies 55 = .ok (.iload_n 1, 1) := by decide +kernel
theorem dX11_lies_56 : decode cX11_lies 56 = .ok (.invokevirtual 274, 3) := by decide +kernel
theorem dX11_lies_59 : decode cX11_lies 59 = .ok (.istore 4, 2) := by decide +kernel
theorem dX11_lies_61 : decode cX11_lies 61 = .ok (.iload 4, 2) := by decide +kernel
theorem dX11_lies_63 : decode cX11_lies 63 = .ok (.ifCond .ne 9, 3) := by decide +kernel
theorem dX11_lies_66 : decode cX11_lies 66 = .ok (.ldc2_w 277, 3) := by decide +kernel
theorem dX11_lies_69 : decode cX11_lies 69 = .ok (.goto 25, 3) := by decide +kernel
theorem dX11_lies_72 : decode cX11_lies 72 = .ok (.aload_n 0, 1) := by decide +kernel
theorem dX11_lies_73 : decode cX11_lies 73 = .ok (.iload_n 1, 1) := by decide +kernel
theorem dX11_lies_74 : decode cX11_lies 74 = .ok (.iload_n 2, 1) := by decide +kernel
theorem dX11_lies_75 : decode cX11_lies 75 = .ok (.invokevirtual 263, 3) := by decide +kernel
theorem dX11_lies_78 : decode cX11_lies 78 = .ok (.i2l, 1) := by decide +kernel
theorem dX11_lies_79 : decode cX11_lies 79 = .ok (.iload 4, 2) := by decide +kernel
theorem dX11_lies_81 : decode cX11_lies 81 = .ok (.i2l, 1) := by decide +kernel
theorem dX11_lies_82 : decode cX11_lies 82 = .ok (.iload_n 3, 1) := by decide +kernel
theorem dX11_lies_83 : decode cX11_lies 83 = .ok (.ifCond .ne 7, 3) := by decide +kernel
theorem dX11_lies_86 : decode cX11_lies 86 = .ok (.iconst 1, 1) := by decide +kernel
theorem dX11_lies_87 : decode cX11_lies 87 = .ok (.goto 4, 3) := by decide +kernel
theorem dX11_lies_90 : decode cX11_lies 90 = .ok (.iconst 0, 1) := by decide +kernel
theorem dX11_lies_91 : decode cX11_lies 91 = .ok (.invokestatic 279, 3) := by decide +kernel
theorem dX11_lies_94 : decode cX11_lies 94 = .ok (.lreturn, 1) := by decide +kernel
theorem dX11_next__0 : decode cX11_next_ 0 = .ok (.iload_n 1, 1) := by decide +kernel
theorem dX11_next__1 : decode cX11_next_ 1 = .ok (.i2l, 1) := by decide +kernel
theorem dX11_next__2 : decode cX11_next_ 2 = .ok (.lconst 0, 1) := by decide +kernel
theorem dX11_next__3 : decode cX11_next_ 3 = .ok (.ldc2_w 215, 3) := by decide +kernel
theorem dX11_next__6 : decode cX11_next_ 6 = .ok (.invokestatic 78, 3) := by decide +kernel
theorem dX11_next__9 : decode cX11_next_ 9 = .ok (.ifCond .ne 7, 3) := by decide +kernel
theorem dX11_next__12 : decode cX11_next_ 12 = .ok (.ldc2_w 270, 3) := by decide +kernel
theorem dX11_next__15 : decode cX11_next_ 15 = .ok (.lreturn, 1) := by decide +kernel
theorem dX11_next__16 : decode cX11_next_ 16 = .ok (.bipush (-4), 2) := by decide +kernel
theorem dX11_next__18 : decode cX11_next_ 18 = .ok (.istore_n 2, 1) := by decide +kernel
theorem dX11_next__19 : decode cX11_next_ 19 = .ok (.lconst 0, 1) := by decide +kernel
theorem dX11_next__20 : decode cX11_next_ 20 = .ok (.lstore_n 3, 1) := by decide +kernel
theorem dX11_next__21 : decode cX11_next_ 21 = .ok (.iconst 0, 1) := by decide +kernel
theorem dX11_next__22 : decode cX11_next_ 22 = .ok (.istore 5, 2) := by decide +kernel
theorem dX11_next__24 : decode cX11_next_ 24 = .ok (.iload 5, 2) := by decide +kernel
theorem dX11_next__26 : decode cX11_next_ 26 = .ok (.iconst 3, 1) := by decide +kernel
theorem dX11_next__27 : decode cX11_next_ 27 = .ok (.aload_n 0, 1) := by decide +kernel
theorem dX11_next__28 : decode cX11_next_ 28 = .ok (.getfield 73, 3) := by decide +kernel
theorem dX11_next__31 : decode cX11_next_ 31 = .ok (.imul, 1) := by decide +kernel
theorem dX11_next__32 : decode cX11_next_ 32 = .ok (.if_icmp .ge 99, 3) := by decide +kernel
theorem dX11_next__35 : decode cX11_next_ 35 = .ok (.lconst 0, 1) := by decide +kernel
theorem dX11_next__36 : decode cX11_next_ 36 = .ok (.lstore 6, 2) := by decide +kernel
theorem dX11_next__38 : decode cX11_next_ 38 = .ok (.iconst 0, 1) := by decide +kernel
theorem dX11_next__39 : decode cX11_next_ 39 = .ok (.istore 8, 2) := by decide +kernel
theorem dX11_next__41 : decode cX11_next_ 41 = .ok (.iload 8, 2) := by decide +kernel
theorem dX11_next__43 : decode cX11_next_ 43 = .ok (.aload_n 0, 1) := by decide +kernel
theorem dX11_next__44 : decode cX11_next_ 44 = .ok (.getfield 7, 3) := by decide +kernel
theorem dX11_next__47 : decode cX11_next_ 47 = .ok (.bipush 46, 2) := by decide +kernel
theorem dX11_next__49 : decode cX11_next_ 49 = .ok (.iaload, 1) := by decide +kernel
theorem dX11_next__50 : decode cX11_next_ 50 = .ok (.if_icmp .ge 47, 3) := by decide +kernel
theorem dX11_next__53 : decode cX11_next_ 53 = .ok (.aload_n 0, 1) := by decide +kernel
theorem dX11_next__54 : decode cX11_next_ 54 = .ok (.iload 8, 2) := by decide +kernel
theorem dX11_next__56 : decode cX11_next_ 56 = .ok (.invokevirtual 274, 3) := by decide +kernel
theorem dX11_next__59 : decode cX11_next_ 59 = .ok (.istore 9, 2) := by decide +kernel
theorem dX11_next__61 : decode cX11_next_ 61 = .ok (.lload 6, 2) := by decide +kernel
theorem dX11_next__63 : decode cX11_next_ 63 = .ok (.iload 9, 2) := by decide +kernel
theorem dX11_next__65 : decode cX11_next_ 65 = .ok (.ifCond .ne 7, 3) := by decide +kernel
theorem dX11_next__68 : decode cX11_next_ 68 = .ok (.lconst 0, 1) := by decide +kernel
theorem dX11_next__69 : decode cX11_next_ 69 = .ok (.goto 19, 3) := by decide +kernel
theorem dX11_next__72 : decode cX11_next_ 72 = .ok (.sipush 27720, 3) := by decide +kernel
theorem dX11_next__75 : decode cX11_next_ 75 = .ok (.iload 9, 2) := by decide +kernel
theorem dX11_next__77 : decode cX11_next_ 77 = .ok (.idiv, 1) := by decide +kernel
theorem dX11_next__78 : decode cX11_next_ 78 = .ok (.aload_n 0, 1) := by decide +kernel
theorem dX11_next__79 : decode cX11_next_ 79 = .ok (.iload 8, 2) := by decide +kernel
theorem dX11_next__81 : decode cX11_next_ 81 = .ok (.iload 5, 2) := by decide +kernel
theorem dX11_next__83 : decode cX11_next_ 83 = .ok (.invokevirtual 263, 3) := by decide +kernel
theorem dX11_next__86 : decode cX11_next_ 86 = .ok (.imul, 1) := by decide +kernel
theorem dX11_next__87 : decode cX11_next_ 87 = .ok (.i2l, 1) := by decide +kernel
theorem dX11_next__88 : decode cX11_next_ 88 = .ok (.ladd, 1) := by decide +kernel
theorem dX11_next__89 : decode cX11_next_ 89 = .ok (.lstore 6, 2) := by decide +kernel
theorem dX11_next__91 : decode cX11_next_ 91 = .ok (.iinc 8 1, 3) := by decide +kernel
theorem dX11_next__94 : decode cX11_next_ 94 = .ok (.goto (-53), 3) := by decide +kernel
theorem dX11_next__97 : decode cX11_next_ 97 = .ok (.lload 6, 2) := by decide +kernel
theorem dX11_next__99 : decode cX11_next_ 99 = .ok (.lload_n 3, 1) := by decide +kernel
theorem dX11_next__100 : decode cX11_next_ 100 = .ok (.lcmp, 1) := by decide +kernel
theorem dX11_next__101 : decode cX11_next_ 101 = .ok (.ifCond .le 8, 3) := by decide +kernel
theorem dX11_next__104 : decode cX11_next_ 104 = .ok (.iload 5, 2) := by decide +kernel
theorem dX11_next__106 : decode cX11_next_ 106 = .ok (.goto 4, 3) := by decide +kernel
theorem dX11_next__109 : decode cX11_next_ 109 = .ok (.iload_n 2, 1) := by decide +kernel
theorem dX11_next__110 : decode cX11_next_ 110 = .ok (.istore_n 2, 1) := by decide +kernel
theorem dX11_next__111 : decode cX11_next_ 111 = .ok (.lload 6, 2) := by decide +kernel
theorem dX11_next__113 : decode cX11_next_ 113 = .ok (.lload_n 3, 1) := by decide +kernel
theorem dX11_next__114 : decode cX11_next_ 114 = .ok (.lcmp, 1) := by decide +kernel
theorem dX11_next__115 : decode cX11_next_ 115 = .ok (.ifCond .le 8, 3) := by decide +kernel
theorem dX11_next__118 : decode cX11_next_ 118 = .ok (.lload 6, 2) := by decide +kernel
theorem dX11_next__120 : decode cX11_next_ 120 = .ok (.goto 4, 3) := by decide +kernel
theorem dX11_next__123 : decode cX11_next_ 123 = .ok (.lload_n 3, 1) := by decide +kernel
theorem dX11_next__124 : decode cX11_next_ 124 = .ok (.lstore_n 3, 1) := by decide +kernel
theorem dX11_next__125 : decode cX11_next_ 125 = .ok (.iinc 5 1, 3) := by decide +kernel
theorem dX11_next__128 : decode cX11_next_ 128 = .ok (.goto (-104), 3) := by decide +kernel
theorem dX11_next__131 : decode cX11_next_ 131 = .ok (.iload_n 2, 1) := by decide +kernel
theorem dX11_next__132 : decode cX11_next_ 132 = .ok (.bipush (-4), 2) := by decide +kernel
theorem dX11_next__134 : decode cX11_next_ 134 = .ok (.if_icmp .ne 7, 3) := by decide +kernel
theorem dX11_next__137 : decode cX11_next_ 137 = .ok (.ldc2_w 277, 3) := by decide +kernel
theorem dX11_next__140 : decode cX11_next_ 140 = .ok (.lreturn, 1) := by decide +kernel
theorem dX11_next__141 : decode cX11_next_ 141 = .ok (.iload_n 1, 1) := by decide +kernel
theorem dX11_next__142 : decode cX11_next_ 142 = .ok (.ifCond .ne 8, 3) := by decide +kernel
theorem dX11_next__145 : decode cX11_next_ 145 = .ok (.iload_n 2, 1) := by decide +kernel
theorem dX11_next__146 : decode cX11_next_ 146 = .ok (.i2l, 1) := by decide +kernel
theorem dX11_next__147 : decode cX11_next_ 147 = .ok (.goto 20, 3) := by decide +kernel
theorem dX11_next__150 : decode cX11_next_ 150 = .ok (.lload_n 3, 1) := by decide +kernel
theorem dX11_next__151 : decode cX11_next_ 151 = .ok (.ldc2_w 283, 3) := by decide +kernel
theorem dX11_next__154 : decode cX11_next_ 154 = .ok (.iload_n 1, 1) := by decide +kernel
theorem dX11_next__155 : decode cX11_next_ 155 = .ok (.iconst 1, 1) := by decide +kernel
theorem dX11_next__156 : decode cX11_next_ 156 = .ok (.if_icmp .ne 7, 3) := by decide +kernel
theorem dX11_next__159 : decode cX11_next_ 159 = .ok (.iconst 1, 1) := by decide +kernel
theorem dX11_next__160 : decode cX11_next_ 160 = .ok (.goto 4, 3) := by decide +kernel
theorem dX11_next__163 : decode cX11_next_ 163 = .ok (.iconst 0, 1) := by decide +kernel
theorem dX11_next__164 : decode cX11_next_ 164 = .ok (.invokestatic 279, 3) := by decide +kernel
theorem dX11_next__167 : decode cX11_next_ 167 = .ok (.lreturn, 1) := by decide +kernel
theorem dX11_isBefore_0 : decode cX11_isBefore 0 = .ok (.aload_n 0, 1) := by decide +kernel
theorem dX11_isBefore_1 : decode cX11_isBefore 1 = .ok (.iload_n 1, 1) := by decide +kernel
theorem dX11_isBefore_2 : decode cX11_isBefore 2 = .ok (.invokevirtual 205, 3) := by decide +kernel
theorem dX11_isBefore_5 : decode cX11_isBefore 5 = .ok (.ifCond .eq 7, 3) := by decide +kernel
theorem dX11_isBefore_8 : decode cX11_isBefore 8 = .ok (.iconst 2, 1) := by decide +kernel
theorem dX11_isBefore_9 : decode cX11_isBefore 9 = .ok (.goto 16, 3) := by decide +kernel
theorem dX11_isBefore_12 : decode cX11_isBefore 12 = .ok (.aload_n 0, 1) := by decide +kernel
theorem dX11_isBefore_13 : decode cX11_isBefore 13 = .ok (.iload_n 1, 1) := by decide +kernel
theorem dX11_isBefore_14 : decode cX11_isBefore 14 = .ok (.invokevirtual 202, 3) := by decide +kernel
theorem dX11_isBefore_17 : decode cX11_isBefore 17 = .ok (.ifCond .eq 7, 3) := by decide +kernel
theorem dX11_isBefore_20 : decode cX11_isBefore 20 = .ok (.iconst 0, 1) := by decide +kernel
theorem dX11_isBefore_21 : decode cX11_isBefore 21 = .ok (.goto 4, 3) := by decide +kernel
theorem dX11_isBefore_24 : decode cX11_isBefore 24 = .ok (.iconst 1, 1) := by decide +kernel
theorem dX11_isBefore_25 : decode cX11_isBefore 25 = .ok (.istore_n 3, 1) := by decide +kernel
theorem dX11_isBefore_26 : decode cX11_isBefore 26 = .ok (.aload_n 0, 1) := by decide +kernel
theorem dX11_isBefore_27 : decode cX11_isBefore 27 = .ok (.iload_n 2, 1) := by decide +kernel
theorem dX11_isBefore_28 : decode cX11_isBefore 28 = .ok (.invokevirtual 205, 3) := by decide +kernel
theorem dX11_isBefore_31 : decode cX11_isBefore 31 = .ok (.ifCond .eq 7, 3) := by decide +kernel
theorem dX11_isBefore_34 : decode cX11_isBefore 34 = .ok (.iconst 2, 1) := by decide +kernel
theorem dX11_isBefore_35 : decode cX11_isBefore 35 = .ok (.goto 16, 3) := by decide +kernel
theorem dX11_isBefore_38 : decode cX11_isBefore 38 = .ok (.aload_n 0, 1) := by decide +kernel
theorem dX11_isBefore_39 : decode cX11_isBefore 39 = .ok (.iload_n 2, 1) := by decide +kernel
theorem dX11_isBefore_40 : decode cX11_isBefore 40 = .ok (.invokevirtual 202, 3) := by decide +kernel
theorem dX11_isBefore_43 : decode cX11_isBefore 43 = .ok (.ifCond .eq 7, 3) := by decide +kernel
theorem dX11_isBefore_46 : decode cX11_isBefore 46 = .ok (.iconst 0, 1) := by decide +kernel
theorem dX11_isBefore_47 : decode cX11_isBefore 47 = .ok (.goto 4, 3) := by decide +kernel
theorem dX11_isBefore_50 : decode cX11_isBefore 50 = .ok (.iconst 1, 1) := by decide +kernel
theorem dX11_isBefore_51 : decode cX11_isBefore 51 = .ok (.istore 4, 2) := by decide +kernel
theorem dX11_isBefore_53 : decode cX11_isBefore 53 = .ok (.iload_n 3, 1) := by decide +kernel
theorem dX11_isBefore_54 : decode cX11_isBefore 54 = .ok (.iload 4, 2) := by decide +kernel
theorem dX11_isBefore_56 : decode cX11_isBefore 56 = .ok (.if_icmp .eq 15, 3) := by decide +kernel
theorem dX11_isBefore_59 : decode cX11_isBefore 59 = .ok (.iload_n 3, 1) := by decide +kernel
theorem dX11_isBefore_60 : decode cX11_isBefore 60 = .ok (.iload 4, 2) := by decide +kernel
theorem dX11_isBefore_62 : decode cX11_isBefore 62 = .ok (.if_icmp .le 7, 3) := by decide +kernel
theorem dX11_isBefore_65 : decode cX11_isBefore 65 = .ok (.iconst 1, 1) := by decide +kernel
theorem dX11_isBefore_66 : decode cX11_isBefore 66 = .ok (.goto 4, 3) := by decide +kernel
theorem dX11_isBefore_69 : decode cX11_isBefore 69 = .ok (.iconst 0, 1) := by decide +kernel
theorem dX11_isBefore_70 : decode cX11_isBefore 70 = .ok (.ireturn, 1) := by decide +kernel
theorem dX11_isBefore_71 : decode cX11_isBefore 71 = .ok (.iload_n 3, 1) := by decide +kernel
theorem dX11_isBefore_72 : decode cX11_isBefore 72 = .ok (.iconst 2, 1) := by decide +kernel
theorem dX11_isBefore_73 : decode cX11_isBefore 73 = .ok (.if_icmp .ne 26, 3) := by decide +kernel
theorem dX11_isBefore_76 : decode cX11_isBefore 76 = .ok (.aload_n 0, 1) := by decide +kernel
theorem dX11_isBefore_77 : decode cX11_isBefore 77 = .ok (.iload_n 1, 1) := by decide +kernel
theorem dX11_isBefore_78 : decode cX11_isBefore 78 = .ok (.iconst 0, 1) := by decide +kernel
theorem dX11_isBefore_79 : decode cX11_isBefore 79 = .ok (.invokevirtual 173, 3) := by decide +kernel
theorem dX11_isBefore_82 : decode cX11_isBefore 82 = .ok (.aload_n 0, 1) := by decide +kernel
theorem dX11_isBefore_83 : decode cX11_isBefore 83 = .ok (.iload_n 2, 1) := by decide +kernel
theorem dX11_isBefore_84 : decode cX11_isBefore 84 = .ok (.iconst 0, 1) := by decide +kernel
theorem dX11_isBefore_85 : decode cX11_isBefore 85 = .ok (.invokevirtual 173, 3) := by decide +kernel
theorem dX11_isBefore_88 : decode cX11_isBefore 88 = .ok (.if_icmp .le 7, 3) := by decide +kernel
theorem dX11_isBefore_91 : decode cX11_isBefore 91 = .ok (.iconst 1, 1) := by decide +kernel
theorem dX11_isBefore_92 : decode cX11_isBefore 92 = .ok (.goto 32, 3) := by decide +kernel
theorem dX11_isBefore_95 : decode cX11_isBefore 95 = .ok (.iconst 0, 1) := by decide +kernel
theorem dX11_isBefore_96 : decode cX11_isBefore 96 = .ok (.goto 28, 3) := by decide +kernel
theorem dX11_isBefore_99 : decode cX11_isBefore 99 = .ok (.iload_n 3, 1) := by decide +kernel
theorem dX11_isBefore_100 : decode cX11_isBefore 100 = .ok (.iconst 1, 1) := by decide +kernel
theorem dX11_isBefore_101 : decode cX11_isBefore 101 = .ok (.if_icmp .ne 22, 3) := by decide +kernel
theorem dX11_isBefore_104 : decode cX11_isBefore 104 = .ok (.aload_n 0, 1) := by decide +kernel
theorem dX11_isBefore_105 : decode cX11_isBefore 105 = .ok (.iload_n 1, 1) := by decide +kernel
theorem dX11_isBefore_106 : decode cX11_isBefore 106 = .ok (.iconst 3, 1) := by decide +kernel
theorem dX11_isBefore_107 : decode cX11_isBefore 107 = .ok (.invokevirtual 173, 3) := by decide +kernel
theorem dX11_isBefore_110 : decode cX11_isBefore 110 = .ok (.aload_n 0, 1) := by decide +kernel
theorem dX11_isBefore_111 : decode cX11_isBefore 111 = .ok (.iload_n 2, 1) := by decide +kernel
theorem dX11_isBefore_112 : decode cX11_isBefore 112 = .ok (.iconst 3, 1) := by decide +kernel
theorem dX11_isBefore_113 : decode cX11_isBefore 113 = .ok (.invokevirtual 173, 3) := by decide +kernel
theorem dX11_isBefore_116 : decode cX11_isBefore 116 = .ok (.if_icmp .le 7, 3) := by decide +kernel
theorem dX11_isBefore_119 : decode cX11_isBefore 119 = .ok (.iconst 1, 1) := by decide +kernel
theorem dX11_isBefore_120 : decode cX11_isBefore 120 = .ok (.goto 4, 3) := by decide +kernel
theorem dX11_isBefore_123 : decode cX11_isBefore 123 = .ok (.iconst 0, 1) := by decide +kernel
theorem dX11_isBefore_124 : decode cX11_isBefore 124 = .ok (.ireturn, 1) := by decide +kernel
theorem dX11_takes_0 : decode cX11_takes 0 = .ok (.iload_n 1, 1) := by decide +kernel
theorem dX11_takes_1 : decode cX11_takes 1 = .ok (.ifCond .ge 5, 3) := by decide +kernel
theorem dX11_takes_4 : decode cX11_takes 4 = .ok (.iconst (-1), 1) := by decide +kernel
theorem dX11_takes_5 : decode cX11_takes 5 = .ok (.ireturn, 1) := by decide +kernel
theorem dX11_takes_6 : decode cX11_takes 6 = .ok (.aload_n 0, 1) := by decide +kernel
theorem dX11_takes_7 : decode cX11_takes 7 = .ok (.invokevirtual 222, 3) := by decide +kernel
theorem dX11_takes_10 : decode cX11_takes 10 = .ok (.iconst 0, 1) := by decide +kernel
theorem dX11_takes_11 : decode cX11_takes 11 = .ok (.istore_n 2, 1) := by decide +kernel
theorem dX11_takes_12 : decode cX11_takes 12 = .ok (.bipush (-4), 2) := by decide +kernel
theorem dX11_takes_14 : decode cX11_takes 14 = .ok (.istore_n 3, 1) := by decide +kernel
theorem dX11_takes_15 : decode cX11_takes 15 = .ok (.iconst 0, 1) := by decide +kernel
theorem dX11_takes_16 : decode cX11_takes 16 = .ok (.istore 4, 2) := by decide +kernel
theorem dX11_takes_18 : decode cX11_takes 18 = .ok (.iload 4, 2) := by decide +kernel
theorem dX11_takes_20 : decode cX11_takes 20 = .ok (.iload_n 1, 1) := by decide +kernel
theorem dX11_takes_21 : decode cX11_takes 21 = .ok (.if_icmp .gt 100, 3) := by decide +kernel
theorem dX11_takes_24 : decode cX11_takes 24 = .ok (.iload 4, 2) := by decide +kernel
theorem dX11_takes_26 : decode cX11_takes 26 = .ok (.bipush 6, 2) := by decide +kernel
theorem dX11_takes_28 : decode cX11_takes 28 = .ok (.if_icmp .gt 93, 3) := by decide +kernel
theorem dX11_takes_31 : decode cX11_takes 31 = .ok (.bipush (-4), 2) := by decide +kernel
theorem dX11_takes_33 : decode cX11_takes 33 = .ok (.istore_n 3, 1) := by decide +kernel
theorem dX11_takes_34 : decode cX11_takes 34 = .ok (.iconst 0, 1) := by decide +kernel
theorem dX11_takes_35 : decode cX11_takes 35 = .ok (.istore 5, 2) := by decide +kernel
theorem dX11_takes_37 : decode cX11_takes 37 = .ok (.iload 5, 2) := by decide +kernel
theorem dX11_takes_39 : decode cX11_takes 39 = .ok (.aload_n 0, 1) := by decide +kernel
theorem dX11_takes_40 : decode cX11_takes 40 = .ok (.getfield 7, 3) := by decide +kernel
theorem dX11_takes_43 : decode cX11_takes 43 = .ok (.bipush 46, 2) := by decide +kernel
theorem dX11_takes_45 : decode cX11_takes 45 = .ok (.iaload, 1) := by decide +kernel
theorem dX11_takes_46 : decode cX11_takes 46 = .ok (.if_icmp .ge 53, 3) := by decide +kernel
theorem dX11_takes_49 : decode cX11_takes 49 = .ok (.iload_n 2, 1) := by decide +kernel
theorem dX11_takes_50 : decode cX11_takes 50 = .ok (.iload 5, 2) := by decide +kernel
theorem dX11_takes_52 : decode cX11_takes 52 = .ok (.ishr, 1) := by decide +kernel
theorem dX11_takes_53 : decode cX11_takes 53 = .ok (.iconst 1, 1) := by decide +kernel
theorem dX11_takes_54 : decode cX11_takes 54 = .ok (.iand, 1) := by decide +kernel
theorem dX11_takes_55 : decode cX11_takes 55 = .ok (.ifCond .ne 23, 3) := by decide +kernel
theorem dX11_takes_58 : decode cX11_takes 58 = .ok (.iload_n 3, 1) := by decide +kernel
theorem dX11_takes_59 : decode cX11_takes 59 = .ok (.bipush (-4), 2) := by decide +kernel
theorem dX11_takes_61 : decode cX11_takes 61 = .ok (.if_icmp .eq 13, 3) := by decide +kernel
theorem dX11_takes_64 : decode cX11_takes 64 = .ok (.aload_n 0, 1) := by decide +kernel
theorem dX11_takes_65 : decode cX11_takes 65 = .ok (.iload 5, 2) := by decide +kernel
theorem dX11_takes_67 : decode cX11_takes 67 = .ok (.iload_n 3, 1) := by decide +kernel
theorem dX11_takes_68 : decode cX11_takes 68 = .ok (.invokevirtual 285, 3) := by decide +kernel
theorem dX11_takes_71 : decode cX11_takes 71 = .ok (.ifCond .eq 7, 3) := by decide +kernel
theorem dX11_takes_74 : decode cX11_takes 74 = .ok (.iconst 1, 1) := by decide +kernel
theorem dX11_takes_75 : decode cX11_takes 75 = .ok (.goto 4, 3) := by decide +kernel
theorem dX11_takes_78 : decode cX11_takes 78 = .ok (.iconst 0, 1) := by decide +kernel
theorem dX11_takes_79 : decode cX11_takes 79 = .ok (.istore 6, 2) := by decide +kernel
theorem dX11_takes_81 : decode cX11_takes 81 = .ok (.iload 6, 2) := by decide +kernel
theorem dX11_takes_83 : decode cX11_takes 83 = .ok (.ifCond .eq 8, 3) := by decide +kernel
theorem dX11_takes_86 : decode cX11_takes 86 = .ok (.iload 5, 2) := by decide +kernel
theorem dX11_takes_88 : decode cX11_takes 88 = .ok (.goto 4, 3) := by decide +kernel
theorem dX11_takes_91 : decode cX11_takes 91 = .ok (.iload_n 3, 1) := by decide +kernel
theorem dX11_takes_92 : decode cX11_takes 92 = .ok (.istore_n 3, 1) := by decide +kernel
theorem dX11_takes_93 : decode cX11_takes 93 = .ok (.iinc 5 1, 3) := by decide +kernel
theorem dX11_takes_96 : decode cX11_takes 96 = .ok (.goto (-59), 3) := by decide +kernel
theorem dX11_takes_99 : decode cX11_takes 99 = .ok (.iload_n 2, 1) := by decide +kernel
theorem dX11_takes_100 : decode cX11_takes 100 = .ok (.iload_n 3, 1) := by decide +kernel
theorem dX11_takes_101 : decode cX11_takes 101 = .ok (.bipush (-4), 2) := by decide +kernel
theorem dX11_takes_103 : decode cX11_takes 103 = .ok (.if_icmp .ne 7, 3) := by decide +kernel
theorem dX11_takes_106 : decode cX11_takes 106 = .ok (.iconst 0, 1) := by decide +kernel
theorem dX11_takes_107 : decode cX11_takes 107 = .ok (.goto 6, 3) := by decide +kernel
theorem dX11_takes_110 : decode cX11_takes 110 = .ok (.iconst 1, 1) := by decide +kernel
theorem dX11_takes_111 : decode cX11_takes 111 = .ok (.iload_n 3, 1) := by decide +kernel
theorem dX11_takes_112 : decode cX11_takes 112 = .ok (.ishl, 1) := by decide +kernel
theorem dX11_takes_113 : decode cX11_takes 113 = .ok (.ior, 1) := by decide +kernel
theorem dX11_takes_114 : decode cX11_takes 114 = .ok (.istore_n 2, 1) := by decide +kernel
theorem dX11_takes_115 : decode cX11_takes 115 = .ok (.iinc 4 1, 3) := by decide +kernel
theorem dX11_takes_118 : decode cX11_takes 118 = .ok (.goto (-100), 3) := by decide +kernel
theorem dX11_takes_121 : decode cX11_takes 121 = .ok (.iload_n 3, 1) := by decide +kernel
theorem dX11_takes_122 : decode cX11_takes 122 = .ok (.ireturn, 1) := by decide +kernel
theorem dX11_morning_0 : decode cX11_morning 0 = .ok (.iload_n 1, 1) := by decide +kernel
theorem dX11_morning_1 : decode cX11_morning 1 = .ok (.i2l, 1) := by decide +kernel
theorem dX11_morning_2 : decode cX11_morning 2 = .ok (.lconst 0, 1) := by decide +kernel
theorem dX11_morning_3 : decode cX11_morning 3 = .ok (.ldc2_w 288, 3) := by decide +kernel
theorem dX11_morning_6 : decode cX11_morning 6 = .ok (.invokestatic 78, 3) := by decide +kernel
theorem dX11_morning_9 : decode cX11_morning 9 = .ok (.ifCond .ne 7, 3) := by decide +kernel
theorem dX11_morning_12 : decode cX11_morning 12 = .ok (.ldc2_w 270, 3) := by decide +kernel
theorem dX11_morning_15 : decode cX11_morning 15 = .ok (.lreturn, 1) := by decide +kernel
theorem dX11_morning_16 : decode cX11_morning 16 = .ok (.lconst 0, 1) := by decide +kernel
theorem dX11_morning_17 : decode cX11_morning 17 = .ok (.lstore_n 2, 1) := by decide +kernel
theorem dX11_morning_18 : decode cX11_morning 18 = .ok (.lconst 1, 1) := by decide +kernel
theorem dX11_morning_19 : decode cX11_morning 19 = .ok (.lstore 4, 2) := by decide +kernel
theorem dX11_morning_21 : decode cX11_morning 21 = .ok (.lconst 1, 1) := by decide +kernel
theorem dX11_morning_22 : decode cX11_morning 22 = .ok (.lstore 6, 2) := by decide +kernel
theorem dX11_morning_24 : decode cX11_morning 24 = .ok (.iconst 0, 1) := by decide +kernel
theorem dX11_morning_25 : decode cX11_morning 25 = .ok (.istore 8, 2) := by decide +kernel
theorem dX11_morning_27 : decode cX11_morning 27 = .ok (.iload 8, 2) := by decide +kernel
theorem dX11_morning_29 : decode cX11_morning 29 = .ok (.aload_n 0, 1) := by decide +kernel
theorem dX11_morning_30 : decode cX11_morning 30 = .ok (.getfield 7, 3) := by decide +kernel
theorem dX11_morning_33 : decode cX11_morning 33 = .ok (.bipush 46, 2) := by decide +kernel
theorem dX11_morning_35 : decode cX11_morning 35 = .ok (.iaload, 1) := by decide +kernel
theorem dX11_morning_36 : decode cX11_morning 36 = .ok (.if_icmp .ge 72, 3) := by decide +kernel
theorem dX11_morning_39 : decode cX11_morning 39 = .ok (.aload_n 0, 1) := by decide +kernel
theorem dX11_morning_40 : decode cX11_morning 40 = .ok (.getfield 7, 3) := by decide +kernel
theorem dX11_morning_43 : decode cX11_morning 43 = .ok (.bipush 47, 2) := by decide +kernel
theorem dX11_morning_45 : decode cX11_morning 45 = .ok (.bipush 8, 2) := by decide +kernel
theorem dX11_morning_47 : decode cX11_morning 47 = .ok (.iload 8, 2) := by decide +kernel
theorem dX11_morning_49 : decode cX11_morning 49 = .ok (.imul, 1) := by decide +kernel
theorem dX11_morning_50 : decode cX11_morning 50 = .ok (.iadd, 1) := by decide +kernel
theorem dX11_morning_51 : decode cX11_morning 51 = .ok (.iconst 2, 1) := by decide +kernel
theorem dX11_morning_52 : decode cX11_morning 52 = .ok (.iadd, 1) := by decide +kernel
theorem dX11_morning_53 : decode cX11_morning 53 = .ok (.iaload, 1) := by decide +kernel
theorem dX11_morning_54 : decode cX11_morning 54 = .ok (.istore 9, 2) := by decide +kernel
theorem dX11_morning_56 : decode cX11_morning 56 = .ok (.iload 9, 2) := by decide +kernel
theorem dX11_morning_58 : decode cX11_morning 58 = .ok (.bipush (-4), 2) := by decide +kernel
theorem dX11_morning_60 : decode cX11_morning 60 = .ok (.if_icmp .ne 7, 3) := by decide +kernel
theorem dX11_morning_63 : decode cX11_morning 63 = .ok (.iconst 0, 1) := by decide +kernel
theorem dX11_morning_64 : decode cX11_morning 64 = .ok (.goto 11, 3) := by decide +kernel
theorem dX11_morning_67 : decode cX11_morning 67 = .ok (.iconst 1, 1) := by decide +kernel
theorem dX11_morning_68 : decode cX11_morning 68 = .ok (.iconst 2, 1) := by decide +kernel
theorem dX11_morning_69 : decode cX11_morning 69 = .ok (.iload 9, 2) := by decide +kernel
theorem dX11_morning_71 : decode cX11_morning 71 = .ok (.iconst 3, 1) := by decide +kernel
theorem dX11_morning_72 : decode cX11_morning 72 = .ok (.irem, 1) := by decide +kernel
theorem dX11_morning_73 : decode cX11_morning 73 = .ok (.imul, 1) := by decide +kernel
theorem dX11_morning_74 : decode cX11_morning 74 = .ok (.iadd, 1) := by decide +kernel
theorem dX11_morning_75 : decode cX11_morning 75 = .ok (.istore 10, 2) := by decide +kernel
theorem dX11_morning_77 : decode cX11_morning 77 = .ok (.lload_n 2, 1) := by decide +kernel
theorem dX11_morning_78 : decode cX11_morning 78 = .ok (.iload 10, 2) := by decide +kernel
theorem dX11_morning_80 : decode cX11_morning 80 = .ok (.i2l, 1) := by decide +kernel
theorem dX11_morning_81 : decode cX11_morning 81 = .ok (.ladd, 1) := by decide +kernel
theorem dX11_morning_82 : decode cX11_morning 82 = .ok (.lstore_n 2, 1) := by decide +kernel
theorem dX11_morning_83 : decode cX11_morning 83 = .ok (.lload 4, 2) := by decide +kernel
theorem dX11_morning_85 : decode cX11_morning 85 = .ok (.bipush 10, 2) := by decide +kernel
theorem dX11_morning_87 : decode cX11_morning 87 = .ok (.iload 10, 2) := by decide +kernel
theorem dX11_morning_89 : decode cX11_morning 89 = .ok (.isub, 1) := by decide +kernel
theorem dX11_morning_90 : decode cX11_morning 90 = .ok (.i2l, 1) := by decide +kernel
theorem dX11_morning_91 : decode cX11_morning 91 = .ok (.lmul, 1) := by decide +kernel
theorem dX11_morning_92 : decode cX11_morning 92 = .ok (.lstore 4, 2) := by decide +kernel
theorem dX11_morning_94 : decode cX11_morning 94 = .ok (.lload 6, 2) := by decide +kernel
theorem dX11_morning_96 : decode cX11_morning 96 = .ok (.ldc2_w 290, 3) := by decide +kernel
theorem dX11_morning_99 : decode cX11_morning 99 = .ok (.lmul, 1) := by decide +kernel
theorem dX11_morning_100 : decode cX11_morning 100 = .ok (.lstore 6, 2) := by decide +kernel
theorem dX11_morning_102 : decode cX11_morning 102 = .ok (.iinc 8 1, 3) := by decide +kernel
theorem dX11_morning_105 : decode cX11_morning 105 = .ok (.goto (-78), 3) := by decide +kernel
theorem dX11_morning_108 : decode cX11_morning 108 = .ok (.iload_n 1, 1) := by decide +kernel
theorem dX11_morning_109 : decode cX11_morning 109 = .ok (.iconst 2, 1) := by decide +kernel
theorem dX11_morning_110 : decode cX11_morning 110 = .ok (.if_icmp .ge 22, 3) := by decide +kernel
theorem dX11_morning_113 : decode cX11_morning 113 = .ok (.lload_n 2, 1) := by decide +kernel
theorem dX11_morning_114 : decode cX11_morning 114 = .ok (.ldc2_w 290, 3) := by decide +kernel
theorem dX11_morning_117 : decode cX11_morning 117 = .ok (.iload_n 1, 1) := by decide +kernel
theorem dX11_morning_118 : decode cX11_morning 118 = .ok (.ifCond .ne 7, 3) := by decide +kernel
theorem dX11_morning_121 : decode cX11_morning 121 = .ok (.iconst 1, 1) := by decide +kernel
theorem dX11_morning_122 : decode cX11_morning 122 = .ok (.goto 4, 3) := by decide +kernel
theorem dX11_morning_125 : decode cX11_morning 125 = .ok (.iconst 0, 1) := by decide +kernel
theorem dX11_morning_126 : decode cX11_morning 126 = .ok (.invokestatic 279, 3) := by decide +kernel
theorem dX11_morning_129 : decode cX11_morning 129 = .ok (.goto 20, 3) := by decide +kernel
theorem dX11_morning_132 : decode cX11_morning 132 = .ok (.lload 4, 2) := by decide +kernel
theorem dX11_morning_134 : decode cX11_morning 134 = .ok (.lload 6, 2) := by decide +kernel
theorem dX11_morning_136 : decode cX11_morning 136 = .ok (.iload_n 1, 1) := by decide +kernel
theorem dX11_morning_137 : decode cX11_morning 137 = .ok (.iconst 2, 1) := by decide +kernel
theorem dX11_morning_138 : decode cX11_morning 138 = .ok (.if_icmp .ne 7, 3) := by decide +kernel
theorem dX11_morning_141 : decode cX11_morning 141 = .ok (.iconst 1, 1) := by decide +kernel
theorem dX11_morning_142 : decode cX11_morning 142 = .ok (.goto 4, 3) := by decide +kernel
theorem dX11_morning_145 : decode cX11_morning 145 = .ok (.iconst 0, 1) := by decide +kernel
theorem dX11_morning_146 : decode cX11_morning 146 = .ok (.invokestatic 279, 3) := by decide +kernel
theorem dX11_morning_149 : decode cX11_morning 149 = .ok (.lreturn, 1) := by decide +kernel
theorem dX11_drift_0 : decode cX11_drift 0 = .ok (.iload_n 2, 1) := by decide +kernel
theorem dX11_drift_1 : decode cX11_drift 1 = .ok (.i2l, 1) := by decide +kernel
theorem dX11_drift_2 : decode cX11_drift 2 = .ok (.lconst 1, 1) := by decide +kernel
theorem dX11_drift_3 : decode cX11_drift 3 = .ok (.ldc2_w 236, 3) := by decide +kernel
theorem dX11_drift_6 : decode cX11_drift 6 = .ok (.invokestatic 78, 3) := by decide +kernel
theorem dX11_drift_9 : decode cX11_drift 9 = .ok (.ifCond .eq 13, 3) := by decide +kernel
theorem dX11_drift_12 : decode cX11_drift 12 = .ok (.iload_n 3, 1) := by decide +kernel
theorem dX11_drift_13 : decode cX11_drift 13 = .ok (.i2l, 1) := by decide +kernel
theorem dX11_drift_14 : decode cX11_drift 14 = .ok (.lconst 0, 1) := by decide +kernel
theorem dX11_drift_15 : decode cX11_drift 15 = .ok (.lconst 1, 1) := by decide +kernel
theorem dX11_drift_16 : decode cX11_drift 16 = .ok (.invokestatic 78, 3) := by decide +kernel
theorem dX11_drift_19 : decode cX11_drift 19 = .ok (.ifCond .ne 5, 3) := by decide +kernel
theorem dX11_drift_22 : decode cX11_drift 22 = .ok (.iconst (-1), 1) := by decide +kernel
theorem dX11_drift_23 : decode cX11_drift 23 = .ok (.ireturn, 1) := by decide +kernel
theorem dX11_drift_24 : decode cX11_drift 24 = .ok (.aload_n 0, 1) := by decide +kernel
theorem dX11_drift_25 : decode cX11_drift 25 = .ok (.getfield 7, 3) := by decide +kernel
theorem dX11_drift_28 : decode cX11_drift 28 = .ok (.bipush 46, 2) := by decide +kernel
theorem dX11_drift_30 : decode cX11_drift 30 = .ok (.iaload, 1) := by decide +kernel
theorem dX11_drift_31 : decode cX11_drift 31 = .ok (.ifCond .ne 6, 3) := by decide +kernel
theorem dX11_drift_34 : decode cX11_drift 34 = .ok (.bipush (-2), 2) := by decide +kernel
theorem dX11_drift_36 : decode cX11_drift 36 = .ok (.ireturn, 1) := by decide +kernel
theorem dX11_drift_37 : decode cX11_drift 37 = .ok (.aload_n 0, 1) := by decide +kernel
theorem dX11_drift_38 : decode cX11_drift 38 = .ok (.invokevirtual 222, 3) := by decide +kernel
theorem dX11_drift_41 : decode cX11_drift 41 = .ok (.iload_n 1, 1) := by decide +kernel
theorem dX11_drift_42 : decode cX11_drift 42 = .ok (.istore 4, 2) := by decide +kernel
theorem dX11_drift_44 : decode cX11_drift 44 = .ok (.iconst 0, 1) := by decide +kernel
theorem dX11_drift_45 : decode cX11_drift 45 = .ok (.istore 5, 2) := by decide +kernel
theorem dX11_drift_47 : decode cX11_drift 47 = .ok (.iload 5, 2) := by decide +kernel
theorem dX11_drift_49 : decode cX11_drift 49 = .ok (.iload_n 2, 1) := by decide +kernel
theorem dX11_drift_50 : decode cX11_drift 50 = .ok (.if_icmp .ge 119, 3) := by decide +kernel
theorem dX11_drift_53 : decode cX11_drift 53 = .ok (.iload 4, 2) := by decide +kernel
theorem dX11_drift_55 : decode cX11_drift 55 = .ok (.ldc_w 292, 3) := by decide +kernel
theorem dX11_drift_58 : decode cX11_drift 58 = .ok (.imul, 1) := by decide +kernel
theorem dX11_drift_59 : decode cX11_drift 59 = .ok (.sipush 12345, 3) := by decide +kernel
theorem dX11_drift_62 : decode cX11_drift 62 = .ok (.iadd, 1) := by decide +kernel
theorem dX11_drift_63 : decode cX11_drift 63 = .ok (.istore 4, 2) := by decide +kernel
theorem dX11_drift_65 : decode cX11_drift 65 = .ok (.iload 4, 2) := by decide +kernel
theorem dX11_drift_67 : decode cX11_drift 67 = .ok (.bipush 16, 2) := by decide +kernel
theorem dX11_drift_69 : decode cX11_drift 69 = .ok (.ishr, 1) := by decide +kernel
theorem dX11_drift_70 : decode cX11_drift 70 = .ok (.sipush 32767, 3) := by decide +kernel
theorem dX11_drift_73 : decode cX11_drift 73 = .ok (.iand, 1) := by decide +kernel
theorem dX11_drift_74 : decode cX11_drift 74 = .ok (.aload_n 0, 1) := by decide +kernel
theorem dX11_drift_75 : decode cX11_drift 75 = .ok (.getfield 7, 3) := by decide +kernel
theorem dX11_drift_78 : decode cX11_drift 78 = .ok (.bipush 46, 2) := by decide +kernel
theorem dX11_drift_80 : decode cX11_drift 80 = .ok (.iaload, 1) := by decide +kernel
theorem dX11_drift_81 : decode cX11_drift 81 = .ok (.irem, 1) := by decide +kernel
theorem dX11_drift_82 : decode cX11_drift 82 = .ok (.istore 6, 2) := by decide +kernel
theorem dX11_drift_84 : decode cX11_drift 84 = .ok (.iload 4, 2) := by decide +kernel
theorem dX11_drift_86 : decode cX11_drift 86 = .ok (.ldc_w 292, 3) := by decide +kernel
theorem dX11_drift_89 : decode cX11_drift 89 = .ok (.imul, 1) := by decide +kernel
theorem dX11_drift_90 : decode cX11_drift 90 = .ok (.sipush 12345, 3) := by decide +kernel
theorem dX11_drift_93 : decode cX11_drift 93 = .ok (.iadd, 1) := by decide +kernel
theorem dX11_drift_94 : decode cX11_drift 94 = .ok (.istore 4, 2) := by decide +kernel
theorem dX11_drift_96 : decode cX11_drift 96 = .ok (.iload 4, 2) := by decide +kernel
theorem dX11_drift_98 : decode cX11_drift 98 = .ok (.bipush 16, 2) := by decide +kernel
theorem dX11_drift_100 : decode cX11_drift 100 = .ok (.ishr, 1) := by decide +kernel
theorem dX11_drift_101 : decode cX11_drift 101 = .ok (.sipush 32767, 3) := by decide +kernel
theorem dX11_drift_104 : decode cX11_drift 104 = .ok (.iand, 1) := by decide +kernel
theorem dX11_drift_105 : decode cX11_drift 105 = .ok (.iconst 3, 1) := by decide +kernel
theorem dX11_drift_106 : decode cX11_drift 106 = .ok (.irem, 1) := by decide +kernel
theorem dX11_drift_107 : decode cX11_drift 107 = .ok (.istore 7, 2) := by decide +kernel
theorem dX11_drift_109 : decode cX11_drift 109 = .ok (.iload 7, 2) := by decide +kernel
theorem dX11_drift_111 : decode cX11_drift 111 = .ok (.ifCond .ne 24, 3) := by decide +kernel
theorem dX11_drift_114 : decode cX11_drift 114 = .ok (.aload_n 0, 1) := by decide +kernel
theorem dX11_drift_115 : decode cX11_drift 115 = .ok (.iload 6, 2) := by decide +kernel
theorem dX11_drift_117 : decode cX11_drift 117 = .ok (.bipush 6, 2) := by decide +kernel
theorem dX11_drift_119 : decode cX11_drift 119 = .ok (.iconst 1, 1) := by decide +kernel
theorem dX11_drift_120 : decode cX11_drift 120 = .ok (.aload_n 0, 1) := by decide +kernel
theorem dX11_drift_121 : decode cX11_drift 121 = .ok (.iload 6, 2) := by decide +kernel
theorem dX11_drift_123 : decode cX11_drift 123 = .ok (.bipush 6, 2) := by decide +kernel
theorem dX11_drift_125 : decode cX11_drift 125 = .ok (.invokevirtual 173, 3) := by decide +kernel
theorem dX11_drift_128 : decode cX11_drift 128 = .ok (.isub, 1) := by decide +kernel
theorem dX11_drift_129 : decode cX11_drift 129 = .ok (.invokevirtual 179, 3) := by decide +kernel
theorem dX11_drift_132 : decode cX11_drift 132 = .ok (.goto 27, 3) := by decide +kernel
theorem dX11_drift_135 : decode cX11_drift 135 = .ok (.iload 7, 2) := by decide +kernel
theorem dX11_drift_137 : decode cX11_drift 137 = .ok (.iconst 1, 1) := by decide +kernel
theorem dX11_drift_138 : decode cX11_drift 138 = .ok (.if_icmp .ne 21, 3) := by decide +kernel
theorem dX11_drift_141 : decode cX11_drift 141 = .ok (.aload_n 0, 1) := by decide +kernel
theorem dX11_drift_142 : decode cX11_drift 142 = .ok (.iload 6, 2) := by decide +kernel
theorem dX11_drift_144 : decode cX11_drift 144 = .ok (.invokevirtual 199, 3) := by decide +kernel
theorem dX11_drift_147 : decode cX11_drift 147 = .ok (.ifCond .eq 12, 3) := by decide +kernel
theorem dX11_drift_150 : decode cX11_drift 150 = .ok (.aload_n 0, 1) := by decide +kernel
theorem dX11_drift_151 : decode cX11_drift 151 = .ok (.iload 6, 2) := by decide +kernel
theorem dX11_drift_153 : decode cX11_drift 153 = .ok (.iconst 2, 1) := by decide +kernel
theorem dX11_drift_154 : decode cX11_drift 154 = .ok (.bipush (-4), 2) := by decide +kernel
theorem dX11_drift_156 : decode cX11_drift 156 = .ok (.invokevirtual 179, 3) := by decide +kernel
theorem dX11_drift_159 : decode cX11_drift 159 = .ok (.aload_n 0, 1) := by decide +kernel
theorem dX11_drift_160 : decode cX11_drift 160 = .ok (.invokevirtual 196, 3) := by decide +kernel
theorem dX11_drift_163 : decode cX11_drift 163 = .ok (.iinc 5 1, 3) := by decide +kernel
theorem dX11_drift_166 : decode cX11_drift 166 = .ok (.goto (-119), 3) := by decide +kernel
theorem dX11_drift_169 : decode cX11_drift 169 = .ok (.iload_n 3, 1) := by decide +kernel
theorem dX11_drift_170 : decode cX11_drift 170 = .ok (.ifCond .ne 10, 3) := by decide +kernel
theorem dX11_drift_173 : decode cX11_drift 173 = .ok (.aload_n 0, 1) := by decide +kernel
theorem dX11_drift_174 : decode cX11_drift 174 = .ok (.invokevirtual 241, 3) := by decide +kernel
theorem dX11_drift_177 : decode cX11_drift 177 = .ok (.goto 7, 3) := by decide +kernel
theorem dX11_drift_180 : decode cX11_drift 180 = .ok (.aload_n 0, 1) := by decide +kernel
theorem dX11_drift_181 : decode cX11_drift 181 = .ok (.invokevirtual 293, 3) := by decide +kernel
theorem dX11_drift_184 : decode cX11_drift 184 = .ok (.ireturn, 1) := by decide +kernel
theorem dX11_copies_0 : decode cX11_copies 0 = .ok (.iconst 0, 1) := by decide +kernel
theorem dX11_copies_1 : decode cX11_copies 1 = .ok (.istore_n 3, 1) := by decide +kernel
theorem dX11_copies_2 : decode cX11_copies 2 = .ok (.iload_n 3, 1) := by decide +kernel
theorem dX11_copies_3 : decode cX11_copies 3 = .ok (.bipush 115, 2) := by decide +kernel
theorem dX11_copies_5 : decode cX11_copies 5 = .ok (.if_icmp .ge 25, 3) := by decide +kernel
theorem dX11_copies_8 : decode cX11_copies 8 = .ok (.aload_n 0, 1) := by decide +kernel
theorem dX11_copies_9 : decode cX11_copies 9 = .ok (.getfield 7, 3) := by decide +kernel
theorem dX11_copies_12 : decode cX11_copies 12 = .ok (.iload_n 1, 1) := by decide +kernel
theorem dX11_copies_13 : decode cX11_copies 13 = .ok (.iload_n 3, 1) := by decide +kernel
theorem dX11_copies_14 : decode cX11_copies 14 = .ok (.iadd, 1) := by decide +kernel
theorem dX11_copies_15 : decode cX11_copies 15 = .ok (.aload_n 0, 1) := by decide +kernel
theorem dX11_copies_16 : decode cX11_copies 16 = .ok (.getfield 7, 3) := by decide +kernel
theorem dX11_copies_19 : decode cX11_copies 19 = .ok (.iload_n 2, 1) := by decide +kernel
theorem dX11_copies_20 : decode cX11_copies 20 = .ok (.iload_n 3, 1) := by decide +kernel
theorem dX11_copies_21 : decode cX11_copies 21 = .ok (.iadd, 1) := by decide +kernel
theorem dX11_copies_22 : decode cX11_copies 22 = .ok (.iaload, 1) := by decide +kernel
theorem dX11_copies_23 : decode cX11_copies 23 = .ok (.iastore, 1) := by decide +kernel
theorem dX11_copies_24 : decode cX11_copies 24 = .ok (.iinc 3 1, 3) := by decide +kernel
theorem dX11_copies_27 : decode cX11_copies 27 = .ok (.goto (-25), 3) := by decide +kernel
theorem dX11_copies_30 : decode cX11_copies 30 = .ok (.return_, 1) := by decide +kernel
theorem dX11_keep_0 : decode cX11_keep 0 = .ok (.iload_n 1, 1) := by decide +kernel
theorem dX11_keep_1 : decode cX11_keep 1 = .ok (.i2l, 1) := by decide +kernel
theorem dX11_keep_2 : decode cX11_keep 2 = .ok (.lconst 0, 1) := by decide +kernel
theorem dX11_keep_3 : decode cX11_keep 3 = .ok (.lconst 1, 1) := by decide +kernel
theorem dX11_keep_4 : decode cX11_keep 4 = .ok (.invokestatic 78, 3) := by decide +kernel
theorem dX11_keep_7 : decode cX11_keep 7 = .ok (.ifCond .ne 5, 3) := by decide +kernel
theorem dX11_keep_10 : decode cX11_keep 10 = .ok (.iconst (-1), 1) := by decide +kernel
theorem dX11_keep_11 : decode cX11_keep 11 = .ok (.ireturn, 1) := by decide +kernel
theorem dX11_keep_12 : decode cX11_keep 12 = .ok (.aload_n 0, 1) := by decide +kernel
theorem dX11_keep_13 : decode cX11_keep 13 = .ok (.getfield 16, 3) := by decide +kernel
theorem dX11_keep_16 : decode cX11_keep 16 = .ok (.iload_n 1, 1) := by decide +kernel
theorem dX11_keep_17 : decode cX11_keep 17 = .ok (.baload, 1) := by decide +kernel
theorem dX11_keep_18 : decode cX11_keep 18 = .ok (.invokestatic 208, 3) := by decide +kernel
theorem dX11_keep_21 : decode cX11_keep 21 = .ok (.istore_n 2, 1) := by decide +kernel
theorem dX11_keep_22 : decode cX11_keep 22 = .ok (.aload_n 0, 1) := by decide +kernel
theorem dX11_keep_23 : decode cX11_keep 23 = .ok (.getfield 16, 3) := by decide +kernel
theorem dX11_keep_26 : decode cX11_keep 26 = .ok (.iload_n 1, 1) := by decide +kernel
theorem dX11_keep_27 : decode cX11_keep 27 = .ok (.iconst 1, 1) := by decide +kernel
theorem dX11_keep_28 : decode cX11_keep 28 = .ok (.bastore, 1) := by decide +kernel
theorem dX11_keep_29 : decode cX11_keep 29 = .ok (.aload_n 0, 1) := by decide +kernel
theorem dX11_keep_30 : decode cX11_keep 30 = .ok (.bipush 115, 2) := by decide +kernel
theorem dX11_keep_32 : decode cX11_keep 32 = .ok (.iload_n 1, 1) := by decide +kernel
theorem dX11_keep_33 : decode cX11_keep 33 = .ok (.iconst 1, 1) := by decide +kernel
theorem dX11_keep_34 : decode cX11_keep 34 = .ok (.iadd, 1) := by decide +kernel
theorem dX11_keep_35 : decode cX11_keep 35 = .ok (.imul, 1) := by decide +kernel
theorem dX11_keep_36 : decode cX11_keep 36 = .ok (.iconst 0, 1) := by decide +kernel
theorem dX11_keep_37 : decode cX11_keep 37 = .ok (.invokevirtual 296, 3) := by decide +kernel
theorem dX11_keep_40 : decode cX11_keep 40 = .ok (.iload_n 2, 1) := by decide +kernel
theorem dX11_keep_41 : decode cX11_keep 41 = .ok (.ireturn, 1) := by decide +kernel
theorem dX11_back_0 : decode cX11_back 0 = .ok (.iload_n 1, 1) := by decide +kernel
theorem dX11_back_1 : decode cX11_back 1 = .ok (.i2l, 1) := by decide +kernel
theorem dX11_back_2 : decode cX11_back 2 = .ok (.lconst 0, 1) := by decide +kernel
theorem dX11_back_3 : decode cX11_back 3 = .ok (.lconst 1, 1) := by decide +kernel
theorem dX11_back_4 : decode cX11_back 4 = .ok (.invokestatic 78, 3) := by decide +kernel
theorem dX11_back_7 : decode cX11_back 7 = .ok (.ifCond .ne 5, 3) := by decide +kernel
theorem dX11_back_10 : decode cX11_back 10 = .ok (.iconst (-1), 1) := by decide +kernel
theorem dX11_back_11 : decode cX11_back 11 = .ok (.ireturn, 1) := by decide +kernel
theorem dX11_back_12 : decode cX11_back 12 = .ok (.aload_n 0, 1) := by decide +kernel
theorem dX11_back_13 : decode cX11_back 13 = .ok (.getfield 16, 3) := by decide +kernel
theorem dX11_back_16 : decode cX11_back 16 = .ok (.iload_n 1, 1) := by decide +kernel
theorem dX11_back_17 : decode cX11_back 17 = .ok (.baload, 1) := by decide +kernel
theorem dX11_back_18 : decode cX11_back 18 = .ok (.ifCond .ne 6, 3) := by decide +kernel
theorem dX11_back_21 : decode cX11_back 21 = .ok (.bipush (-2), 2) := by decide +kernel
theorem dX11_back_23 : decode cX11_back 23 = .ok (.ireturn, 1) := by decide +kernel
theorem dX11_back_24 : decode cX11_back 24 = .ok (.aload_n 0, 1) := by decide +kernel
theorem dX11_back_25 : decode cX11_back 25 = .ok (.iconst 0, 1) := by decide +kernel
theorem dX11_back_26 : decode cX11_back 26 = .ok (.bipush 115, 2) := by decide +kernel
theorem dX11_back_28 : decode cX11_back 28 = .ok (.iload_n 1, 1) := by decide +kernel
theorem dX11_back_29 : decode cX11_back 29 = .ok (.iconst 1, 1) := by decide +kernel
theorem dX11_back_30 : decode cX11_back 30 = .ok (.iadd, 1) := by decide +kernel
theorem dX11_back_31 : decode cX11_back 31 = .ok (.imul, 1) := by decide +kernel
theorem dX11_back_32 : decode cX11_back 32 = .ok (.invokevirtual 296, 3) := by decide +kernel
theorem dX11_back_35 : decode cX11_back 35 = .ok (.aload_n 0, 1) := by decide +kernel
theorem dX11_back_36 : decode cX11_back 36 = .ok (.getfield 7, 3) := by decide +kernel
theorem dX11_back_39 : decode cX11_back 39 = .ok (.bipush 45, 2) := by decide +kernel
theorem dX11_back_41 : decode cX11_back 41 = .ok (.iaload, 1) := by decide +kernel
theorem dX11_back_42 : decode cX11_back 42 = .ok (.ireturn, 1) := by decide +kernel
theorem dX11_isSheet_0 : decode cX11_isSheet 0 = .ok (.iload_n 0, 1) := by decide +kernel
theorem dX11_isSheet_1 : decode cX11_isSheet 1 = .ok (.i2l, 1) := by decide +kernel
theorem dX11_isSheet_2 : decode cX11_isSheet 2 = .ok (.lconst 0, 1) := by decide +kernel
theorem dX11_isSheet_3 : decode cX11_isSheet 3 = .ok (.ldc2_w 288, 3) := by decide +kernel
theorem dX11_isSheet_6 : decode cX11_isSheet 6 = .ok (.invokestatic 78, 3) := by decide +kernel
theorem dX11_isSheet_9 : decode cX11_isSheet 9 = .ok (.ifCond .eq 19, 3) := by decide +kernel
theorem dX11_isSheet_12 : decode cX11_isSheet 12 = .ok (.iload_n 1, 1) := by decide +kernel
theorem dX11_isSheet_13 : decode cX11_isSheet 13 = .ok (.i2l, 1) := by decide +kernel
theorem dX11_isSheet_14 : decode cX11_isSheet 14 = .ok (.lconst 0, 1) := by decide +kernel
theorem dX11_isSheet_15 : decode cX11_isSheet 15 = .ok (.ldc2_w 215, 3) := by decide +kernel
theorem dX11_isSheet_18 : decode cX11_isSheet 18 = .ok (.invokestatic 78, 3) := by decide +kernel
theorem dX11_isSheet_21 : decode cX11_isSheet 21 = .ok (.ifCond .eq 7, 3) := by decide +kernel
theorem dX11_isSheet_24 : decode cX11_isSheet 24 = .ok (.iconst 1, 1) := by decide +kernel
theorem dX11_isSheet_25 : decode cX11_isSheet 25 = .ok (.goto 4, 3) := by decide +kernel
theorem dX11_isSheet_28 : decode cX11_isSheet 28 = .ok (.iconst 0, 1) := by decide +kernel
theorem dX11_isSheet_29 : decode cX11_isSheet 29 = .ok (.ireturn, 1) := by decide +kernel
theorem dX11_sheet_0 : decode cX11_sheet 0 = .ok (.iload_n 1, 1) := by decide +kernel
theorem dX11_sheet_1 : decode cX11_sheet 1 = .ok (.iload_n 2, 1) := by decide +kernel
theorem dX11_sheet_2 : decode cX11_sheet 2 = .ok (.invokestatic 299, 3) := by decide +kernel
theorem dX11_sheet_5 : decode cX11_sheet 5 = .ok (.ifCond .eq 9, 3) := by decide +kernel
theorem dX11_sheet_8 : decode cX11_sheet 8 = .ok (.iload_n 3, 1) := by decide +kernel
theorem dX11_sheet_9 : decode cX11_sheet 9 = .ok (.bipush 40, 2) := by decide +kernel
theorem dX11_sheet_11 : decode cX11_sheet 11 = .ok (.if_icmp .le 5, 3) := by decide +kernel
theorem dX11_sheet_14 : decode cX11_sheet 14 = .ok (.iconst (-1), 1) := by decide +kernel
theorem dX11_sheet_15 : decode cX11_sheet 15 = .ok (.ireturn, 1) := by decide +kernel
theorem dX11_sheet_16 : decode cX11_sheet 16 = .ok (.iload_n 3, 1) := by decide +kernel
theorem dX11_sheet_17 : decode cX11_sheet 17 = .ok (.ifCond .ge 6, 3) := by decide +kernel
theorem dX11_sheet_20 : decode cX11_sheet 20 = .ok (.bipush (-14), 2) := by decide +kernel
theorem dX11_sheet_22 : decode cX11_sheet 22 = .ok (.ireturn, 1) := by decide +kernel
theorem dX11_sheet_23 : decode cX11_sheet 23 = .ok (.aload_n 0, 1) := by decide +kernel
theorem dX11_sheet_24 : decode cX11_sheet 24 = .ok (.getfield 35, 3) := by decide +kernel
theorem dX11_sheet_27 : decode cX11_sheet 27 = .ok (.iload_n 1, 1) := by decide +kernel
theorem dX11_sheet_28 : decode cX11_sheet 28 = .ok (.iload_n 2, 1) := by decide +kernel
theorem dX11_sheet_29 : decode cX11_sheet 29 = .ok (.iastore, 1) := by decide +kernel
theorem dX11_sheet_30 : decode cX11_sheet 30 = .ok (.aload_n 0, 1) := by decide +kernel
theorem dX11_sheet_31 : decode cX11_sheet 31 = .ok (.getfield 38, 3) := by decide +kernel
theorem dX11_sheet_34 : decode cX11_sheet 34 = .ok (.iload_n 1, 1) := by decide +kernel
theorem dX11_sheet_35 : decode cX11_sheet 35 = .ok (.iload_n 3, 1) := by decide +kernel
theorem dX11_sheet_36 : decode cX11_sheet 36 = .ok (.iastore, 1) := by decide +kernel
theorem dX11_sheet_37 : decode cX11_sheet 37 = .ok (.iconst 0, 1) := by decide +kernel
theorem dX11_sheet_38 : decode cX11_sheet 38 = .ok (.istore 4, 2) := by decide +kernel
theorem dX11_sheet_40 : decode cX11_sheet 40 = .ok (.iload 4, 2) := by decide +kernel
theorem dX11_sheet_42 : decode cX11_sheet 42 = .ok (.bipush 40, 2) := by decide +kernel
theorem dX11_sheet_44 : decode cX11_sheet 44 = .ok (.if_icmp .ge 22, 3) := by decide +kernel
theorem dX11_sheet_47 : decode cX11_sheet 47 = .ok (.aload_n 0, 1) := by decide +kernel
theorem dX11_sheet_48 : decode cX11_sheet 48 = .ok (.getfield 41, 3) := by decide +kernel
theorem dX11_sheet_51 : decode cX11_sheet 51 = .ok (.bipush 40, 2) := by decide +kernel
theorem dX11_sheet_53 : decode cX11_sheet 53 = .ok (.iload_n 1, 1) := by decide +kernel
theorem dX11_sheet_54 : decode cX11_sheet 54 = .ok (.imul, 1) := by decide +kernel
theorem dX11_sheet_55 : decode cX11_sheet 55 = .ok (.iload 4, 2) := by decide +kernel
theorem dX11_sheet_57 : decode cX11_sheet 57 = .ok (.iadd, 1) := by decide +kernel
theorem dX11_sheet_58 : decode cX11_sheet 58 = .ok (.iconst 0, 1) := by decide +kernel
theorem dX11_sheet_59 : decode cX11_sheet 59 = .ok (.iastore, 1) := by decide +kernel
theorem dX11_sheet_60 : decode cX11_sheet 60 = .ok (.iinc 4 1, 3) := by decide +kernel
theorem dX11_sheet_63 : decode cX11_sheet 63 = .ok (.goto (-23), 3) := by decide +kernel
theorem dX11_sheet_66 : decode cX11_sheet 66 = .ok (.iconst 1, 1) := by decide +kernel
theorem dX11_sheet_67 : decode cX11_sheet 67 = .ok (.ireturn, 1) := by decide +kernel
theorem dX11_lay_0 : decode cX11_lay 0 = .ok (.iload_n 1, 1) := by decide +kernel
theorem dX11_lay_1 : decode cX11_lay 1 = .ok (.iconst 0, 1) := by decide +kernel
theorem dX11_lay_2 : decode cX11_lay 2 = .ok (.invokestatic 299, 3) := by decide +kernel
theorem dX11_lay_5 : decode cX11_lay 5 = .ok (.ifCond .ne 5, 3) := by decide +kernel
theorem dX11_lay_8 : decode cX11_lay 8 = .ok (.iconst (-1), 1) := by decide +kernel
theorem dX11_lay_9 : decode cX11_lay 9 = .ok (.ireturn, 1) := by decide +kernel
theorem dX11_lay_10 : decode cX11_lay 10 = .ok (.aload_n 0, 1) := by decide +kernel
theorem dX11_lay_11 : decode cX11_lay 11 = .ok (.getfield 35, 3) := by decide +kernel
theorem dX11_lay_14 : decode cX11_lay 14 = .ok (.iload_n 1, 1) := by decide +kernel
theorem dX11_lay_15 : decode cX11_lay 15 = .ok (.iaload, 1) := by decide +kernel
theorem dX11_lay_16 : decode cX11_lay 16 = .ok (.bipush (-4), 2) := by decide +kernel
theorem dX11_lay_18 : decode cX11_lay 18 = .ok (.if_icmp .ne 6, 3) := by decide +kernel
theorem dX11_lay_21 : decode cX11_lay 21 = .ok (.bipush (-11), 2) := by decide +kernel
theorem dX11_lay_23 : decode cX11_lay 23 = .ok (.ireturn, 1) := by decide +kernel
theorem dX11_lay_24 : decode cX11_lay 24 = .ok (.iload_n 2, 1) := by decide +kernel
theorem dX11_lay_25 : decode cX11_lay 25 = .ok (.i2l, 1) := by decide +kernel
theorem dX11_lay_26 : decode cX11_lay 26 = .ok (.lconst 0, 1) := by decide +kernel
theorem dX11_lay_27 : decode cX11_lay 27 = .ok (.aload_n 0, 1) := by decide +kernel
theorem dX11_lay_28 : decode cX11_lay 28 = .ok (.getfield 38, 3) := by decide +kernel
theorem dX11_lay_31 : decode cX11_lay 31 = .ok (.iload_n 1, 1) := by decide +kernel
theorem dX11_lay_32 : decode cX11_lay 32 = .ok (.iaload, 1) := by decide +kernel
theorem dX11_lay_33 : decode cX11_lay 33 = .ok (.iconst 1, 1) := by decide +kernel
theorem dX11_lay_34 : decode cX11_lay 34 = .ok (.isub, 1) := by decide +kernel
theorem dX11_lay_35 : decode cX11_lay 35 = .ok (.i2l, 1) := by decide +kernel
theorem dX11_lay_36 : decode cX11_lay 36 = .ok (.invokestatic 78, 3) := by decide +kernel
theorem dX11_lay_39 : decode cX11_lay 39 = .ok (.ifCond .ne 6, 3) := by decide +kernel
theorem dX11_lay_42 : decode cX11_lay 42 = .ok (.bipush (-12), 2) := by decide +kernel
theorem dX11_lay_44 : decode cX11_lay 44 = .ok (.ireturn, 1) := by decide +kernel
theorem dX11_lay_45 : decode cX11_lay 45 = .ok (.aload_n 0, 1) := by decide +kernel
theorem dX11_lay_46 : decode cX11_lay 46 = .ok (.getfield 41, 3) := by decide +kernel
theorem dX11_lay_49 : decode cX11_lay 49 = .ok (.bipush 40, 2) := by decide +kernel
theorem dX11_lay_51 : decode cX11_lay 51 = .ok (.iload_n 1, 1) := by decide +kernel
theorem dX11_lay_52 : decode cX11_lay 52 = .ok (.imul, 1) := by decide +kernel
theorem dX11_lay_53 : decode cX11_lay 53 = .ok (.iload_n 2, 1) := by decide +kernel
theorem dX11_lay_54 : decode cX11_lay 54 = .ok (.iadd, 1) := by decide +kernel
theorem dX11_lay_55 : decode cX11_lay 55 = .ok (.aload_n 0, 1) := by decide +kernel
theorem dX11_lay_56 : decode cX11_lay 56 = .ok (.getfield 35, 3) := by decide +kernel
theorem dX11_lay_59 : decode cX11_lay 59 = .ok (.iload_n 1, 1) := by decide +kernel
theorem dX11_lay_60 : decode cX11_lay 60 = .ok (.iaload, 1) := by decide +kernel
theorem dX11_lay_61 : decode cX11_lay 61 = .ok (.ifCond .ne 8, 3) := by decide +kernel
theorem dX11_lay_64 : decode cX11_lay 64 = .ok (.iload_n 3, 1) := by decide +kernel
theorem dX11_lay_65 : decode cX11_lay 65 = .ok (.i2b, 1) := by decide +kernel
theorem dX11_lay_66 : decode cX11_lay 66 = .ok (.goto 19, 3) := by decide +kernel
theorem dX11_lay_69 : decode cX11_lay 69 = .ok (.aload_n 0, 1) := by decide +kernel
theorem dX11_lay_70 : decode cX11_lay 70 = .ok (.getfield 35, 3) := by decide +kernel
theorem dX11_lay_73 : decode cX11_lay 73 = .ok (.iload_n 1, 1) := by decide +kernel
theorem dX11_lay_74 : decode cX11_lay 74 = .ok (.iaload, 1) := by decide +kernel
theorem dX11_lay_75 : decode cX11_lay 75 = .ok (.iconst 1, 1) := by decide +kernel
theorem dX11_lay_76 : decode cX11_lay 76 = .ok (.if_icmp .ne 8, 3) := by decide +kernel
theorem dX11_lay_79 : decode cX11_lay 79 = .ok (.iload_n 3, 1) := by decide +kernel
theorem dX11_lay_80 : decode cX11_lay 80 = .ok (.i2s, 1) := by decide +kernel
theorem dX11_lay_81 : decode cX11_lay 81 = .ok (.goto 4, 3) := by decide +kernel
theorem dX11_lay_84 : decode cX11_lay 84 = .ok (.iload_n 3, 1) := by decide +kernel
theorem dX11_lay_85 : decode cX11_lay 85 = .ok (.iastore, 1) := by decide +kernel
theorem dX11_lay_86 : decode cX11_lay 86 = .ok (.iconst 1, 1) := by decide +kernel
theorem dX11_lay_87 : decode cX11_lay 87 = .ok (.ireturn, 1) := by decide +kernel
theorem dX11_read_0 : decode cX11_read 0 = .ok (.iload_n 1, 1) := by decide +kernel
theorem dX11_read_1 : decode cX11_read 1 = .ok (.iload_n 2, 1) := by decide +kernel
theorem dX11_read_2 : decode cX11_read 2 = .ok (.invokestatic 299, 3) := by decide +kernel
theorem dX11_read_5 : decode cX11_read 5 = .ok (.ifCond .eq 16, 3) := by decide +kernel
theorem dX11_read_8 : decode cX11_read 8 = .ok (.iload 4, 2) := by decide +kernel
theorem dX11_read_10 : decode cX11_read 10 = .ok (.i2l, 1) := by decide +kernel
theorem dX11_read_11 : decode cX11_read 11 = .ok (.lconst 0, 1) := by decide +kernel
theorem dX11_read_12 : decode cX11_read 12 = .ok (.ldc2_w 302, 3) := by decide +kernel
theorem dX11_read_15 : decode cX11_read 15 = .ok (.invokestatic 78, 3) := by decide +kernel
theorem dX11_read_18 : decode cX11_read 18 = .ok (.ifCond .ne 5, 3) := by decide +kernel
theorem dX11_read_21 : decode cX11_read 21 = .ok (.iconst (-1), 1) := by decide +kernel
theorem dX11_read_22 : decode cX11_read 22 = .ok (.ireturn, 1) := by decide +kernel
theorem dX11_read_23 : decode cX11_read 23 = .ok (.aload_n 0, 1) := by decide +kernel
theorem dX11_read_24 : decode cX11_read 24 = .ok (.getfield 7, 3) := by decide +kernel
theorem dX11_read_27 : decode cX11_read 27 = .ok (.bipush 46, 2) := by decide +kernel
theorem dX11_read_29 : decode cX11_read 29 = .ok (.iaload, 1) := by decide +kernel
theorem dX11_read_30 : decode cX11_read 30 = .ok (.istore 5, 2) := by decide +kernel
theorem dX11_read_32 : decode cX11_read 32 = .ok (.iconst 0, 1) := by decide +kernel
theorem dX11_read_33 : decode cX11_read 33 = .ok (.istore 6, 2) := by decide +kernel
theorem dX11_read_35 : decode cX11_read 35 = .ok (.iconst 0, 1) := by decide +kernel
theorem dX11_read_36 : decode cX11_read 36 = .ok (.istore 7, 2) := by decide +kernel
theorem dX11_read_38 : decode cX11_read 38 = .ok (.iconst 0, 1) := by decide +kernel
theorem dX11_read_39 : decode cX11_read 39 = .ok (.istore 8, 2) := by decide +kernel
theorem dX11_read_41 : decode cX11_read 41 = .ok (.iload 8, 2) := by decide +kernel
theorem dX11_read_43 : decode cX11_read 43 = .ok (.iload 4, 2) := by decide +kernel
theorem dX11_read_45 : decode cX11_read 45 = .ok (.if_icmp .ge 163, 3) := by decide +kernel
theorem dX11_read_48 : decode cX11_read 48 = .ok (.iload 6, 2) := by decide +kernel
theorem dX11_read_50 : decode cX11_read 50 = .ok (.ifCond .ne 158, 3) := by decide +kernel
theorem dX11_read_53 : decode cX11_read 53 = .ok (.iconst 0, 1) := by decide +kernel
theorem dX11_read_54 : decode cX11_read 54 = .ok (.istore 9, 2) := by decide +kernel
theorem dX11_read_56 : decode cX11_read 56 = .ok (.iload 9, 2) := by decide +kernel
theorem dX11_read_58 : decode cX11_read 58 = .ok (.iconst 2, 1) := by decide +kernel
theorem dX11_read_59 : decode cX11_read 59 = .ok (.if_icmp .ge 84, 3) := by decide +kernel
theorem dX11_read_62 : decode cX11_read 62 = .ok (.iload 6, 2) := by decide +kernel
theorem dX11_read_64 : decode cX11_read 64 = .ok (.ifCond .ne 79, 3) := by decide +kernel
theorem dX11_read_67 : decode cX11_read 67 = .ok (.iload_n 3, 1) := by decide +kernel
theorem dX11_read_68 : decode cX11_read 68 = .ok (.i2l, 1) := by decide +kernel
theorem dX11_read_69 : decode cX11_read 69 = .ok (.iconst 2, 1) := by decide +kernel
theorem dX11_read_70 : decode cX11_read 70 = .ok (.iload 8, 2) := by decide +kernel
theorem dX11_read_72 : decode cX11_read 72 = .ok (.imul, 1) := by decide +kernel
theorem dX11_read_73 : decode cX11_read 73 = .ok (.i2l, 1) := by decide +kernel
theorem dX11_read_74 : decode cX11_read 74 = .ok (.ladd, 1) := by decide +kernel
theorem dX11_read_75 : decode cX11_read 75 = .ok (.iload 9, 2) := by decide +kernel
theorem dX11_read_77 : decode cX11_read 77 = .ok (.i2l, 1) := by decide +kernel
theorem dX11_read_78 : decode cX11_read 78 = .ok (.ladd, 1) := by decide +kernel
theorem dX11_read_79 : decode cX11_read 79 = .ok (.lstore 10, 2) := by decide +kernel
theorem dX11_read_81 : decode cX11_read 81 = .ok (.aload_n 0, 1) := by decide +kernel
theorem dX11_read_82 : decode cX11_read 82 = .ok (.getfield 35, 3) := by decide +kernel
theorem dX11_read_85 : decode cX11_read 85 = .ok (.iload_n 1, 1) := by decide +kernel
theorem dX11_read_86 : decode cX11_read 86 = .ok (.iaload, 1) := by decide +kernel
theorem dX11_read_87 : decode cX11_read 87 = .ok (.bipush (-4), 2) := by decide +kernel
theorem dX11_read_89 : decode cX11_read 89 = .ok (.if_icmp .ne 7, 3) := by decide +kernel
theorem dX11_read_92 : decode cX11_read 92 = .ok (.iconst 1, 1) := by decide +kernel
theorem dX11_read_93 : decode cX11_read 93 = .ok (.goto 42, 3) := by decide +kernel
theorem dX11_read_96 : decode cX11_read 96 = .ok (.aload_n 0, 1) := by decide +kernel
theorem dX11_read_97 : decode cX11_read 97 = .ok (.getfield 35, 3) := by decide +kernel
theorem dX11_read_100 : decode cX11_read 100 = .ok (.iload_n 1, 1) := by decide +kernel
theorem dX11_read_101 : decode cX11_read 101 = .ok (.iaload, 1) := by decide +kernel
theorem dX11_read_102 : decode cX11_read 102 = .ok (.iload_n 2, 1) := by decide +kernel
theorem dX11_read_103 : decode cX11_read 103 = .ok (.if_icmp .eq 7, 3) := by decide +kernel
theorem dX11_read_106 : decode cX11_read 106 = .ok (.iconst 3, 1) := by decide +kernel
theorem dX11_read_107 : decode cX11_read 107 = .ok (.goto 28, 3) := by decide +kernel
theorem dX11_read_110 : decode cX11_read 110 = .ok (.lload 10, 2) := by decide +kernel
theorem dX11_read_112 : decode cX11_read 112 = .ok (.lconst 0, 1) := by decide +kernel
theorem dX11_read_113 : decode cX11_read 113 = .ok (.lcmp, 1) := by decide +kernel
theorem dX11_read_114 : decode cX11_read 114 = .ok (.ifCond .lt 16, 3) := by decide +kernel
theorem dX11_read_117 : decode cX11_read 117 = .ok (.lload 10, 2) := by decide +kernel
theorem dX11_read_119 : decode cX11_read 119 = .ok (.aload_n 0, 1) := by decide +kernel
theorem dX11_read_120 : decode cX11_read 120 = .ok (.getfield 38, 3) := by decide +kernel
theorem dX11_read_123 : decode cX11_read 123 = .ok (.iload_n 1, 1) := by decide +kernel
theorem dX11_read_124 : decode cX11_read 124 = .ok (.iaload, 1) := by decide +kernel
theorem dX11_read_125 : decode cX11_read 125 = .ok (.i2l, 1) := by decide +kernel
theorem dX11_read_126 : decode cX11_read 126 = .ok (.lcmp, 1) := by decide +kernel
theorem dX11_read_127 : decode cX11_read 127 = .ok (.ifCond .lt 7, 3) := by decide +kernel
theorem dX11_read_130 : decode cX11_read 130 = .ok (.iconst 2, 1) := by decide +kernel
theorem dX11_read_131 : decode cX11_read 131 = .ok (.goto 4, 3) := by decide +kernel
theorem dX11_read_134 : decode cX11_read 134 = .ok (.iconst 0, 1) := by decide +kernel
theorem dX11_read_135 : decode cX11_read 135 = .ok (.istore 6, 2) := by decide +kernel
theorem dX11_read_137 : decode cX11_read 137 = .ok (.iinc 9 1, 3) := by decide +kernel
theorem dX11_read_140 : decode cX11_read 140 = .ok (.goto (-84), 3) := by decide +kernel
theorem dX11_read_143 : decode cX11_read 143 = .ok (.iload 6, 2) := by decide +kernel
theorem dX11_read_145 : decode cX11_read 145 = .ok (.ifCond .ne 57, 3) := by decide +kernel
theorem dX11_read_148 : decode cX11_read 148 = .ok (.bipush 40, 2) := by decide +kernel
theorem dX11_read_150 : decode cX11_read 150 = .ok (.iload_n 1, 1) := by decide +kernel
theorem dX11_read_151 : decode cX11_read 151 = .ok (.imul, 1) := by decide +kernel
theorem dX11_read_152 : decode cX11_read 152 = .ok (.iload_n 3, 1) := by decide +kernel
theorem dX11_read_153 : decode cX11_read 153 = .ok (.iadd, 1) := by decide +kernel
theorem dX11_read_154 : decode cX11_read 154 = .ok (.iconst 2, 1) := by decide +kernel
theorem dX11_read_155 : decode cX11_read 155 = .ok (.iload 8, 2) := by decide +kernel
theorem dX11_read_157 : decode cX11_read 157 = .ok (.imul, 1) := by decide +kernel
theorem dX11_read_158 : decode cX11_read 158 = .ok (.iadd, 1) := by decide +kernel
theorem dX11_read_159 : decode cX11_read 159 = .ok (.istore 9, 2) := by decide +kernel
theorem dX11_read_161 : decode cX11_read 161 = .ok (.aload_n 0, 1) := by decide +kernel
theorem dX11_read_162 : decode cX11_read 162 = .ok (.aload_n 0, 1) := by decide +kernel
theorem dX11_read_163 : decode cX11_read 163 = .ok (.getfield 41, 3) := by decide +kernel
theorem dX11_read_166 : decode cX11_read 166 = .ok (.iload 9, 2) := by decide +kernel
theorem dX11_read_168 : decode cX11_read 168 = .ok (.iaload, 1) := by decide +kernel
theorem dX11_read_169 : decode cX11_read 169 = .ok (.aload_n 0, 1) := by decide +kernel
theorem dX11_read_170 : decode cX11_read 170 = .ok (.getfield 41, 3) := by decide +kernel
theorem dX11_read_173 : decode cX11_read 173 = .ok (.iload 9, 2) := by decide +kernel
theorem dX11_read_175 : decode cX11_read 175 = .ok (.iconst 1, 1) := by decide +kernel
theorem dX11_read_176 : decode cX11_read 176 = .ok (.iadd, 1) := by decide +kernel
theorem dX11_read_177 : decode cX11_read 177 = .ok (.iaload, 1) := by decide +kernel
theorem dX11_read_178 : decode cX11_read 178 = .ok (.invokevirtual 304, 3) := by decide +kernel
theorem dX11_read_181 : decode cX11_read 181 = .ok (.ifCond .ge 18, 3) := by decide +kernel
theorem dX11_read_184 : decode cX11_read 184 = .ok (.aload_n 0, 1) := by decide +kernel
theorem dX11_read_185 : decode cX11_read 185 = .ok (.getfield 7, 3) := by decide +kernel
theorem dX11_read_188 : decode cX11_read 188 = .ok (.bipush 46, 2) := by decide +kernel
theorem dX11_read_190 : decode cX11_read 190 = .ok (.iload 5, 2) := by decide +kernel
theorem dX11_read_192 : decode cX11_read 192 = .ok (.iastore, 1) := by decide +kernel
theorem dX11_read_193 : decode cX11_read 193 = .ok (.bipush (-20), 2) := by decide +kernel
theorem dX11_read_195 : decode cX11_read 195 = .ok (.iload 8, 2) := by decide +kernel
theorem dX11_read_197 : decode cX11_read 197 = .ok (.isub, 1) := by decide +kernel
theorem dX11_read_198 : decode cX11_read 198 = .ok (.ireturn, 1) := by decide +kernel
theorem dX11_read_199 : decode cX11_read 199 = .ok (.iinc 7 1, 3) := by decide +kernel
theorem dX11_read_202 : decode cX11_read 202 = .ok (.iinc 8 1, 3) := by decide +kernel
theorem dX11_read_205 : decode cX11_read 205 = .ok (.goto (-164), 3) := by decide +kernel
theorem dX11_read_208 : decode cX11_read 208 = .ok (.aload_n 0, 1) := by decide +kernel
theorem dX11_read_209 : decode cX11_read 209 = .ok (.iload 6, 2) := by decide +kernel
theorem dX11_read_211 : decode cX11_read 211 = .ok (.putfield 307, 3) := by decide +kernel
theorem dX11_read_214 : decode cX11_read 214 = .ok (.iload 7, 2) := by decide +kernel
theorem dX11_read_216 : decode cX11_read 216 = .ok (.ireturn, 1) := by decide +kernel
theorem dX11_torn_0 : decode cX11_torn 0 = .ok (.aload_n 0, 1) := by decide +kernel
theorem dX11_torn_1 : decode cX11_torn 1 = .ok (.getfield 307, 3) := by decide +kernel
theorem dX11_torn_4 : decode cX11_torn 4 = .ok (.ireturn, 1) := by decide +kernel
theorem dX11_count_0 : decode cX11_count 0 = .ok (.iconst 0, 1) := by decide +kernel
theorem dX11_count_1 : decode cX11_count 1 = .ok (.istore_n 2, 1) := by decide +kernel
theorem dX11_count_2 : decode cX11_count 2 = .ok (.iconst 0, 1) := by decide +kernel
theorem dX11_count_3 : decode cX11_count 3 = .ok (.istore_n 3, 1) := by decide +kernel
theorem dX11_count_4 : decode cX11_count 4 = .ok (.iconst 0, 1) := by decide +kernel
theorem dX11_count_5 : decode cX11_count 5 = .ok (.istore 4, 2) := by decide +kernel
theorem dX11_count_7 : decode cX11_count 7 = .ok (.aload_n 0, 1) := by decide +kernel
theorem dX11_count_8 : decode cX11_count 8 = .ok (.invokevirtual 222, 3) := by decide +kernel
theorem dX11_count_11 : decode cX11_count 11 = .ok (.iconst 0, 1) := by decide +kernel
theorem dX11_count_12 : decode cX11_count 12 = .ok (.istore 5, 2) := by decide +kernel
theorem dX11_count_14 : decode cX11_count 14 = .ok (.iload 5, 2) := by decide +kernel
theorem dX11_count_16 : decode cX11_count 16 = .ok (.aload_n 0, 1) := by decide +kernel
theorem dX11_count_17 : decode cX11_count 17 = .ok (.getfield 7, 3) := by decide +kernel
theorem dX11_count_20 : decode cX11_count 20 = .ok (.bipush 46, 2) := by decide +kernel
theorem dX11_count_22 : decode cX11_count 22 = .ok (.iaload, 1) := by decide +kernel
theorem dX11_count_23 : decode cX11_count 23 = .ok (.if_icmp .ge 44, 3) := by decide +kernel
theorem dX11_count_26 : decode cX11_count 26 = .ok (.iload_n 2, 1) := by decide +kernel
theorem dX11_count_27 : decode cX11_count 27 = .ok (.aload_n 0, 1) := by decide +kernel
theorem dX11_count_28 : decode cX11_count 28 = .ok (.iload 5, 2) := by decide +kernel
theorem dX11_count_30 : decode cX11_count 30 = .ok (.invokevirtual 199, 3) := by decide +kernel
theorem dX11_count_33 : decode cX11_count 33 = .ok (.invokestatic 208, 3) := by decide +kernel
theorem dX11_count_36 : decode cX11_count 36 = .ok (.iadd, 1) := by decide +kernel
theorem dX11_count_37 : decode cX11_count 37 = .ok (.istore_n 2, 1) := by decide +kernel
theorem dX11_count_38 : decode cX11_count 38 = .ok (.iload_n 3, 1) := by decide +kernel
theorem dX11_count_39 : decode cX11_count 39 = .ok (.aload_n 0, 1) := by decide +kernel
theorem dX11_count_40 : decode cX11_count 40 = .ok (.iload 5, 2) := by decide +kernel
theorem dX11_count_42 : decode cX11_count 42 = .ok (.iconst 2, 1) := by decide +kernel
theorem dX11_count_43 : decode cX11_count 43 = .ok (.invokevirtual 173, 3) := by decide +kernel
theorem dX11_count_46 : decode cX11_count 46 = .ok (.bipush (-4), 2) := by decide +kernel
theorem dX11_count_48 : decode cX11_count 48 = .ok (.if_icmp .ne 7, 3) := by decide +kernel
theorem dX11_count_51 : decode cX11_count 51 = .ok (.iconst 1, 1) := by decide +kernel
theorem dX11_count_52 : decode cX11_count 52 = .ok (.goto 4, 3) := by decide +kernel
theorem dX11_count_55 : decode cX11_count 55 = .ok (.iconst 0, 1) := by decide +kernel
theorem dX11_count_56 : decode cX11_count 56 = .ok (.invokestatic 208, 3) := by decide +kernel
theorem dX11_count_59 : decode cX11_count 59 = .ok (.iadd, 1) := by decide +kernel
theorem dX11_count_60 : decode cX11_count 60 = .ok (.istore_n 3, 1) := by decide +kernel
theorem dX11_count_61 : decode cX11_count 61 = .ok (.iinc 5 1, 3) := by decide +kernel
theorem dX11_count_64 : decode cX11_count 64 = .ok (.goto (-50), 3) := by decide +kernel
theorem dX11_count_67 : decode cX11_count 67 = .ok (.iconst 0, 1) := by decide +kernel
theorem dX11_count_68 : decode cX11_count 68 = .ok (.istore 5, 2) := by decide +kernel
theorem dX11_count_70 : decode cX11_count 70 = .ok (.iload 5, 2) := by decide +kernel
theorem dX11_count_72 : decode cX11_count 72 = .ok (.iconst 3, 1) := by decide +kernel
theorem dX11_count_73 : decode cX11_count 73 = .ok (.aload_n 0, 1) := by decide +kernel
theorem dX11_count_74 : decode cX11_count 74 = .ok (.getfield 73, 3) := by decide +kernel
theorem dX11_count_77 : decode cX11_count 77 = .ok (.imul, 1) := by decide +kernel
theorem dX11_count_78 : decode cX11_count 78 = .ok (.if_icmp .ge 23, 3) := by decide +kernel
theorem dX11_count_81 : decode cX11_count 81 = .ok (.iload 4, 2) := by decide +kernel
theorem dX11_count_83 : decode cX11_count 83 = .ok (.aload_n 0, 1) := by decide +kernel
theorem dX11_count_84 : decode cX11_count 84 = .ok (.getfield 7, 3) := by decide +kernel
theorem dX11_count_87 : decode cX11_count 87 = .ok (.iconst 0, 1) := by decide +kernel
theorem dX11_count_88 : decode cX11_count 88 = .ok (.iload 5, 2) := by decide +kernel
theorem dX11_count_90 : decode cX11_count 90 = .ok (.iadd, 1) := by decide +kernel
theorem dX11_count_91 : decode cX11_count 91 = .ok (.iaload, 1) := by decide +kernel
theorem dX11_count_92 : decode cX11_count 92 = .ok (.iadd, 1) := by decide +kernel
theorem dX11_count_93 : decode cX11_count 93 = .ok (.istore 4, 2) := by decide +kernel
theorem dX11_count_95 : decode cX11_count 95 = .ok (.iinc 5 1, 3) := by decide +kernel
theorem dX11_count_98 : decode cX11_count 98 = .ok (.goto (-28), 3) := by decide +kernel
theorem dX11_count_101 : decode cX11_count 101 = .ok (.iload_n 1, 1) := by decide +kernel
theorem dX11_count_102 : decode cX11_count 102 = .ok (.tableswitch 123 0 8 #[50, 52, 57, 62, 64, 72, 92, 97, 120], 50) := by decide +kernel
theorem dX11_count_152 : decode cX11_count 152 = .ok (.iload_n 2, 1) := by decide +kernel
theorem dX11_count_153 : decode cX11_count 153 = .ok (.ireturn, 1) := by decide +kernel
theorem dX11_count_154 : decode cX11_count 154 = .ok (.aload_n 0, 1) := by decide +kernel
theorem dX11_count_155 : decode cX11_count 155 = .ok (.invokevirtual 293, 3) := by decide +kernel
theorem dX11_count_158 : decode cX11_count 158 = .ok (.ireturn, 1) := by decide +kernel
theorem dX11_count_159 : decode cX11_count 159 = .ok (.aload_n 0, 1) := by decide +kernel
theorem dX11_count_160 : decode cX11_count 160 = .ok (.invokevirtual 241, 3) := by decide +kernel
theorem dX11_count_163 : decode cX11_count 163 = .ok (.ireturn, 1) := by decide +kernel
theorem dX11_count_164 : decode cX11_count 164 = .ok (.iload_n 3, 1) := by decide +kernel
theorem dX11_count_165 : decode cX11_count 165 = .ok (.ireturn, 1) := by decide +kernel
theorem dX11_count_166 : decode cX11_count 166 = .ok (.aload_n 0, 1) := by decide +kernel
theorem dX11_count_167 : decode cX11_count 167 = .ok (.getfield 7, 3) := by decide +kernel
theorem dX11_count_170 : decode cX11_count 170 = .ok (.bipush 96, 2) := by decide +kernel
theorem dX11_count_172 : decode cX11_count 172 = .ok (.iaload, 1) := by decide +kernel
theorem dX11_count_173 : decode cX11_count 173 = .ok (.ireturn, 1) := by decide +kernel
theorem dX11_count_174 : decode cX11_count 174 = .ok (.aload_n 0, 1) := by decide +kernel
theorem dX11_count_175 : decode cX11_count 175 = .ok (.getfield 16, 3) := by decide +kernel
theorem dX11_count_178 : decode cX11_count 178 = .ok (.iconst 0, 1) := by decide +kernel
theorem dX11_count_179 : decode cX11_count 179 = .ok (.baload, 1) := by decide +kernel
theorem dX11_count_180 : decode cX11_count 180 = .ok (.invokestatic 208, 3) := by decide +kernel
theorem dX11_count_183 : decode cX11_count 183 = .ok (.aload_n 0, 1) := by decide +kernel
theorem dX11_count_184 : decode cX11_count 184 = .ok (.getfield 16, 3) := by decide +kernel
theorem dX11_count_187 : decode cX11_count 187 = .ok (.iconst 1, 1) := by decide +kernel
theorem dX11_count_188 : decode cX11_count 188 = .ok (.baload, 1) := by decide +kernel
theorem dX11_count_189 : decode cX11_count 189 = .ok (.invokestatic 208, 3) := by decide +kernel
theorem dX11_count_192 : decode cX11_count 192 = .ok (.iadd, 1) := by decide +kernel
theorem dX11_count_193 : decode cX11_count 193 = .ok (.ireturn, 1) := by decide +kernel
theorem dX11_count_194 : decode cX11_count 194 = .ok (.aload_n 0, 1) := by decide +kernel
theorem dX11_count_195 : decode cX11_count 195 = .ok (.getfield 82, 3) := by decide +kernel
theorem dX11_count_198 : decode cX11_count 198 = .ok (.ireturn, 1) := by decide +kernel
theorem dX11_count_199 : decode cX11_count 199 = .ok (.aload_n 0, 1) := by decide +kernel
theorem dX11_count_200 : decode cX11_count 200 = .ok (.getfield 35, 3) := by decide +kernel
theorem dX11_count_203 : decode cX11_count 203 = .ok (.iconst 0, 1) := by decide +kernel
theorem dX11_count_204 : decode cX11_count 204 = .ok (.iaload, 1) := by decide +kernel
theorem dX11_count_205 : decode cX11_count 205 = .ok (.bipush (-4), 2) := by decide +kernel
theorem dX11_count_207 : decode cX11_count 207 = .ok (.if_icmp .ne 8, 3) := by decide +kernel
theorem dX11_count_210 : decode cX11_count 210 = .ok (.bipush (-4), 2) := by decide +kernel
theorem dX11_count_212 : decode cX11_count 212 = .ok (.goto 9, 3) := by decide +kernel
theorem dX11_count_215 : decode cX11_count 215 = .ok (.aload_n 0, 1) := by decide +kernel
theorem dX11_count_216 : decode cX11_count 216 = .ok (.getfield 38, 3) := by decide +kernel
theorem dX11_count_219 : decode cX11_count 219 = .ok (.iconst 0, 1) := by decide +kernel
theorem dX11_count_220 : decode cX11_count 220 = .ok (.iaload, 1) := by decide +kernel
theorem dX11_count_221 : decode cX11_count 221 = .ok (.ireturn, 1) := by decide +kernel
theorem dX11_count_222 : decode cX11_count 222 = .ok (.iload 4, 2) := by decide +kernel
theorem dX11_count_224 : decode cX11_count 224 = .ok (.ireturn, 1) := by decide +kernel
theorem dX11_count_225 : decode cX11_count 225 = .ok (.iconst (-1), 1) := by decide +kernel
theorem dX11_count_226 : decode cX11_count 226 = .ok (.ireturn, 1) := by decide +kernel
