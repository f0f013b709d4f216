theorem dX0_init_0 : decode cX0_init 0 = .ok (.aload_n 0, 1) := by decide +kernel
theorem dX0_init_1 : decode cX0_init 1 = .ok (.invokespecial 3, 3) := by decide +kernel
theorem dX0_init_4 : decode cX0_init 4 = .ok (.aload_n 0, 1) := by decide +kernel
theorem dX0_init_5 : decode cX0_init 5 = .ok (.new 9, 3) := by decide +kernel
theorem dX0_init_8 : decode cX0_init 8 = .ok (.dup, 1) := by decide +kernel
theorem dX0_init_9 : decode cX0_init 9 = .ok (.invokespecial 11, 3) := by decide +kernel
theorem dX0_init_12 : decode cX0_init 12 = .ok (.putfield 12, 3) := by decide +kernel
theorem dX0_init_15 : decode cX0_init 15 = .ok (.aload_n 0, 1) := by decide +kernel
theorem dX0_init_16 : decode cX0_init 16 = .ok (.bipush 6, 2) := by decide +kernel
theorem dX0_init_18 : decode cX0_init 18 = .ok (.anewarray 18, 3) := by decide +kernel
theorem dX0_init_21 : decode cX0_init 21 = .ok (.putfield 20, 3) := by decide +kernel
theorem dX0_init_24 : decode cX0_init 24 = .ok (.aload_n 0, 1) := by decide +kernel
theorem dX0_init_25 : decode cX0_init 25 = .ok (.bipush 6, 2) := by decide +kernel
theorem dX0_init_27 : decode cX0_init 27 = .ok (.newarray .int, 2) := by decide +kernel
theorem dX0_init_29 : decode cX0_init 29 = .ok (.putfield 24, 3) := by decide +kernel
theorem dX0_init_32 : decode cX0_init 32 = .ok (.aload_n 0, 1) := by decide +kernel
theorem dX0_init_33 : decode cX0_init 33 = .ok (.bipush 6, 2) := by decide +kernel
theorem dX0_init_35 : decode cX0_init 35 = .ok (.newarray .int, 2) := by decide +kernel
theorem dX0_init_37 : decode cX0_init 37 = .ok (.putfield 28, 3) := by decide +kernel
theorem dX0_init_40 : decode cX0_init 40 = .ok (.aload_n 0, 1) := by decide +kernel
theorem dX0_init_41 : decode cX0_init 41 = .ok (.bipush 6, 2) := by decide +kernel
theorem dX0_init_43 : decode cX0_init 43 = .ok (.newarray .int, 2) := by decide +kernel
theorem dX0_init_45 : decode cX0_init 45 = .ok (.putfield 31, 3) := by decide +kernel
theorem dX0_init_48 : decode cX0_init 48 = .ok (.iconst 0, 1) := by decide +kernel
theorem dX0_init_49 : decode cX0_init 49 = .ok (.istore_n 1, 1) := by decide +kernel
theorem dX0_init_50 : decode cX0_init 50 = .ok (.iload_n 1, 1) := by decide +kernel
theorem dX0_init_51 : decode cX0_init 51 = .ok (.bipush 6, 2) := by decide +kernel
theorem dX0_init_53 : decode cX0_init 53 = .ok (.if_icmp .ge 22, 3) := by decide +kernel
theorem dX0_init_56 : decode cX0_init 56 = .ok (.aload_n 0, 1) := by decide +kernel
theorem dX0_init_57 : decode cX0_init 57 = .ok (.getfield 20, 3) := by decide +kernel
theorem dX0_init_60 : decode cX0_init 60 = .ok (.iload_n 1, 1) := by decide +kernel
theorem dX0_init_61 : decode cX0_init 61 = .ok (.new 18, 3) := by decide +kernel
theorem dX0_init_64 : decode cX0_init 64 = .ok (.dup, 1) := by decide +kernel
theorem dX0_init_65 : decode cX0_init 65 = .ok (.invokespecial 34, 3) := by decide +kernel
theorem dX0_init_68 : decode cX0_init 68 = .ok (.aastore, 1) := by decide +kernel
theorem dX0_init_69 : decode cX0_init 69 = .ok (.iinc 1 1, 3) := by decide +kernel
theorem dX0_init_72 : decode cX0_init 72 = .ok (.goto (-22), 3) := by decide +kernel
theorem dX0_init_75 : decode cX0_init 75 = .ok (.aload_n 0, 1) := by decide +kernel
theorem dX0_init_76 : decode cX0_init 76 = .ok (.getfield 12, 3) := by decide +kernel
theorem dX0_init_79 : decode cX0_init 79 = .ok (.invokevirtual 35, 3) := by decide +kernel
theorem dX0_init_82 : decode cX0_init 82 = .ok (.return_, 1) := by decide +kernel
theorem dX0_startAnew_0 : decode cX0_startAnew 0 = .ok (.aload_n 0, 1) := by decide +kernel
theorem dX0_startAnew_1 : decode cX0_startAnew 1 = .ok (.getfield 12, 3) := by decide +kernel
theorem dX0_startAnew_4 : decode cX0_startAnew 4 = .ok (.invokevirtual 35, 3) := by decide +kernel
theorem dX0_startAnew_7 : decode cX0_startAnew 7 = .ok (.aload_n 0, 1) := by decide +kernel
theorem dX0_startAnew_8 : decode cX0_startAnew 8 = .ok (.iconst 0, 1) := by decide +kernel
theorem dX0_startAnew_9 : decode cX0_startAnew 9 = .ok (.putfield 38, 3) := by decide +kernel
theorem dX0_startAnew_12 : decode cX0_startAnew 12 = .ok (.aload_n 0, 1) := by decide +kernel
theorem dX0_startAnew_13 : decode cX0_startAnew 13 = .ok (.iconst 0, 1) := by decide +kernel
theorem dX0_startAnew_14 : decode cX0_startAnew 14 = .ok (.putfield 42, 3) := by decide +kernel
theorem dX0_startAnew_17 : decode cX0_startAnew 17 = .ok (.aload_n 0, 1) := by decide +kernel
theorem dX0_startAnew_18 : decode cX0_startAnew 18 = .ok (.iconst 0, 1) := by decide +kernel
theorem dX0_startAnew_19 : decode cX0_startAnew 19 = .ok (.putfield 45, 3) := by decide +kernel
theorem dX0_startAnew_22 : decode cX0_startAnew 22 = .ok (.aload_n 0, 1) := by decide +kernel
theorem dX0_startAnew_23 : decode cX0_startAnew 23 = .ok (.iconst 0, 1) := by decide +kernel
theorem dX0_startAnew_24 : decode cX0_startAnew 24 = .ok (.putfield 48, 3) := by decide +kernel
theorem dX0_startAnew_27 : decode cX0_startAnew 27 = .ok (.return_, 1) := by decide +kernel
theorem dX0_copyFrom_0 : decode cX0_copyFrom 0 = .ok (.aload_n 0, 1) := by decide +kernel
theorem dX0_copyFrom_1 : decode cX0_copyFrom 1 = .ok (.getfield 12, 3) := by decide +kernel
theorem dX0_copyFrom_4 : decode cX0_copyFrom 4 = .ok (.aload_n 1, 1) := by decide +kernel
theorem dX0_copyFrom_5 : decode cX0_copyFrom 5 = .ok (.getfield 12, 3) := by decide +kernel
theorem dX0_copyFrom_8 : decode cX0_copyFrom 8 = .ok (.invokevirtual 51, 3) := by decide +kernel
theorem dX0_copyFrom_11 : decode cX0_copyFrom 11 = .ok (.iconst 0, 1) := by decide +kernel
theorem dX0_copyFrom_12 : decode cX0_copyFrom 12 = .ok (.istore_n 2, 1) := by decide +kernel
theorem dX0_copyFrom_13 : decode cX0_copyFrom 13 = .ok (.iload_n 2, 1) := by decide +kernel
theorem dX0_copyFrom_14 : decode cX0_copyFrom 14 = .ok (.aload_n 1, 1) := by decide +kernel
theorem dX0_copyFrom_15 : decode cX0_copyFrom 15 = .ok (.getfield 38, 3) := by decide +kernel
theorem dX0_copyFrom_18 : decode cX0_copyFrom 18 = .ok (.if_icmp .ge 24, 3) := by decide +kernel
theorem dX0_copyFrom_21 : decode cX0_copyFrom 21 = .ok (.aload_n 0, 1) := by decide +kernel
theorem dX0_copyFrom_22 : decode cX0_copyFrom 22 = .ok (.getfield 20, 3) := by decide +kernel
theorem dX0_copyFrom_25 : decode cX0_copyFrom 25 = .ok (.iload_n 2, 1) := by decide +kernel
theorem dX0_copyFrom_26 : decode cX0_copyFrom 26 = .ok (.aaload, 1) := by decide +kernel
theorem dX0_copyFrom_27 : decode cX0_copyFrom 27 = .ok (.aload_n 1, 1) := by decide +kernel
theorem dX0_copyFrom_28 : decode cX0_copyFrom 28 = .ok (.getfield 20, 3) := by decide +kernel
theorem dX0_copyFrom_31 : decode cX0_copyFrom 31 = .ok (.iload_n 2, 1) := by decide +kernel
theorem dX0_copyFrom_32 : decode cX0_copyFrom 32 = .ok (.aaload, 1) := by decide +kernel
theorem dX0_copyFrom_33 : decode cX0_copyFrom 33 = .ok (.invokevirtual 55, 3) := by decide +kernel
theorem dX0_copyFrom_36 : decode cX0_copyFrom 36 = .ok (.iinc 2 1, 3) := by decide +kernel
theorem dX0_copyFrom_39 : decode cX0_copyFrom 39 = .ok (.goto (-26), 3) := by decide +kernel
theorem dX0_copyFrom_42 : decode cX0_copyFrom 42 = .ok (.aload_n 0, 1) := by decide +kernel
theorem dX0_copyFrom_43 : decode cX0_copyFrom 43 = .ok (.aload_n 1, 1) := by decide +kernel
theorem dX0_copyFrom_44 : decode cX0_copyFrom 44 = .ok (.getfield 38, 3) := by decide +kernel
theorem dX0_copyFrom_47 : decode cX0_copyFrom 47 = .ok (.putfield 38, 3) := by decide +kernel
theorem dX0_copyFrom_50 : decode cX0_copyFrom 50 = .ok (.aload_n 0, 1) := by decide +kernel
theorem dX0_copyFrom_51 : decode cX0_copyFrom 51 = .ok (.aload_n 1, 1) := by decide +kernel
theorem dX0_copyFrom_52 : decode cX0_copyFrom 52 = .ok (.getfield 42, 3) := by decide +kernel
theorem dX0_copyFrom_55 : decode cX0_copyFrom 55 = .ok (.putfield 42, 3) := by decide +kernel
theorem dX0_copyFrom_58 : decode cX0_copyFrom 58 = .ok (.aload_n 0, 1) := by decide +kernel
theorem dX0_copyFrom_59 : decode cX0_copyFrom 59 = .ok (.aload_n 1, 1) := by decide +kernel
theorem dX0_copyFrom_60 : decode cX0_copyFrom 60 = .ok (.getfield 45, 3) := by decide +kernel
theorem dX0_copyFrom_63 : decode cX0_copyFrom 63 = .ok (.putfield 45, 3) := by decide +kernel
theorem dX0_copyFrom_66 : decode cX0_copyFrom 66 = .ok (.aload_n 0, 1) := by decide +kernel
theorem dX0_copyFrom_67 : decode cX0_copyFrom 67 = .ok (.aload_n 1, 1) := by decide +kernel
theorem dX0_copyFrom_68 : decode cX0_copyFrom 68 = .ok (.getfield 48, 3) := by decide +kernel
theorem dX0_copyFrom_71 : decode cX0_copyFrom 71 = .ok (.putfield 48, 3) := by decide +kernel
theorem dX0_copyFrom_74 : decode cX0_copyFrom 74 = .ok (.aload_n 1, 1) := by decide +kernel
theorem dX0_copyFrom_75 : decode cX0_copyFrom 75 = .ok (.getfield 24, 3) := by decide +kernel
theorem dX0_copyFrom_78 : decode cX0_copyFrom 78 = .ok (.iconst 0, 1) := by decide +kernel
theorem dX0_copyFrom_79 : decode cX0_copyFrom 79 = .ok (.aload_n 0, 1) := by decide +kernel
theorem dX0_copyFrom_80 : decode cX0_copyFrom 80 = .ok (.getfield 24, 3) := by decide +kernel
theorem dX0_copyFrom_83 : decode cX0_copyFrom 83 = .ok (.iconst 0, 1) := by decide +kernel
theorem dX0_copyFrom_84 : decode cX0_copyFrom 84 = .ok (.bipush 6, 2) := by decide +kernel
theorem dX0_copyFrom_86 : decode cX0_copyFrom 86 = .ok (.invokestatic 58, 3) := by decide +kernel
theorem dX0_copyFrom_89 : decode cX0_copyFrom 89 = .ok (.aload_n 1, 1) := by decide +kernel
theorem dX0_copyFrom_90 : decode cX0_copyFrom 90 = .ok (.getfield 28, 3) := by decide +kernel
theorem dX0_copyFrom_93 : decode cX0_copyFrom 93 = .ok (.iconst 0, 1) := by decide +kernel
theorem dX0_copyFrom_94 : decode cX0_copyFrom 94 = .ok (.aload_n 0, 1) := by decide +kernel
theorem dX0_copyFrom_95 : decode cX0_copyFrom 95 = .ok (.getfield 28, 3) := by decide +kernel
theorem dX0_copyFrom_98 : decode cX0_copyFrom 98 = .ok (.iconst 0, 1) := by decide +kernel
theorem dX0_copyFrom_99 : decode cX0_copyFrom 99 = .ok (.bipush 6, 2) := by decide +kernel
theorem dX0_copyFrom_101 : decode cX0_copyFrom 101 = .ok (.invokestatic 58, 3) := by decide +kernel
theorem dX0_copyFrom_104 : decode cX0_copyFrom 104 = .ok (.aload_n 1, 1) := by decide +kernel
theorem dX0_copyFrom_105 : decode cX0_copyFrom 105 = .ok (.getfield 31, 3) := by decide +kernel
theorem dX0_copyFrom_108 : decode cX0_copyFrom 108 = .ok (.iconst 0, 1) := by decide +kernel
theorem dX0_copyFrom_109 : decode cX0_copyFrom 109 = .ok (.aload_n 0, 1) := by decide +kernel
theorem dX0_copyFrom_110 : decode cX0_copyFrom 110 = .ok (.getfield 31, 3) := by decide +kernel
theorem dX0_copyFrom_113 : decode cX0_copyFrom 113 = .ok (.iconst 0, 1) := by decide +kernel
theorem dX0_copyFrom_114 : decode cX0_copyFrom 114 = .ok (.bipush 6, 2) := by decide +kernel
theorem dX0_copyFrom_116 : decode cX0_copyFrom 116 = .ok (.invokestatic 58, 3) := by decide +kernel
theorem dX0_copyFrom_119 : decode cX0_copyFrom 119 = .ok (.return_, 1) := by decide +kernel
theorem dX0_hasSpud_0 : decode cX0_hasSpud 0 = .ok (.iload_n 1, 1) := by decide +kernel
theorem dX0_hasSpud_1 : decode cX0_hasSpud 1 = .ok (.ifCond .lt 15, 3) := by decide +kernel
theorem dX0_hasSpud_4 : decode cX0_hasSpud 4 = .ok (.iload_n 1, 1) := by decide +kernel
theorem dX0_hasSpud_5 : decode cX0_hasSpud 5 = .ok (.aload_n 0, 1) := by decide +kernel
theorem dX0_hasSpud_6 : decode cX0_hasSpud 6 = .ok (.getfield 38, 3) := by decide +kernel
theorem dX0_hasSpud_9 : decode cX0_hasSpud 9 = .ok (.if_icmp .ge 7, 3) := by decide +kernel
theorem dX0_hasSpud_12 : decode cX0_hasSpud 12 = .ok (.iconst 1, 1) := by decide +kernel
theorem dX0_hasSpud_13 : decode cX0_hasSpud 13 = .ok (.goto 4, 3) := by decide +kernel
theorem dX0_hasSpud_16 : decode cX0_hasSpud 16 = .ok (.iconst 0, 1) := by decide +kernel
theorem dX0_hasSpud_17 : decode cX0_hasSpud 17 = .ok (.ireturn, 1) := by decide +kernel
theorem dX0_bring_0 : decode cX0_bring 0 = .ok (.aload_n 0, 1) := by decide +kernel
theorem dX0_bring_1 : decode cX0_bring 1 = .ok (.getfield 38, 3) := by decide +kernel
theorem dX0_bring_4 : decode cX0_bring 4 = .ok (.bipush 6, 2) := by decide +kernel
theorem dX0_bring_6 : decode cX0_bring 6 = .ok (.if_icmp .lt 5, 3) := by decide +kernel
theorem dX0_bring_9 : decode cX0_bring 9 = .ok (.iconst 0, 1) := by decide +kernel
theorem dX0_bring_10 : decode cX0_bring 10 = .ok (.ireturn, 1) := by decide +kernel
theorem dX0_bring_11 : decode cX0_bring 11 = .ok (.aload_n 0, 1) := by decide +kernel
theorem dX0_bring_12 : decode cX0_bring 12 = .ok (.getfield 20, 3) := by decide +kernel
theorem dX0_bring_15 : decode cX0_bring 15 = .ok (.aload_n 0, 1) := by decide +kernel
theorem dX0_bring_16 : decode cX0_bring 16 = .ok (.getfield 38, 3) := by decide +kernel
theorem dX0_bring_19 : decode cX0_bring 19 = .ok (.aaload, 1) := by decide +kernel
theorem dX0_bring_20 : decode cX0_bring 20 = .ok (.iload_n 1, 1) := by decide +kernel
theorem dX0_bring_21 : decode cX0_bring 21 = .ok (.iload_n 2, 1) := by decide +kernel
theorem dX0_bring_22 : decode cX0_bring 22 = .ok (.invokevirtual 64, 3) := by decide +kernel
theorem dX0_bring_25 : decode cX0_bring 25 = .ok (.aload_n 0, 1) := by decide +kernel
theorem dX0_bring_26 : decode cX0_bring 26 = .ok (.dup, 1) := by decide +kernel
theorem dX0_bring_27 : decode cX0_bring 27 = .ok (.getfield 38, 3) := by decide +kernel
theorem dX0_bring_30 : decode cX0_bring 30 = .ok (.iconst 1, 1) := by decide +kernel
theorem dX0_bring_31 : decode cX0_bring 31 = .ok (.iadd, 1) := by decide +kernel
theorem dX0_bring_32 : decode cX0_bring 32 = .ok (.putfield 38, 3) := by decide +kernel
theorem dX0_bring_35 : decode cX0_bring 35 = .ok (.iconst 1, 1) := by decide +kernel
theorem dX0_bring_36 : decode cX0_bring 36 = .ok (.ireturn, 1) := by decide +kernel
theorem dX0_whoLiesIn_0 : decode cX0_whoLiesIn 0 = .ok (.iconst 0, 1) := by decide +kernel
theorem dX0_whoLiesIn_1 : decode cX0_whoLiesIn 1 = .ok (.istore_n 2, 1) := by decide +kernel
theorem dX0_whoLiesIn_2 : decode cX0_whoLiesIn 2 = .ok (.iload_n 2, 1) := by decide +kernel
theorem dX0_whoLiesIn_3 : decode cX0_whoLiesIn 3 = .ok (.aload_n 0, 1) := by decide +kernel
theorem dX0_whoLiesIn_4 : decode cX0_whoLiesIn 4 = .ok (.getfield 38, 3) := by decide +kernel
theorem dX0_whoLiesIn_7 : decode cX0_whoLiesIn 7 = .ok (.if_icmp .ge 24, 3) := by decide +kernel
theorem dX0_whoLiesIn_10 : decode cX0_whoLiesIn 10 = .ok (.aload_n 0, 1) := by decide +kernel
theorem dX0_whoLiesIn_11 : decode cX0_whoLiesIn 11 = .ok (.getfield 20, 3) := by decide +kernel
theorem dX0_whoLiesIn_14 : decode cX0_whoLiesIn 14 = .ok (.iload_n 2, 1) := by decide +kernel
theorem dX0_whoLiesIn_15 : decode cX0_whoLiesIn 15 = .ok (.aaload, 1) := by decide +kernel
theorem dX0_whoLiesIn_16 : decode cX0_whoLiesIn 16 = .ok (.getfield 68, 3) := by decide +kernel
theorem dX0_whoLiesIn_19 : decode cX0_whoLiesIn 19 = .ok (.iload_n 1, 1) := by decide +kernel
theorem dX0_whoLiesIn_20 : decode cX0_whoLiesIn 20 = .ok (.if_icmp .ne 5, 3) := by decide +kernel
theorem dX0_whoLiesIn_23 : decode cX0_whoLiesIn 23 = .ok (.iload_n 2, 1) := by decide +kernel
theorem dX0_whoLiesIn_24 : decode cX0_whoLiesIn 24 = .ok (.ireturn, 1) := by decide +kernel
theorem dX0_whoLiesIn_25 : decode cX0_whoLiesIn 25 = .ok (.iinc 2 1, 3) := by decide +kernel
theorem dX0_whoLiesIn_28 : decode cX0_whoLiesIn 28 = .ok (.goto (-26), 3) := by decide +kernel
theorem dX0_whoLiesIn_31 : decode cX0_whoLiesIn 31 = .ok (.bipush (-4), 2) := by decide +kernel
theorem dX0_whoLiesIn_33 : decode cX0_whoLiesIn 33 = .ok (.ireturn, 1) := by decide +kernel
theorem dX0_noteFelt_0 : decode cX0_noteFelt 0 = .ok (.aload_n 0, 1) := by decide +kernel
theorem dX0_noteFelt_1 : decode cX0_noteFelt 1 = .ok (.getfield 48, 3) := by decide +kernel
theorem dX0_noteFelt_4 : decode cX0_noteFelt 4 = .ok (.bipush 6, 2) := by decide +kernel
theorem dX0_noteFelt_6 : decode cX0_noteFelt 6 = .ok (.if_icmp .lt 5, 3) := by decide +kernel
theorem dX0_noteFelt_9 : decode cX0_noteFelt 9 = .ok (.iconst 0, 1) := by decide +kernel
theorem dX0_noteFelt_10 : decode cX0_noteFelt 10 = .ok (.ireturn, 1) := by decide +kernel
theorem dX0_noteFelt_11 : decode cX0_noteFelt 11 = .ok (.aload_n 0, 1) := by decide +kernel
theorem dX0_noteFelt_12 : decode cX0_noteFelt 12 = .ok (.getfield 24, 3) := by decide +kernel
theorem dX0_noteFelt_15 : decode cX0_noteFelt 15 = .ok (.aload_n 0, 1) := by decide +kernel
theorem dX0_noteFelt_16 : decode cX0_noteFelt 16 = .ok (.getfield 48, 3) := by decide +kernel
theorem dX0_noteFelt_19 : decode cX0_noteFelt 19 = .ok (.iload_n 1, 1) := by decide +kernel
theorem dX0_noteFelt_20 : decode cX0_noteFelt 20 = .ok (.iastore, 1) := by decide +kernel
theorem dX0_noteFelt_21 : decode cX0_noteFelt 21 = .ok (.aload_n 0, 1) := by decide +kernel
theorem dX0_noteFelt_22 : decode cX0_noteFelt 22 = .ok (.getfield 28, 3) := by decide +kernel
theorem dX0_noteFelt_25 : decode cX0_noteFelt 25 = .ok (.aload_n 0, 1) := by decide +kernel
theorem dX0_noteFelt_26 : decode cX0_noteFelt 26 = .ok (.getfield 48, 3) := by decide +kernel
theorem dX0_noteFelt_29 : decode cX0_noteFelt 29 = .ok (.iload_n 2, 1) := by decide +kernel
theorem dX0_noteFelt_30 : decode cX0_noteFelt 30 = .ok (.iastore, 1) := by decide +kernel
theorem dX0_noteFelt_31 : decode cX0_noteFelt 31 = .ok (.aload_n 0, 1) := by decide +kernel
theorem dX0_noteFelt_32 : decode cX0_noteFelt 32 = .ok (.getfield 31, 3) := by decide +kernel
theorem dX0_noteFelt_35 : decode cX0_noteFelt 35 = .ok (.aload_n 0, 1) := by decide +kernel
theorem dX0_noteFelt_36 : decode cX0_noteFelt 36 = .ok (.getfield 48, 3) := by decide +kernel
theorem dX0_noteFelt_39 : decode cX0_noteFelt 39 = .ok (.iload_n 3, 1) := by decide +kernel
theorem dX0_noteFelt_40 : decode cX0_noteFelt 40 = .ok (.iastore, 1) := by decide +kernel
theorem dX0_noteFelt_41 : decode cX0_noteFelt 41 = .ok (.aload_n 0, 1) := by decide +kernel
theorem dX0_noteFelt_42 : decode cX0_noteFelt 42 = .ok (.dup, 1) := by decide +kernel
theorem dX0_noteFelt_43 : decode cX0_noteFelt 43 = .ok (.getfield 48, 3) := by decide +kernel
theorem dX0_noteFelt_46 : decode cX0_noteFelt 46 = .ok (.iconst 1, 1) := by decide +kernel
theorem dX0_noteFelt_47 : decode cX0_noteFelt 47 = .ok (.iadd, 1) := by decide +kernel
theorem dX0_noteFelt_48 : decode cX0_noteFelt 48 = .ok (.putfield 48, 3) := by decide +kernel
theorem dX0_noteFelt_51 : decode cX0_noteFelt 51 = .ok (.iconst 1, 1) := by decide +kernel
theorem dX0_noteFelt_52 : decode cX0_noteFelt 52 = .ok (.ireturn, 1) := by decide +kernel
theorem dX0_passRound_0 : decode cX0_passRound 0 = .ok (.iconst 0, 1) := by decide +kernel
theorem dX0_passRound_1 : decode cX0_passRound 1 = .ok (.istore_n 1, 1) := by decide +kernel
theorem dX0_passRound_2 : decode cX0_passRound 2 = .ok (.iload_n 1, 1) := by decide +kernel
theorem dX0_passRound_3 : decode cX0_passRound 3 = .ok (.aload_n 0, 1) := by decide +kernel
theorem dX0_passRound_4 : decode cX0_passRound 4 = .ok (.getfield 38, 3) := by decide +kernel
theorem dX0_passRound_7 : decode cX0_passRound 7 = .ok (.if_icmp .ge 48, 3) := by decide +kernel
theorem dX0_passRound_10 : decode cX0_passRound 10 = .ok (.aload_n 0, 1) := by decide +kernel
theorem dX0_passRound_11 : decode cX0_passRound 11 = .ok (.getfield 20, 3) := by decide +kernel
theorem dX0_passRound_14 : decode cX0_passRound 14 = .ok (.iload_n 1, 1) := by decide +kernel
theorem dX0_passRound_15 : decode cX0_passRound 15 = .ok (.aaload, 1) := by decide +kernel
theorem dX0_passRound_16 : decode cX0_passRound 16 = .ok (.getfield 68, 3) := by decide +kernel
theorem dX0_passRound_19 : decode cX0_passRound 19 = .ok (.bipush (-4), 2) := by decide +kernel
theorem dX0_passRound_21 : decode cX0_passRound 21 = .ok (.if_icmp .eq 28, 3) := by decide +kernel
theorem dX0_passRound_24 : decode cX0_passRound 24 = .ok (.aload_n 0, 1) := by decide +kernel
theorem dX0_passRound_25 : decode cX0_passRound 25 = .ok (.getfield 20, 3) := by decide +kernel
theorem dX0_passRound_28 : decode cX0_passRound 28 = .ok (.iload_n 1, 1) := by decide +kernel
theorem dX0_passRound_29 : decode cX0_passRound 29 = .ok (.aaload, 1) := by decide +kernel
theorem dX0_passRound_30 : decode cX0_passRound 30 = .ok (.aload_n 0, 1) := by decide +kernel
theorem dX0_passRound_31 : decode cX0_passRound 31 = .ok (.getfield 12, 3) := by decide +kernel
theorem dX0_passRound_34 : decode cX0_passRound 34 = .ok (.aload_n 0, 1) := by decide +kernel
theorem dX0_passRound_35 : decode cX0_passRound 35 = .ok (.getfield 20, 3) := by decide +kernel
theorem dX0_passRound_38 : decode cX0_passRound 38 = .ok (.iload_n 1, 1) := by decide +kernel
theorem dX0_passRound_39 : decode cX0_passRound 39 = .ok (.aaload, 1) := by decide +kernel
theorem dX0_passRound_40 : decode cX0_passRound 40 = .ok (.getfield 68, 3) := by decide +kernel
theorem dX0_passRound_43 : decode cX0_passRound 43 = .ok (.invokevirtual 71, 3) := by decide +kernel
theorem dX0_passRound_46 : decode cX0_passRound 46 = .ok (.invokevirtual 75, 3) := by decide +kernel
theorem dX0_passRound_49 : decode cX0_passRound 49 = .ok (.iinc 1 1, 3) := by decide +kernel
theorem dX0_passRound_52 : decode cX0_passRound 52 = .ok (.goto (-50), 3) := by decide +kernel
theorem dX0_passRound_55 : decode cX0_passRound 55 = .ok (.aload_n 0, 1) := by decide +kernel
theorem dX0_passRound_56 : decode cX0_passRound 56 = .ok (.getfield 12, 3) := by decide +kernel
theorem dX0_passRound_59 : decode cX0_passRound 59 = .ok (.invokevirtual 79, 3) := by decide +kernel
theorem dX0_passRound_62 : decode cX0_passRound 62 = .ok (.aload_n 0, 1) := by decide +kernel
theorem dX0_passRound_63 : decode cX0_passRound 63 = .ok (.getfield 12, 3) := by decide +kernel
theorem dX0_passRound_66 : decode cX0_passRound 66 = .ok (.invokevirtual 82, 3) := by decide +kernel
theorem dX0_passRound_69 : decode cX0_passRound 69 = .ok (.aload_n 0, 1) := by decide +kernel
theorem dX0_passRound_70 : decode cX0_passRound 70 = .ok (.dup, 1) := by decide +kernel
theorem dX0_passRound_71 : decode cX0_passRound 71 = .ok (.getfield 42, 3) := by decide +kernel
theorem dX0_passRound_74 : decode cX0_passRound 74 = .ok (.iconst 1, 1) := by decide +kernel
theorem dX0_passRound_75 : decode cX0_passRound 75 = .ok (.iadd, 1) := by decide +kernel
theorem dX0_passRound_76 : decode cX0_passRound 76 = .ok (.putfield 42, 3) := by decide +kernel
theorem dX0_passRound_79 : decode cX0_passRound 79 = .ok (.return_, 1) := by decide +kernel
theorem dX0_passRounds_0 : decode cX0_passRounds 0 = .ok (.iconst 0, 1) := by decide +kernel
theorem dX0_passRounds_1 : decode cX0_passRounds 1 = .ok (.istore_n 2, 1) := by decide +kernel
theorem dX0_passRounds_2 : decode cX0_passRounds 2 = .ok (.iload_n 2, 1) := by decide +kernel
theorem dX0_passRounds_3 : decode cX0_passRounds 3 = .ok (.iload_n 1, 1) := by decide +kernel
theorem dX0_passRounds_4 : decode cX0_passRounds 4 = .ok (.if_icmp .ge 13, 3) := by decide +kernel
theorem dX0_passRounds_7 : decode cX0_passRounds 7 = .ok (.aload_n 0, 1) := by decide +kernel
theorem dX0_passRounds_8 : decode cX0_passRounds 8 = .ok (.invokevirtual 85, 3) := by decide +kernel
theorem dX0_passRounds_11 : decode cX0_passRounds 11 = .ok (.iinc 2 1, 3) := by decide +kernel
theorem dX0_passRounds_14 : decode cX0_passRounds 14 = .ok (.goto (-12), 3) := by decide +kernel
theorem dX0_passRounds_17 : decode cX0_passRounds 17 = .ok (.return_, 1) := by decide +kernel
theorem dX0_meddle_0 : decode cX0_meddle 0 = .ok (.aload_n 0, 1) := by decide +kernel
theorem dX0_meddle_1 : decode cX0_meddle 1 = .ok (.iload_n 1, 1) := by decide +kernel
theorem dX0_meddle_2 : decode cX0_meddle 2 = .ok (.invokevirtual 88, 3) := by decide +kernel
theorem dX0_meddle_5 : decode cX0_meddle 5 = .ok (.ifCond .ne 4, 3) := by decide +kernel
theorem dX0_meddle_8 : decode cX0_meddle 8 = .ok (.return_, 1) := by decide +kernel
theorem dX0_meddle_9 : decode cX0_meddle 9 = .ok (.iload_n 2, 1) := by decide +kernel
theorem dX0_meddle_10 : decode cX0_meddle 10 = .ok (.ifCond .ne 15, 3) := by decide +kernel
theorem dX0_meddle_13 : decode cX0_meddle 13 = .ok (.aload_n 0, 1) := by decide +kernel
theorem dX0_meddle_14 : decode cX0_meddle 14 = .ok (.getfield 20, 3) := by decide +kernel
theorem dX0_meddle_17 : decode cX0_meddle 17 = .ok (.iload_n 1, 1) := by decide +kernel
theorem dX0_meddle_18 : decode cX0_meddle 18 = .ok (.aaload, 1) := by decide +kernel
theorem dX0_meddle_19 : decode cX0_meddle 19 = .ok (.invokevirtual 92, 3) := by decide +kernel
theorem dX0_meddle_22 : decode cX0_meddle 22 = .ok (.goto 31, 3) := by decide +kernel
theorem dX0_meddle_25 : decode cX0_meddle 25 = .ok (.iload_n 2, 1) := by decide +kernel
theorem dX0_meddle_26 : decode cX0_meddle 26 = .ok (.iconst 1, 1) := by decide +kernel
theorem dX0_meddle_27 : decode cX0_meddle 27 = .ok (.if_icmp .ne 26, 3) := by decide +kernel
theorem dX0_meddle_30 : decode cX0_meddle 30 = .ok (.aload_n 0, 1) := by decide +kernel
theorem dX0_meddle_31 : decode cX0_meddle 31 = .ok (.getfield 20, 3) := by decide +kernel
theorem dX0_meddle_34 : decode cX0_meddle 34 = .ok (.iload_n 1, 1) := by decide +kernel
theorem dX0_meddle_35 : decode cX0_meddle 35 = .ok (.aaload, 1) := by decide +kernel
theorem dX0_meddle_36 : decode cX0_meddle 36 = .ok (.invokevirtual 95, 3) := by decide +kernel
theorem dX0_meddle_39 : decode cX0_meddle 39 = .ok (.ifCond .eq 14, 3) := by decide +kernel
theorem dX0_meddle_42 : decode cX0_meddle 42 = .ok (.aload_n 0, 1) := by decide +kernel
theorem dX0_meddle_43 : decode cX0_meddle 43 = .ok (.getfield 20, 3) := by decide +kernel
theorem dX0_meddle_46 : decode cX0_meddle 46 = .ok (.iload_n 1, 1) := by decide +kernel
theorem dX0_meddle_47 : decode cX0_meddle 47 = .ok (.aaload, 1) := by decide +kernel
theorem dX0_meddle_48 : decode cX0_meddle 48 = .ok (.bipush (-4), 2) := by decide +kernel
theorem dX0_meddle_50 : decode cX0_meddle 50 = .ok (.putfield 68, 3) := by decide +kernel
theorem dX0_meddle_53 : decode cX0_meddle 53 = .ok (.return_, 1) := by decide +kernel
theorem dX0_tally_0 : decode cX0_tally 0 = .ok (.iconst 0, 1) := by decide +kernel
theorem dX0_tally_1 : decode cX0_tally 1 = .ok (.istore_n 2, 1) := by decide +kernel
theorem dX0_tally_2 : decode cX0_tally 2 = .ok (.iconst 0, 1) := by decide +kernel
theorem dX0_tally_3 : decode cX0_tally 3 = .ok (.istore_n 3, 1) := by decide +kernel
theorem dX0_tally_4 : decode cX0_tally 4 = .ok (.iload_n 3, 1) := by decide +kernel
theorem dX0_tally_5 : decode cX0_tally 5 = .ok (.aload_n 0, 1) := by decide +kernel
theorem dX0_tally_6 : decode cX0_tally 6 = .ok (.getfield 38, 3) := by decide +kernel
theorem dX0_tally_9 : decode cX0_tally 9 = .ok (.if_icmp .ge 25, 3) := by decide +kernel
theorem dX0_tally_12 : decode cX0_tally 12 = .ok (.aload_n 0, 1) := by decide +kernel
theorem dX0_tally_13 : decode cX0_tally 13 = .ok (.getfield 20, 3) := by decide +kernel
theorem dX0_tally_16 : decode cX0_tally 16 = .ok (.iload_n 3, 1) := by decide +kernel
theorem dX0_tally_17 : decode cX0_tally 17 = .ok (.aaload, 1) := by decide +kernel
theorem dX0_tally_18 : decode cX0_tally 18 = .ok (.iload_n 1, 1) := by decide +kernel
theorem dX0_tally_19 : decode cX0_tally 19 = .ok (.invokestatic 99, 3) := by decide +kernel
theorem dX0_tally_22 : decode cX0_tally 22 = .ok (.ifCond .eq 6, 3) := by decide +kernel
theorem dX0_tally_25 : decode cX0_tally 25 = .ok (.iinc 2 1, 3) := by decide +kernel
theorem dX0_tally_28 : decode cX0_tally 28 = .ok (.iinc 3 1, 3) := by decide +kernel
theorem dX0_tally_31 : decode cX0_tally 31 = .ok (.goto (-27), 3) := by decide +kernel
theorem dX0_tally_34 : decode cX0_tally 34 = .ok (.iload_n 2, 1) := by decide +kernel
theorem dX0_tally_35 : decode cX0_tally 35 = .ok (.ireturn, 1) := by decide +kernel
theorem dX0_isOfKind_0 : decode cX0_isOfKind 0 = .ok (.iload_n 1, 1) := by decide +kernel
theorem dX0_isOfKind_1 : decode cX0_isOfKind 1 = .ok (.tableswitch 42 0 2 #[27, 32, 37], 27) := by decide +kernel
theorem dX0_isOfKind_28 : decode cX0_isOfKind 28 = .ok (.aload_n 0, 1) := by decide +kernel
theorem dX0_isOfKind_29 : decode cX0_isOfKind 29 = .ok (.invokevirtual 95, 3) := by decide +kernel
theorem dX0_isOfKind_32 : decode cX0_isOfKind 32 = .ok (.ireturn, 1) := by decide +kernel
theorem dX0_isOfKind_33 : decode cX0_isOfKind 33 = .ok (.aload_n 0, 1) := by decide +kernel
theorem dX0_isOfKind_34 : decode cX0_isOfKind 34 = .ok (.invokevirtual 103, 3) := by decide +kernel
theorem dX0_isOfKind_37 : decode cX0_isOfKind 37 = .ok (.ireturn, 1) := by decide +kernel
theorem dX0_isOfKind_38 : decode cX0_isOfKind 38 = .ok (.aload_n 0, 1) := by decide +kernel
theorem dX0_isOfKind_39 : decode cX0_isOfKind 39 = .ok (.invokevirtual 106, 3) := by decide +kernel
theorem dX0_isOfKind_42 : decode cX0_isOfKind 42 = .ok (.ireturn, 1) := by decide +kernel
theorem dX0_isOfKind_43 : decode cX0_isOfKind 43 = .ok (.aload_n 0, 1) := by decide +kernel
theorem dX0_isOfKind_44 : decode cX0_isOfKind 44 = .ok (.getfield 68, 3) := by decide +kernel
theorem dX0_isOfKind_47 : decode cX0_isOfKind 47 = .ok (.bipush (-4), 2) := by decide +kernel
theorem dX0_isOfKind_49 : decode cX0_isOfKind 49 = .ok (.if_icmp .ne 7, 3) := by decide +kernel
theorem dX0_isOfKind_52 : decode cX0_isOfKind 52 = .ok (.iconst 1, 1) := by decide +kernel
theorem dX0_isOfKind_53 : decode cX0_isOfKind 53 = .ok (.goto 4, 3) := by decide +kernel
theorem dX0_isOfKind_56 : decode cX0_isOfKind 56 = .ok (.iconst 0, 1) := by decide +kernel
theorem dX0_isOfKind_57 : decode cX0_isOfKind 57 = .ok (.ireturn, 1) := by decide +kernel
theorem dX0_mostWanted_0 : decode cX0_mostWanted 0 = .ok (.bipush (-4), 2) := by decide +kernel
theorem dX0_mostWanted_2 : decode cX0_mostWanted 2 = .ok (.istore_n 2, 1) := by decide +kernel
theorem dX0_mostWanted_3 : decode cX0_mostWanted 3 = .ok (.iconst (-1), 1) := by decide +kernel
theorem dX0_mostWanted_4 : decode cX0_mostWanted 4 = .ok (.istore_n 3, 1) := by decide +kernel
theorem dX0_mostWanted_5 : decode cX0_mostWanted 5 = .ok (.iconst 0, 1) := by decide +kernel
theorem dX0_mostWanted_6 : decode cX0_mostWanted 6 = .ok (.istore 4, 2) := by decide +kernel
theorem dX0_mostWanted_8 : decode cX0_mostWanted 8 = .ok (.iload 4, 2) := by decide +kernel
theorem dX0_mostWanted_10 : decode cX0_mostWanted 10 = .ok (.aload_n 0, 1) := by decide +kernel
theorem dX0_mostWanted_11 : decode cX0_mostWanted 11 = .ok (.getfield 38, 3) := by decide +kernel
theorem dX0_mostWanted_14 : decode cX0_mostWanted 14 = .ok (.if_icmp .ge 46, 3) := by decide +kernel
theorem dX0_mostWanted_17 : decode cX0_mostWanted 17 = .ok (.iload_n 1, 1) := by decide +kernel
theorem dX0_mostWanted_18 : decode cX0_mostWanted 18 = .ok (.iconst 1, 1) := by decide +kernel
theorem dX0_mostWanted_19 : decode cX0_mostWanted 19 = .ok (.iload 4, 2) := by decide +kernel
theorem dX0_mostWanted_21 : decode cX0_mostWanted 21 = .ok (.ishl, 1) := by decide +kernel
theorem dX0_mostWanted_22 : decode cX0_mostWanted 22 = .ok (.iand, 1) := by decide +kernel
theorem dX0_mostWanted_23 : decode cX0_mostWanted 23 = .ok (.ifCond .ne 31, 3) := by decide +kernel
theorem dX0_mostWanted_26 : decode cX0_mostWanted 26 = .ok (.aload_n 0, 1) := by decide +kernel
theorem dX0_mostWanted_27 : decode cX0_mostWanted 27 = .ok (.getfield 20, 3) := by decide +kernel
theorem dX0_mostWanted_30 : decode cX0_mostWanted 30 = .ok (.iload 4, 2) := by decide +kernel
theorem dX0_mostWanted_32 : decode cX0_mostWanted 32 = .ok (.aaload, 1) := by decide +kernel
theorem dX0_mostWanted_33 : decode cX0_mostWanted 33 = .ok (.invokevirtual 109, 3) := by decide +kernel
theorem dX0_mostWanted_36 : decode cX0_mostWanted 36 = .ok (.iload_n 3, 1) := by decide +kernel
theorem dX0_mostWanted_37 : decode cX0_mostWanted 37 = .ok (.if_icmp .le 17, 3) := by decide +kernel
theorem dX0_mostWanted_40 : decode cX0_mostWanted 40 = .ok (.iload 4, 2) := by decide +kernel
theorem dX0_mostWanted_42 : decode cX0_mostWanted 42 = .ok (.istore_n 2, 1) := by decide +kernel
theorem dX0_mostWanted_43 : decode cX0_mostWanted 43 = .ok (.aload_n 0, 1) := by decide +kernel
theorem dX0_mostWanted_44 : decode cX0_mostWanted 44 = .ok (.getfield 20, 3) := by decide +kernel
theorem dX0_mostWanted_47 : decode cX0_mostWanted 47 = .ok (.iload 4, 2) := by decide +kernel
theorem dX0_mostWanted_49 : decode cX0_mostWanted 49 = .ok (.aaload, 1) := by decide +kernel
theorem dX0_mostWanted_50 : decode cX0_mostWanted 50 = .ok (.invokevirtual 109, 3) := by decide +kernel
theorem dX0_mostWanted_53 : decode cX0_mostWanted 53 = .ok (.istore_n 3, 1) := by decide +kernel
theorem dX0_mostWanted_54 : decode cX0_mostWanted 54 = .ok (.iinc 4 1, 3) := by decide +kernel
theorem dX0_mostWanted_57 : decode cX0_mostWanted 57 = .ok (.goto (-49), 3) := by decide +kernel
theorem dX0_mostWanted_60 : decode cX0_mostWanted 60 = .ok (.iload_n 2, 1) := by decide +kernel
theorem dX0_mostWanted_61 : decode cX0_mostWanted 61 = .ok (.ireturn, 1) := by decide +kernel
theorem dX1_init_0 : decode cX1_init 0 = .ok (.aload_n 0, 1) := by decide +kernel
theorem dX1_init_1 : decode cX1_init 1 = .ok (.invokespecial 3, 3) := by decide +kernel
theorem dX1_init_4 : decode cX1_init 4 = .ok (.aload_n 0, 1) := by decide +kernel
theorem dX1_init_5 : decode cX1_init 5 = .ok (.bipush 100, 2) := by decide +kernel
theorem dX1_init_7 : decode cX1_init 7 = .ok (.newarray .boolean, 2) := by decide +kernel
theorem dX1_init_9 : decode cX1_init 9 = .ok (.putfield 9, 3) := by decide +kernel
theorem dX1_init_12 : decode cX1_init 12 = .ok (.aload_n 0, 1) := by decide +kernel
theorem dX1_init_13 : decode cX1_init 13 = .ok (.bipush 19, 2) := by decide +kernel
theorem dX1_init_15 : decode cX1_init 15 = .ok (.newarray .boolean, 2) := by decide +kernel
theorem dX1_init_17 : decode cX1_init 17 = .ok (.putfield 15, 3) := by decide +kernel
theorem dX1_init_20 : decode cX1_init 20 = .ok (.return_, 1) := by decide +kernel
theorem dX1_search_0 : decode cX1_search 0 = .ok (.iconst 0, 1) := by decide +kernel
theorem dX1_search_1 : decode cX1_search 1 = .ok (.istore_n 3, 1) := by decide +kernel
theorem dX1_search_2 : decode cX1_search 2 = .ok (.iload_n 3, 1) := by decide +kernel
theorem dX1_search_3 : decode cX1_search 3 = .ok (.aload_n 0, 1) := by decide +kernel
theorem dX1_search_4 : decode cX1_search 4 = .ok (.getfield 9, 3) := by decide +kernel
theorem dX1_search_7 : decode cX1_search 7 = .ok (.arraylength, 1) := by decide +kernel
theorem dX1_search_8 : decode cX1_search 8 = .ok (.if_icmp .ge 16, 3) := by decide +kernel
theorem dX1_search_11 : decode cX1_search 11 = .ok (.aload_n 0, 1) := by decide +kernel
theorem dX1_search_12 : decode cX1_search 12 = .ok (.getfield 9, 3) := by decide +kernel
theorem dX1_search_15 : decode cX1_search 15 = .ok (.iload_n 3, 1) := by decide +kernel
theorem dX1_search_16 : decode cX1_search 16 = .ok (.iconst 1, 1) := by decide +kernel
theorem dX1_search_17 : decode cX1_search 17 = .ok (.bastore, 1) := by decide +kernel
theorem dX1_search_18 : decode cX1_search 18 = .ok (.iinc 3 1, 3) := by decide +kernel
theorem dX1_search_21 : decode cX1_search 21 = .ok (.goto (-19), 3) := by decide +kernel
theorem dX1_search_24 : decode cX1_search 24 = .ok (.iconst 0, 1) := by decide +kernel
theorem dX1_search_25 : decode cX1_search 25 = .ok (.istore_n 3, 1) := by decide +kernel
theorem dX1_search_26 : decode cX1_search 26 = .ok (.iload_n 3, 1) := by decide +kernel
theorem dX1_search_27 : decode cX1_search 27 = .ok (.aload_n 1, 1) := by decide +kernel
theorem dX1_search_28 : decode cX1_search 28 = .ok (.getfield 18, 3) := by decide +kernel
theorem dX1_search_31 : decode cX1_search 31 = .ok (.if_icmp .ge 122, 3) := by decide +kernel
theorem dX1_search_34 : decode cX1_search 34 = .ok (.aload_n 1, 1) := by decide +kernel
theorem dX1_search_35 : decode cX1_search 35 = .ok (.getfield 24, 3) := by decide +kernel
theorem dX1_search_38 : decode cX1_search 38 = .ok (.iload_n 3, 1) := by decide +kernel
theorem dX1_search_39 : decode cX1_search 39 = .ok (.iaload, 1) := by decide +kernel
theorem dX1_search_40 : decode cX1_search 40 = .ok (.istore 4, 2) := by decide +kernel
theorem dX1_search_42 : decode cX1_search 42 = .ok (.bipush 20, 2) := by decide +kernel
theorem dX1_search_44 : decode cX1_search 44 = .ok (.aload_n 1, 1) := by decide +kernel
theorem dX1_search_45 : decode cX1_search 45 = .ok (.getfield 28, 3) := by decide +kernel
theorem dX1_search_48 : decode cX1_search 48 = .ok (.iload_n 3, 1) := by decide +kernel
theorem dX1_search_49 : decode cX1_search 49 = .ok (.iaload, 1) := by decide +kernel
theorem dX1_search_50 : decode cX1_search 50 = .ok (.invokestatic 31, 3) := by decide +kernel
theorem dX1_search_53 : decode cX1_search 53 = .ok (.istore 5, 2) := by decide +kernel
theorem dX1_search_55 : decode cX1_search 55 = .ok (.aload_n 2, 1) := by decide +kernel
theorem dX1_search_56 : decode cX1_search 56 = .ok (.aload_n 1, 1) := by decide +kernel
theorem dX1_search_57 : decode cX1_search 57 = .ok (.getfield 37, 3) := by decide +kernel
theorem dX1_search_60 : decode cX1_search 60 = .ok (.iload 4, 2) := by decide +kernel
theorem dX1_search_62 : decode cX1_search 62 = .ok (.invokevirtual 41, 3) := by decide +kernel
theorem dX1_search_65 : decode cX1_search 65 = .ok (.iconst 0, 1) := by decide +kernel
theorem dX1_search_66 : decode cX1_search 66 = .ok (.istore 6, 2) := by decide +kernel
theorem dX1_search_68 : decode cX1_search 68 = .ok (.iload 6, 2) := by decide +kernel
theorem dX1_search_70 : decode cX1_search 70 = .ok (.aload_n 0, 1) := by decide +kernel
theorem dX1_search_71 : decode cX1_search 71 = .ok (.getfield 15, 3) := by decide +kernel
theorem dX1_search_74 : decode cX1_search 74 = .ok (.arraylength, 1) := by decide +kernel
theorem dX1_search_75 : decode cX1_search 75 = .ok (.if_icmp .ge 59, 3) := by decide +kernel
theorem dX1_search_78 : decode cX1_search 78 = .ok (.aload_n 2, 1) := by decide +kernel
theorem dX1_search_79 : decode cX1_search 79 = .ok (.aload_n 1, 1) := by decide +kernel
theorem dX1_search_80 : decode cX1_search 80 = .ok (.getfield 37, 3) := by decide +kernel
theorem dX1_search_83 : decode cX1_search 83 = .ok (.iload 4, 2) := by decide +kernel
theorem dX1_search_85 : decode cX1_search 85 = .ok (.invokevirtual 47, 3) := by decide +kernel
theorem dX1_search_88 : decode cX1_search 88 = .ok (.iload 6, 2) := by decide +kernel
theorem dX1_search_90 : decode cX1_search 90 = .ok (.iload 5, 2) := by decide +kernel
theorem dX1_search_92 : decode cX1_search 92 = .ok (.invokevirtual 53, 3) := by decide +kernel
theorem dX1_search_95 : decode cX1_search 95 = .ok (.aload_n 0, 1) := by decide +kernel
theorem dX1_search_96 : decode cX1_search 96 = .ok (.getfield 15, 3) := by decide +kernel
theorem dX1_search_99 : decode cX1_search 99 = .ok (.iload 6, 2) := by decide +kernel
theorem dX1_search_101 : decode cX1_search 101 = .ok (.iload 5, 2) := by decide +kernel
theorem dX1_search_103 : decode cX1_search 103 = .ok (.ifCond .lt 23, 3) := by decide +kernel
theorem dX1_search_106 : decode cX1_search 106 = .ok (.aload_n 2, 1) := by decide +kernel
theorem dX1_search_107 : decode cX1_search 107 = .ok (.getfield 57, 3) := by decide +kernel
theorem dX1_search_110 : decode cX1_search 110 = .ok (.iload 5, 2) := by decide +kernel
theorem dX1_search_112 : decode cX1_search 112 = .ok (.iaload, 1) := by decide +kernel
theorem dX1_search_113 : decode cX1_search 113 = .ok (.aload_n 1, 1) := by decide +kernel
theorem dX1_search_114 : decode cX1_search 114 = .ok (.getfield 60, 3) := by decide +kernel
theorem dX1_search_117 : decode cX1_search 117 = .ok (.iload_n 3, 1) := by decide +kernel
theorem dX1_search_118 : decode cX1_search 118 = .ok (.iaload, 1) := by decide +kernel
theorem dX1_search_119 : decode cX1_search 119 = .ok (.if_icmp .ne 7, 3) := by decide +kernel
theorem dX1_search_122 : decode cX1_search 122 = .ok (.iconst 1, 1) := by decide +kernel
theorem dX1_search_123 : decode cX1_search 123 = .ok (.goto 4, 3) := by decide +kernel
theorem dX1_search_126 : decode cX1_search 126 = .ok (.iconst 0, 1) := by decide +kernel
theorem dX1_search_127 : decode cX1_search 127 = .ok (.bastore, 1) := by decide +kernel
theorem dX1_search_128 : decode cX1_search 128 = .ok (.iinc 6 1, 3) := by decide +kernel
theorem dX1_search_131 : decode cX1_search 131 = .ok (.goto (-63), 3) := by decide +kernel
theorem dX1_search_134 : decode cX1_search 134 = .ok (.aload_n 0, 1) := by decide +kernel
theorem dX1_search_135 : decode cX1_search 135 = .ok (.aload_n 1, 1) := by decide +kernel
theorem dX1_search_136 : decode cX1_search 136 = .ok (.getfield 37, 3) := by decide +kernel
theorem dX1_search_139 : decode cX1_search 139 = .ok (.iload 4, 2) := by decide +kernel
theorem dX1_search_141 : decode cX1_search 141 = .ok (.invokevirtual 63, 3) := by decide +kernel
theorem dX1_search_144 : decode cX1_search 144 = .ok (.invokevirtual 67, 3) := by decide +kernel
theorem dX1_search_147 : decode cX1_search 147 = .ok (.iinc 3 1, 3) := by decide +kernel
theorem dX1_search_150 : decode cX1_search 150 = .ok (.goto (-124), 3) := by decide +kernel
theorem dX1_search_153 : decode cX1_search 153 = .ok (.aload_n 0, 1) := by decide +kernel
theorem dX1_search_154 : decode cX1_search 154 = .ok (.invokevirtual 71, 3) := by decide +kernel
theorem dX1_search_157 : decode cX1_search 157 = .ok (.return_, 1) := by decide +kernel
theorem dX1_sift_0 : decode cX1_sift 0 = .ok (.iconst 0, 1) := by decide +kernel
theorem dX1_sift_1 : decode cX1_sift 1 = .ok (.istore_n 2, 1) := by decide +kernel
theorem dX1_sift_2 : decode cX1_sift 2 = .ok (.iload_n 2, 1) := by decide +kernel
theorem dX1_sift_3 : decode cX1_sift 3 = .ok (.aload_n 0, 1) := by decide +kernel
theorem dX1_sift_4 : decode cX1_sift 4 = .ok (.getfield 9, 3) := by decide +kernel
theorem dX1_sift_7 : decode cX1_sift 7 = .ok (.arraylength, 1) := by decide +kernel
theorem dX1_sift_8 : decode cX1_sift 8 = .ok (.if_icmp .ge 56, 3) := by decide +kernel
theorem dX1_sift_11 : decode cX1_sift 11 = .ok (.iload_n 2, 1) := by decide +kernel
theorem dX1_sift_12 : decode cX1_sift 12 = .ok (.bipush 10, 2) := by decide +kernel
theorem dX1_sift_14 : decode cX1_sift 14 = .ok (.idiv, 1) := by decide +kernel
theorem dX1_sift_15 : decode cX1_sift 15 = .ok (.iload_n 1, 1) := by decide +kernel
theorem dX1_sift_16 : decode cX1_sift 16 = .ok (.ifCond .eq 10, 3) := by decide +kernel
theorem dX1_sift_19 : decode cX1_sift 19 = .ok (.iload_n 2, 1) := by decide +kernel
theorem dX1_sift_20 : decode cX1_sift 20 = .ok (.bipush 10, 2) := by decide +kernel
theorem dX1_sift_22 : decode cX1_sift 22 = .ok (.irem, 1) := by decide +kernel
theorem dX1_sift_23 : decode cX1_sift 23 = .ok (.goto 4, 3) := by decide +kernel
theorem dX1_sift_26 : decode cX1_sift 26 = .ok (.iconst 0, 1) := by decide +kernel
theorem dX1_sift_27 : decode cX1_sift 27 = .ok (.iadd, 1) := by decide +kernel
theorem dX1_sift_28 : decode cX1_sift 28 = .ok (.istore_n 3, 1) := by decide +kernel
theorem dX1_sift_29 : decode cX1_sift 29 = .ok (.aload_n 0, 1) := by decide +kernel
theorem dX1_sift_30 : decode cX1_sift 30 = .ok (.getfield 9, 3) := by decide +kernel
theorem dX1_sift_33 : decode cX1_sift 33 = .ok (.iload_n 2, 1) := by decide +kernel
theorem dX1_sift_34 : decode cX1_sift 34 = .ok (.aload_n 0, 1) := by decide +kernel
theorem dX1_sift_35 : decode cX1_sift 35 = .ok (.getfield 9, 3) := by decide +kernel
theorem dX1_sift_38 : decode cX1_sift 38 = .ok (.iload_n 2, 1) := by decide +kernel
theorem dX1_sift_39 : decode cX1_sift 39 = .ok (.baload, 1) := by decide +kernel
theorem dX1_sift_40 : decode cX1_sift 40 = .ok (.ifCond .eq 16, 3) := by decide +kernel
theorem dX1_sift_43 : decode cX1_sift 43 = .ok (.aload_n 0, 1) := by decide +kernel
theorem dX1_sift_44 : decode cX1_sift 44 = .ok (.getfield 15, 3) := by decide +kernel
theorem dX1_sift_47 : decode cX1_sift 47 = .ok (.iload_n 3, 1) := by decide +kernel
theorem dX1_sift_48 : decode cX1_sift 48 = .ok (.baload, 1) := by decide +kernel
theorem dX1_sift_49 : decode cX1_sift 49 = .ok (.ifCond .eq 7, 3) := by decide +kernel
theorem dX1_sift_52 : decode cX1_sift 52 = .ok (.iconst 1, 1) := by decide +kernel
theorem dX1_sift_53 : decode cX1_sift 53 = .ok (.goto 4, 3) := by decide +kernel
theorem dX1_sift_56 : decode cX1_sift 56 = .ok (.iconst 0, 1) := by decide +kernel
theorem dX1_sift_57 : decode cX1_sift 57 = .ok (.bastore, 1) := by decide +kernel
theorem dX1_sift_58 : decode cX1_sift 58 = .ok (.iinc 2 1, 3) := by decide +kernel
theorem dX1_sift_61 : decode cX1_sift 61 = .ok (.goto (-59), 3) := by decide +kernel
theorem dX1_sift_64 : decode cX1_sift 64 = .ok (.return_, 1) := by decide +kernel
theorem dX1_sumUp_0 : decode cX1_sumUp 0 = .ok (.aload_n 0, 1) := by decide +kernel
theorem dX1_sumUp_1 : decode cX1_sumUp 1 = .ok (.iconst 0, 1) := by decide +kernel
theorem dX1_sumUp_2 : decode cX1_sumUp 2 = .ok (.putfield 74, 3) := by decide +kernel
theorem dX1_sumUp_5 : decode cX1_sumUp 5 = .ok (.aload_n 0, 1) := by decide +kernel
theorem dX1_sumUp_6 : decode cX1_sumUp 6 = .ok (.bipush (-4), 2) := by decide +kernel
theorem dX1_sumUp_8 : decode cX1_sumUp 8 = .ok (.putfield 77, 3) := by decide +kernel
theorem dX1_sumUp_11 : decode cX1_sumUp 11 = .ok (.aload_n 0, 1) := by decide +kernel
theorem dX1_sumUp_12 : decode cX1_sumUp 12 = .ok (.bipush (-4), 2) := by decide +kernel
theorem dX1_sumUp_14 : decode cX1_sumUp 14 = .ok (.putfield 80, 3) := by decide +kernel
theorem dX1_sumUp_17 : decode cX1_sumUp 17 = .ok (.iconst 0, 1) := by decide +kernel
theorem dX1_sumUp_18 : decode cX1_sumUp 18 = .ok (.istore_n 1, 1) := by decide +kernel
theorem dX1_sumUp_19 : decode cX1_sumUp 19 = .ok (.iload_n 1, 1) := by decide +kernel
theorem dX1_sumUp_20 : decode cX1_sumUp 20 = .ok (.aload_n 0, 1) := by decide +kernel
theorem dX1_sumUp_21 : decode cX1_sumUp 21 = .ok (.getfield 9, 3) := by decide +kernel
theorem dX1_sumUp_24 : decode cX1_sumUp 24 = .ok (.arraylength, 1) := by decide +kernel
theorem dX1_sumUp_25 : decode cX1_sumUp 25 = .ok (.if_icmp .ge 52, 3) := by decide +kernel
theorem dX1_sumUp_28 : decode cX1_sumUp 28 = .ok (.aload_n 0, 1) := by decide +kernel
theorem dX1_sumUp_29 : decode cX1_sumUp 29 = .ok (.getfield 9, 3) := by decide +kernel
theorem dX1_sumUp_32 : decode cX1_sumUp 32 = .ok (.iload_n 1, 1) := by decide +kernel
theorem dX1_sumUp_33 : decode cX1_sumUp 33 = .ok (.baload, 1) := by decide +kernel
theorem dX1_sumUp_34 : decode cX1_sumUp 34 = .ok (.ifCond .eq 37, 3) := by decide +kernel
theorem dX1_sumUp_37 : decode cX1_sumUp 37 = .ok (.aload_n 0, 1) := by decide +kernel
theorem dX1_sumUp_38 : decode cX1_sumUp 38 = .ok (.aload_n 0, 1) := by decide +kernel
theorem dX1_sumUp_39 : decode cX1_sumUp 39 = .ok (.getfield 74, 3) := by decide +kernel
theorem dX1_sumUp_42 : decode cX1_sumUp 42 = .ok (.ifCond .ne 7, 3) := by decide +kernel
theorem dX1_sumUp_45 : decode cX1_sumUp 45 = .ok (.iload_n 1, 1) := by decide +kernel
theorem dX1_sumUp_46 : decode cX1_sumUp 46 = .ok (.goto 7, 3) := by decide +kernel
theorem dX1_sumUp_49 : decode cX1_sumUp 49 = .ok (.aload_n 0, 1) := by decide +kernel
theorem dX1_sumUp_50 : decode cX1_sumUp 50 = .ok (.getfield 77, 3) := by decide +kernel
theorem dX1_sumUp_53 : decode cX1_sumUp 53 = .ok (.putfield 77, 3) := by decide +kernel
theorem dX1_sumUp_56 : decode cX1_sumUp 56 = .ok (.aload_n 0, 1) := by decide +kernel
theorem dX1_sumUp_57 : decode cX1_sumUp 57 = .ok (.iload_n 1, 1) := by decide +kernel
theorem dX1_sumUp_58 : decode cX1_sumUp 58 = .ok (.putfield 80, 3) := by decide +kernel
theorem dX1_sumUp_61 : decode cX1_sumUp 61 = .ok (.aload_n 0, 1) := by decide +kernel
theorem dX1_sumUp_62 : decode cX1_sumUp 62 = .ok (.dup, 1) := by decide +kernel
theorem dX1_sumUp_63 : decode cX1_sumUp 63 = .ok (.getfield 74, 3) := by decide +kernel
theorem dX1_sumUp_66 : decode cX1_sumUp 66 = .ok (.iconst 1, 1) := by decide +kernel
theorem dX1_sumUp_67 : decode cX1_sumUp 67 = .ok (.iadd, 1) := by decide +kernel
theorem dX1_sumUp_68 : decode cX1_sumUp 68 = .ok (.putfield 74, 3) := by decide +kernel
theorem dX1_sumUp_71 : decode cX1_sumUp 71 = .ok (.iinc 1 1, 3) := by decide +kernel
theorem dX1_sumUp_74 : decode cX1_sumUp 74 = .ok (.goto (-55), 3) := by decide +kernel
theorem dX1_sumUp_77 : decode cX1_sumUp 77 = .ok (.return_, 1) := by decide +kernel
theorem dX2_init_0 : decode cX2_init 0 = .ok (.aload_n 0, 1) := by decide +kernel
theorem dX2_init_1 : decode cX2_init 1 = .ok (.invokespecial 3, 3) := by decide +kernel
theorem dX2_init_4 : decode cX2_init 4 = .ok (.aload_n 0, 1) := by decide +kernel
theorem dX2_init_5 : decode cX2_init 5 = .ok (.bipush 24, 2) := by decide +kernel
theorem dX2_init_7 : decode cX2_init 7 = .ok (.newarray .int, 2) := by decide +kernel
theorem dX2_init_9 : decode cX2_init 9 = .ok (.putfield 9, 3) := by decide +kernel
theorem dX2_init_12 : decode cX2_init 12 = .ok (.aload_n 0, 1) := by decide +kernel
theorem dX2_init_13 : decode cX2_init 13 = .ok (.bipush 6, 2) := by decide +kernel
theorem dX2_init_15 : decode cX2_init 15 = .ok (.newarray .int, 2) := by decide +kernel
theorem dX2_init_17 : decode cX2_init 17 = .ok (.putfield 15, 3) := by decide +kernel
theorem dX2_init_20 : decode cX2_init 20 = .ok (.aload_n 0, 1) := by decide +kernel
theorem dX2_init_21 : decode cX2_init 21 = .ok (.bipush 6, 2) := by decide +kernel
theorem dX2_init_23 : decode cX2_init 23 = .ok (.newarray .int, 2) := by decide +kernel
theorem dX2_init_25 : decode cX2_init 25 = .ok (.putfield 18, 3) := by decide +kernel
theorem dX2_init_28 : decode cX2_init 28 = .ok (.aload_n 0, 1) := by decide +kernel
theorem dX2_init_29 : decode cX2_init 29 = .ok (.bipush 6, 2) := by decide +kernel
theorem dX2_init_31 : decode cX2_init 31 = .ok (.newarray .int, 2) := by decide +kernel
theorem dX2_init_33 : decode cX2_init 33 = .ok (.putfield 21, 3) := by decide +kernel
theorem dX2_init_36 : decode cX2_init 36 = .ok (.return_, 1) := by decide +kernel
theorem dX2_becomeCold_0 : decode cX2_becomeCold 0 = .ok (.aload_n 0, 1) := by decide +kernel
theorem dX2_becomeCold_1 : decode cX2_becomeCold 1 = .ok (.iconst 3, 1) := by decide +kernel
theorem dX2_becomeCold_2 : decode cX2_becomeCold 2 = .ok (.putfield 24, 3) := by decide +kernel
theorem dX2_becomeCold_5 : decode cX2_becomeCold 5 = .ok (.aload_n 0, 1) := by decide +kernel
theorem dX2_becomeCold_6 : decode cX2_becomeCold 6 = .ok (.iconst 1, 1) := by decide +kernel
theorem dX2_becomeCold_7 : decode cX2_becomeCold 7 = .ok (.putfield 28, 3) := by decide +kernel
theorem dX2_becomeCold_10 : decode cX2_becomeCold 10 = .ok (.aload_n 0, 1) := by decide +kernel
theorem dX2_becomeCold_11 : decode cX2_becomeCold 11 = .ok (.iconst 1, 1) := by decide +kernel
theorem dX2_becomeCold_12 : decode cX2_becomeCold 12 = .ok (.putfield 31, 3) := by decide +kernel
theorem dX2_becomeCold_15 : decode cX2_becomeCold 15 = .ok (.aload_n 0, 1) := by decide +kernel
theorem dX2_becomeCold_16 : decode cX2_becomeCold 16 = .ok (.iconst 0, 1) := by decide +kernel
theorem dX2_becomeCold_17 : decode cX2_becomeCold 17 = .ok (.putfield 34, 3) := by decide +kernel
theorem dX2_becomeCold_20 : decode cX2_becomeCold 20 = .ok (.aload_n 0, 1) := by decide +kernel
theorem dX2_becomeCold_21 : decode cX2_becomeCold 21 = .ok (.getfield 9, 3) := by decide +kernel
theorem dX2_becomeCold_24 : decode cX2_becomeCold 24 = .ok (.iconst 0, 1) := by decide +kernel
theorem dX2_becomeCold_25 : decode cX2_becomeCold 25 = .ok (.invokestatic 37, 3) := by decide +kernel
theorem dX2_becomeCold_28 : decode cX2_becomeCold 28 = .ok (.return_, 1) := by decide +kernel
theorem dX2_copyFrom_0 : decode cX2_copyFrom 0 = .ok (.aload_n 0, 1) := by decide +kernel
theorem dX2_copyFrom_1 : decode cX2_copyFrom 1 = .ok (.aload_n 1, 1) := by decide +kernel
theorem dX2_copyFrom_2 : decode cX2_copyFrom 2 = .ok (.getfield 24, 3) := by decide +kernel
theorem dX2_copyFrom_5 : decode cX2_copyFrom 5 = .ok (.putfield 24, 3) := by decide +kernel
theorem dX2_copyFrom_8 : decode cX2_copyFrom 8 = .ok (.aload_n 0, 1) := by decide +kernel
theorem dX2_copyFrom_9 : decode cX2_copyFrom 9 = .ok (.aload_n 1, 1) := by decide +kernel
theorem dX2_copyFrom_10 : decode cX2_copyFrom 10 = .ok (.getfield 28, 3) := by decide +kernel
theorem dX2_copyFrom_13 : decode cX2_copyFrom 13 = .ok (.putfield 28, 3) := by decide +kernel
theorem dX2_copyFrom_16 : decode cX2_copyFrom 16 = .ok (.aload_n 0, 1) := by decide +kernel
theorem dX2_copyFrom_17 : decode cX2_copyFrom 17 = .ok (.aload_n 1, 1) := by decide +kernel
theorem dX2_copyFrom_18 : decode cX2_copyFrom 18 = .ok (.getfield 31, 3) := by decide +kernel
theorem dX2_copyFrom_21 : decode cX2_copyFrom 21 = .ok (.putfield 31, 3) := by decide +kernel
theorem dX2_copyFrom_24 : decode cX2_copyFrom 24 = .ok (.aload_n 0, 1) := by decide +kernel
theorem dX2_copyFrom_25 : decode cX2_copyFrom 25 = .ok (.aload_n 1, 1) := by decide +kernel
theorem dX2_copyFrom_26 : decode cX2_copyFrom 26 = .ok (.getfield 34, 3) := by decide +kernel
theorem dX2_copyFrom_29 : decode cX2_copyFrom 29 = .ok (.putfield 34, 3) := by decide +kernel
theorem dX2_copyFrom_32 : decode cX2_copyFrom 32 = .ok (.aload_n 1, 1) := by decide +kernel
theorem dX2_copyFrom_33 : decode cX2_copyFrom 33 = .ok (.getfield 9, 3) := by decide +kernel
theorem dX2_copyFrom_36 : decode cX2_copyFrom 36 = .ok (.iconst 0, 1) := by decide +kernel
theorem dX2_copyFrom_37 : decode cX2_copyFrom 37 = .ok (.aload_n 0, 1) := by decide +kernel
theorem dX2_copyFrom_38 : decode cX2_copyFrom 38 = .ok (.getfield 9, 3) := by decide +kernel
theorem dX2_copyFrom_41 : decode cX2_copyFrom 41 = .ok (.iconst 0, 1) := by decide +kernel
theorem dX2_copyFrom_42 : decode cX2_copyFrom 42 = .ok (.bipush 24, 2) := by decide +kernel
theorem dX2_copyFrom_44 : decode cX2_copyFrom 44 = .ok (.invokestatic 43, 3) := by decide +kernel
theorem dX2_copyFrom_47 : decode cX2_copyFrom 47 = .ok (.aload_n 1, 1) := by decide +kernel
theorem dX2_copyFrom_48 : decode cX2_copyFrom 48 = .ok (.getfield 15, 3) := by decide +kernel
theorem dX2_copyFrom_51 : decode cX2_copyFrom 51 = .ok (.iconst 0, 1) := by decide +kernel
theorem dX2_copyFrom_52 : decode cX2_copyFrom 52 = .ok (.aload_n 0, 1) := by decide +kernel
theorem dX2_copyFrom_53 : decode cX2_copyFrom 53 = .ok (.getfield 15, 3) := by decide +kernel
theorem dX2_copyFrom_56 : decode cX2_copyFrom 56 = .ok (.iconst 0, 1) := by decide +kernel
theorem dX2_copyFrom_57 : decode cX2_copyFrom 57 = .ok (.bipush 6, 2) := by decide +kernel
theorem dX2_copyFrom_59 : decode cX2_copyFrom 59 = .ok (.invokestatic 43, 3) := by decide +kernel
theorem dX2_copyFrom_62 : decode cX2_copyFrom 62 = .ok (.aload_n 1, 1) := by decide +kernel
theorem dX2_copyFrom_63 : decode cX2_copyFrom 63 = .ok (.getfield 18, 3) := by decide +kernel
theorem dX2_copyFrom_66 : decode cX2_copyFrom 66 = .ok (.iconst 0, 1) := by decide +kernel
theorem dX2_copyFrom_67 : decode cX2_copyFrom 67 = .ok (.aload_n 0, 1) := by decide +kernel
theorem dX2_copyFrom_68 : decode cX2_copyFrom 68 = .ok (.getfield 18, 3) := by decide +kernel
theorem dX2_copyFrom_71 : decode cX2_copyFrom 71 = .ok (.iconst 0, 1) := by decide +kernel
theorem dX2_copyFrom_72 : decode cX2_copyFrom 72 = .ok (.bipush 6, 2) := by decide +kernel
theorem dX2_copyFrom_74 : decode cX2_copyFrom 74 = .ok (.invokestatic 43, 3) := by decide +kernel
theorem dX2_copyFrom_77 : decode cX2_copyFrom 77 = .ok (.aload_n 1, 1) := by decide +kernel
theorem dX2_copyFrom_78 : decode cX2_copyFrom 78 = .ok (.getfield 21, 3) := by decide +kernel
theorem dX2_copyFrom_81 : decode cX2_copyFrom 81 = .ok (.iconst 0, 1) := by decide +kernel
theorem dX2_copyFrom_82 : decode cX2_copyFrom 82 = .ok (.aload_n 0, 1) := by decide +kernel
theorem dX2_copyFrom_83 : decode cX2_copyFrom 83 = .ok (.getfield 21, 3) := by decide +kernel
theorem dX2_copyFrom_86 : decode cX2_copyFrom 86 = .ok (.iconst 0, 1) := by decide +kernel
theorem dX2_copyFrom_87 : decode cX2_copyFrom 87 = .ok (.bipush 6, 2) := by decide +kernel
theorem dX2_copyFrom_89 : decode cX2_copyFrom 89 = .ok (.invokestatic 43, 3) := by decide +kernel
theorem dX2_copyFrom_92 : decode cX2_copyFrom 92 = .ok (.return_, 1) := by decide +kernel
theorem dX2_placeCount_0 : decode cX2_placeCount 0 = .ok (.iconst 3, 1) := by decide +kernel
theorem dX2_placeCount_1 : decode cX2_placeCount 1 = .ok (.aload_n 0, 1) := by decide +kernel
theorem dX2_placeCount_2 : decode cX2_placeCount 2 = .ok (.getfield 24, 3) := by decide +kernel
theorem dX2_placeCount_5 : decode cX2_placeCount 5 = .ok (.imul, 1) := by decide +kernel
theorem dX2_placeCount_6 : decode cX2_placeCount 6 = .ok (.ireturn, 1) := by decide +kernel
theorem dX2_hasCell_0 : decode cX2_hasCell 0 = .ok (.iload_n 1, 1) := by decide +kernel
theorem dX2_hasCell_1 : decode cX2_hasCell 1 = .ok (.ifCond .lt 15, 3) := by decide +kernel
theorem dX2_hasCell_4 : decode cX2_hasCell 4 = .ok (.iload_n 1, 1) := by decide +kernel
theorem dX2_hasCell_5 : decode cX2_hasCell 5 = .ok (.aload_n 0, 1) := by decide +kernel
theorem dX2_hasCell_6 : decode cX2_hasCell 6 = .ok (.getfield 24, 3) := by decide +kernel
theorem dX2_hasCell_9 : decode cX2_hasCell 9 = .ok (.if_icmp .ge 7, 3) := by decide +kernel
theorem dX2_hasCell_12 : decode cX2_hasCell 12 = .ok (.iconst 1, 1) := by decide +kernel
theorem dX2_hasCell_13 : decode cX2_hasCell 13 = .ok (.goto 4, 3) := by decide +kernel
theorem dX2_hasCell_16 : decode cX2_hasCell 16 = .ok (.iconst 0, 1) := by decide +kernel
theorem dX2_hasCell_17 : decode cX2_hasCell 17 = .ok (.ireturn, 1) := by decide +kernel
theorem dX2_hasPlace_0 : decode cX2_hasPlace 0 = .ok (.iload_n 1, 1) := by decide +kernel
theorem dX2_hasPlace_1 : decode cX2_hasPlace 1 = .ok (.ifCond .lt 15, 3) := by decide +kernel
theorem dX2_hasPlace_4 : decode cX2_hasPlace 4 = .ok (.iload_n 1, 1) := by decide +kernel
theorem dX2_hasPlace_5 : decode cX2_hasPlace 5 = .ok (.aload_n 0, 1) := by decide +kernel
theorem dX2_hasPlace_6 : decode cX2_hasPlace 6 = .ok (.invokevirtual 49, 3) := by decide +kernel
theorem dX2_hasPlace_9 : decode cX2_hasPlace 9 = .ok (.if_icmp .ge 7, 3) := by decide +kernel
theorem dX2_hasPlace_12 : decode cX2_hasPlace 12 = .ok (.iconst 1, 1) := by decide +kernel
theorem dX2_hasPlace_13 : decode cX2_hasPlace 13 = .ok (.goto 4, 3) := by decide +kernel
theorem dX2_hasPlace_16 : decode cX2_hasPlace 16 = .ok (.iconst 0, 1) := by decide +kernel
theorem dX2_hasPlace_17 : decode cX2_hasPlace 17 = .ok (.ireturn, 1) := by decide +kernel
theorem dX2_heatAt_0 : decode cX2_heatAt 0 = .ok (.aload_n 0, 1) := by decide +kernel
theorem dX2_heatAt_1 : decode cX2_heatAt 1 = .ok (.iload_n 1, 1) := by decide +kernel
theorem dX2_heatAt_2 : decode cX2_heatAt 2 = .ok (.invokevirtual 53, 3) := by decide +kernel
theorem dX2_heatAt_5 : decode cX2_heatAt 5 = .ok (.ifCond .eq 12, 3) := by decide +kernel
theorem dX2_heatAt_8 : decode cX2_heatAt 8 = .ok (.aload_n 0, 1) := by decide +kernel
theorem dX2_heatAt_9 : decode cX2_heatAt 9 = .ok (.getfield 9, 3) := by decide +kernel
theorem dX2_heatAt_12 : decode cX2_heatAt 12 = .ok (.iload_n 1, 1) := by decide +kernel
theorem dX2_heatAt_13 : decode cX2_heatAt 13 = .ok (.iaload, 1) := by decide +kernel
theorem dX2_heatAt_14 : decode cX2_heatAt 14 = .ok (.goto 4, 3) := by decide +kernel
theorem dX2_heatAt_17 : decode cX2_heatAt 17 = .ok (.iconst 0, 1) := by decide +kernel
theorem dX2_heatAt_18 : decode cX2_heatAt 18 = .ok (.ireturn, 1) := by decide +kernel
theorem dX2_isRimPlace_0 : decode cX2_isRimPlace 0 = .ok (.iload_n 1, 1) := by decide +kernel
theorem dX2_isRimPlace_1 : decode cX2_isRimPlace 1 = .ok (.iconst 3, 1) := by decide +kernel
theorem dX2_isRimPlace_2 : decode cX2_isRimPlace 2 = .ok (.idiv, 1) := by decide +kernel
theorem dX2_isRimPlace_3 : decode cX2_isRimPlace 3 = .ok (.ifCond .eq 15, 3) := by decide +kernel
theorem dX2_isRimPlace_6 : decode cX2_isRimPlace 6 = .ok (.iload_n 1, 1) := by decide +kernel
theorem dX2_isRimPlace_7 : decode cX2_isRimPlace 7 = .ok (.iconst 3, 1) := by decide +kernel
theorem dX2_isRimPlace_8 : decode cX2_isRimPlace 8 = .ok (.idiv, 1) := by decide +kernel
theorem dX2_isRimPlace_9 : decode cX2_isRimPlace 9 = .ok (.aload_n 0, 1) := by decide +kernel
theorem dX2_isRimPlace_10 : decode cX2_isRimPlace 10 = .ok (.getfield 24, 3) := by decide +kernel
theorem dX2_isRimPlace_13 : decode cX2_isRimPlace 13 = .ok (.iconst 1, 1) := by decide +kernel
theorem dX2_isRimPlace_14 : decode cX2_isRimPlace 14 = .ok (.isub, 1) := by decide +kernel
theorem dX2_isRimPlace_15 : decode cX2_isRimPlace 15 = .ok (.if_icmp .ne 7, 3) := by decide +kernel
theorem dX2_isRimPlace_18 : decode cX2_isRimPlace 18 = .ok (.iconst 1, 1) := by decide +kernel
theorem dX2_isRimPlace_19 : decode cX2_isRimPlace 19 = .ok (.goto 4, 3) := by decide +kernel
theorem dX2_isRimPlace_22 : decode cX2_isRimPlace 22 = .ok (.iconst 0, 1) := by decide +kernel
theorem dX2_isRimPlace_23 : decode cX2_isRimPlace 23 = .ok (.ireturn, 1) := by decide +kernel
theorem dX2_lossAt_0 : decode cX2_lossAt 0 = .ok (.aload_n 0, 1) := by decide +kernel
theorem dX2_lossAt_1 : decode cX2_lossAt 1 = .ok (.iload_n 1, 1) := by decide +kernel
theorem dX2_lossAt_2 : decode cX2_lossAt 2 = .ok (.invokevirtual 57, 3) := by decide +kernel
theorem dX2_lossAt_5 : decode cX2_lossAt 5 = .ok (.ifCond .eq 15, 3) := by decide +kernel
theorem dX2_lossAt_8 : decode cX2_lossAt 8 = .ok (.aload_n 0, 1) := by decide +kernel
theorem dX2_lossAt_9 : decode cX2_lossAt 9 = .ok (.getfield 28, 3) := by decide +kernel
theorem dX2_lossAt_12 : decode cX2_lossAt 12 = .ok (.aload_n 0, 1) := by decide +kernel
theorem dX2_lossAt_13 : decode cX2_lossAt 13 = .ok (.getfield 31, 3) := by decide +kernel
theorem dX2_lossAt_16 : decode cX2_lossAt 16 = .ok (.iadd, 1) := by decide +kernel
theorem dX2_lossAt_17 : decode cX2_lossAt 17 = .ok (.goto 7, 3) := by decide +kernel
theorem dX2_lossAt_20 : decode cX2_lossAt 20 = .ok (.aload_n 0, 1) := by decide +kernel
theorem dX2_lossAt_21 : decode cX2_lossAt 21 = .ok (.getfield 28, 3) := by decide +kernel
theorem dX2_lossAt_24 : decode cX2_lossAt 24 = .ok (.ireturn, 1) := by decide +kernel
theorem dX2_layWood_0 : decode cX2_layWood 0 = .ok (.aload_n 0, 1) := by decide +kernel
theorem dX2_layWood_1 : decode cX2_layWood 1 = .ok (.getfield 34, 3) := by decide +kernel
theorem dX2_layWood_4 : decode cX2_layWood 4 = .ok (.bipush 6, 2) := by decide +kernel
theorem dX2_layWood_6 : decode cX2_layWood 6 = .ok (.if_icmp .lt 5, 3) := by decide +kernel
theorem dX2_layWood_9 : decode cX2_layWood 9 = .ok (.iconst 0, 1) := by decide +kernel
theorem dX2_layWood_10 : decode cX2_layWood 10 = .ok (.ireturn, 1) := by decide +kernel
theorem dX2_layWood_11 : decode cX2_layWood 11 = .ok (.aload_n 0, 1) := by decide +kernel
theorem dX2_layWood_12 : decode cX2_layWood 12 = .ok (.getfield 15, 3) := by decide +kernel
theorem dX2_layWood_15 : decode cX2_layWood 15 = .ok (.aload_n 0, 1) := by decide +kernel
theorem dX2_layWood_16 : decode cX2_layWood 16 = .ok (.getfield 34, 3) := by decide +kernel
theorem dX2_layWood_19 : decode cX2_layWood 19 = .ok (.iload_n 1, 1) := by decide +kernel
theorem dX2_layWood_20 : decode cX2_layWood 20 = .ok (.iastore, 1) := by decide +kernel
theorem dX2_layWood_21 : decode cX2_layWood 21 = .ok (.aload_n 0, 1) := by decide +kernel
theorem dX2_layWood_22 : decode cX2_layWood 22 = .ok (.getfield 18, 3) := by decide +kernel
theorem dX2_layWood_25 : decode cX2_layWood 25 = .ok (.aload_n 0, 1) := by decide +kernel
theorem dX2_layWood_26 : decode cX2_layWood 26 = .ok (.getfield 34, 3) := by decide +kernel
theorem dX2_layWood_29 : decode cX2_layWood 29 = .ok (.iload_n 2, 1) := by decide +kernel
theorem dX2_layWood_30 : decode cX2_layWood 30 = .ok (.iastore, 1) := by decide +kernel
theorem dX2_layWood_31 : decode cX2_layWood 31 = .ok (.aload_n 0, 1) := by decide +kernel
theorem dX2_layWood_32 : decode cX2_layWood 32 = .ok (.getfield 21, 3) := by decide +kernel
theorem dX2_layWood_35 : decode cX2_layWood 35 = .ok (.aload_n 0, 1) := by decide +kernel
theorem dX2_layWood_36 : decode cX2_layWood 36 = .ok (.getfield 34, 3) := by decide +kernel
theorem dX2_layWood_39 : decode cX2_layWood 39 = .ok (.iload_n 3, 1) := by decide +kernel
theorem dX2_layWood_40 : decode cX2_layWood 40 = .ok (.iastore, 1) := by decide +kernel
theorem dX2_layWood_41 : decode cX2_layWood 41 = .ok (.aload_n 0, 1) := by decide +kernel
theorem dX2_layWood_42 : decode cX2_layWood 42 = .ok (.dup, 1) := by decide +kernel
theorem dX2_layWood_43 : decode cX2_layWood 43 = .ok (.getfield 34, 3) := by decide +kernel
theorem dX2_layWood_46 : decode cX2_layWood 46 = .ok (.iconst 1, 1) := by decide +kernel
theorem dX2_layWood_47 : decode cX2_layWood 47 = .ok (.iadd, 1) := by decide +kernel
theorem dX2_layWood_48 : decode cX2_layWood 48 = .ok (.putfield 34, 3) := by decide +kernel
theorem dX2_layWood_51 : decode cX2_layWood 51 = .ok (.iconst 1, 1) := by decide +kernel
theorem dX2_layWood_52 : decode cX2_layWood 52 = .ok (.ireturn, 1) := by decide +kernel
theorem dX2_burnWood_0 : decode cX2_burnWood 0 = .ok (.iconst 0, 1) := by decide +kernel
theorem dX2_burnWood_1 : decode cX2_burnWood 1 = .ok (.istore_n 1, 1) := by decide +kernel
theorem dX2_burnWood_2 : decode cX2_burnWood 2 = .ok (.iconst 0, 1) := by decide +kernel
theorem dX2_burnWood_3 : decode cX2_burnWood 3 = .ok (.istore_n 2, 1) := by decide +kernel
theorem dX2_burnWood_4 : decode cX2_burnWood 4 = .ok (.iload_n 2, 1) := by decide +kernel
theorem dX2_burnWood_5 : decode cX2_burnWood 5 = .ok (.aload_n 0, 1) := by decide +kernel
theorem dX2_burnWood_6 : decode cX2_burnWood 6 = .ok (.getfield 34, 3) := by decide +kernel
theorem dX2_burnWood_9 : decode cX2_burnWood 9 = .ok (.if_icmp .ge 79, 3) := by decide +kernel
theorem dX2_burnWood_12 : decode cX2_burnWood 12 = .ok (.aload_n 0, 1) := by decide +kernel
theorem dX2_burnWood_13 : decode cX2_burnWood 13 = .ok (.getfield 21, 3) := by decide +kernel
theorem dX2_burnWood_16 : decode cX2_burnWood 16 = .ok (.iload_n 2, 1) := by decide +kernel
theorem dX2_burnWood_17 : decode cX2_burnWood 17 = .ok (.iaload, 1) := by decide +kernel
theorem dX2_burnWood_18 : decode cX2_burnWood 18 = .ok (.iconst 1, 1) := by decide +kernel
theorem dX2_burnWood_19 : decode cX2_burnWood 19 = .ok (.if_icmp .gt 22, 3) := by decide +kernel
theorem dX2_burnWood_22 : decode cX2_burnWood 22 = .ok (.aload_n 0, 1) := by decide +kernel
theorem dX2_burnWood_23 : decode cX2_burnWood 23 = .ok (.aload_n 0, 1) := by decide +kernel
theorem dX2_burnWood_24 : decode cX2_burnWood 24 = .ok (.getfield 15, 3) := by decide +kernel
theorem dX2_burnWood_27 : decode cX2_burnWood 27 = .ok (.iload_n 2, 1) := by decide +kernel
theorem dX2_burnWood_28 : decode cX2_burnWood 28 = .ok (.iaload, 1) := by decide +kernel
theorem dX2_burnWood_29 : decode cX2_burnWood 29 = .ok (.aload_n 0, 1) := by decide +kernel
theorem dX2_burnWood_30 : decode cX2_burnWood 30 = .ok (.getfield 18, 3) := by decide +kernel
theorem dX2_burnWood_33 : decode cX2_burnWood 33 = .ok (.iload_n 2, 1) := by decide +kernel
theorem dX2_burnWood_34 : decode cX2_burnWood 34 = .ok (.iaload, 1) := by decide +kernel
theorem dX2_burnWood_35 : decode cX2_burnWood 35 = .ok (.invokevirtual 60, 3) := by decide +kernel
theorem dX2_burnWood_38 : decode cX2_burnWood 38 = .ok (.goto 44, 3) := by decide +kernel
theorem dX2_burnWood_41 : decode cX2_burnWood 41 = .ok (.aload_n 0, 1) := by decide +kernel
theorem dX2_burnWood_42 : decode cX2_burnWood 42 = .ok (.getfield 15, 3) := by decide +kernel
theorem dX2_burnWood_45 : decode cX2_burnWood 45 = .ok (.iload_n 1, 1) := by decide +kernel
theorem dX2_burnWood_46 : decode cX2_burnWood 46 = .ok (.aload_n 0, 1) := by decide +kernel
theorem dX2_burnWood_47 : decode cX2_burnWood 47 = .ok (.getfield 15, 3) := by decide +kernel
theorem dX2_burnWood_50 : decode cX2_burnWood 50 = .ok (.iload_n 2, 1) := by decide +kernel
theorem dX2_burnWood_51 : decode cX2_burnWood 51 = .ok (.iaload, 1) := by decide +kernel
theorem dX2_burnWood_52 : decode cX2_burnWood 52 = .ok (.iastore, 1) := by decide +kernel
theorem dX2_burnWood_53 : decode cX2_burnWood 53 = .ok (.aload_n 0, 1) := by decide +kernel
theorem dX2_burnWood_54 : decode cX2_burnWood 54 = .ok (.getfield 18, 3) := by decide +kernel
theorem dX2_burnWood_57 : decode cX2_burnWood 57 = .ok (.iload_n 1, 1) := by decide +kernel
theorem dX2_burnWood_58 : decode cX2_burnWood 58 = .ok (.aload_n 0, 1) := by decide +kernel
theorem dX2_burnWood_59 : decode cX2_burnWood 59 = .ok (.getfield 18, 3) := by decide +kernel
theorem dX2_burnWood_62 : decode cX2_burnWood 62 = .ok (.iload_n 2, 1) := by decide +kernel
theorem dX2_burnWood_63 : decode cX2_burnWood 63 = .ok (.iaload, 1) := by decide +kernel
theorem dX2_burnWood_64 : decode cX2_burnWood 64 = .ok (.iastore, 1) := by decide +kernel
theorem dX2_burnWood_65 : decode cX2_burnWood 65 = .ok (.aload_n 0, 1) := by decide +kernel
theorem dX2_burnWood_66 : decode cX2_burnWood 66 = .ok (.getfield 21, 3) := by decide +kernel
theorem dX2_burnWood_69 : decode cX2_burnWood 69 = .ok (.iload_n 1, 1) := by decide +kernel
theorem dX2_burnWood_70 : decode cX2_burnWood 70 = .ok (.aload_n 0, 1) := by decide +kernel
theorem dX2_burnWood_71 : decode cX2_burnWood 71 = .ok (.getfield 21, 3) := by decide +kernel
theorem dX2_burnWood_74 : decode cX2_burnWood 74 = .ok (.iload_n 2, 1) := by decide +kernel
theorem dX2_burnWood_75 : decode cX2_burnWood 75 = .ok (.iaload, 1) := by decide +kernel
theorem dX2_burnWood_76 : decode cX2_burnWood 76 = .ok (.iconst 1, 1) := by decide +kernel
theorem dX2_burnWood_77 : decode cX2_burnWood 77 = .ok (.isub, 1) := by decide +kernel
theorem dX2_burnWood_78 : decode cX2_burnWood 78 = .ok (.iastore, 1) := by decide +kernel
theorem dX2_burnWood_79 : decode cX2_burnWood 79 = .ok (.iinc 1 1, 3) := by decide +kernel
theorem dX2_burnWood_82 : decode cX2_burnWood 82 = .ok (.iinc 2 1, 3) := by decide +kernel
theorem dX2_burnWood_85 : decode cX2_burnWood 85 = .ok (.goto (-81), 3) := by decide +kernel
theorem dX2_burnWood_88 : decode cX2_burnWood 88 = .ok (.aload_n 0, 1) := by decide +kernel
theorem dX2_burnWood_89 : decode cX2_burnWood 89 = .ok (.iload_n 1, 1) := by decide +kernel
theorem dX2_burnWood_90 : decode cX2_burnWood 90 = .ok (.putfield 34, 3) := by decide +kernel
theorem dX2_burnWood_93 : decode cX2_burnWood 93 = .ok (.return_, 1) := by decide +kernel
theorem dX2_becomeEmber_0 : decode cX2_becomeEmber 0 = .ok (.iconst 0, 1) := by decide +kernel
theorem dX2_becomeEmber_1 : decode cX2_becomeEmber 1 = .ok (.istore_n 3, 1) := by decide +kernel
theorem dX2_becomeEmber_2 : decode cX2_becomeEmber 2 = .ok (.iload_n 3, 1) := by decide +kernel
theorem dX2_becomeEmber_3 : decode cX2_becomeEmber 3 = .ok (.iconst 3, 1) := by decide +kernel
theorem dX2_becomeEmber_4 : decode cX2_becomeEmber 4 = .ok (.if_icmp .ge 50, 3) := by decide +kernel
theorem dX2_becomeEmber_7 : decode cX2_becomeEmber 7 = .ok (.iconst 3, 1) := by decide +kernel
theorem dX2_becomeEmber_8 : decode cX2_becomeEmber 8 = .ok (.iload_n 1, 1) := by decide +kernel
theorem dX2_becomeEmber_9 : decode cX2_becomeEmber 9 = .ok (.imul, 1) := by decide +kernel
theorem dX2_becomeEmber_10 : decode cX2_becomeEmber 10 = .ok (.iload_n 3, 1) := by decide +kernel
theorem dX2_becomeEmber_11 : decode cX2_becomeEmber 11 = .ok (.iadd, 1) := by decide +kernel
theorem dX2_becomeEmber_12 : decode cX2_becomeEmber 12 = .ok (.istore 4, 2) := by decide +kernel
theorem dX2_becomeEmber_14 : decode cX2_becomeEmber 14 = .ok (.aload_n 0, 1) := by decide +kernel
theorem dX2_becomeEmber_15 : decode cX2_becomeEmber 15 = .ok (.iload 4, 2) := by decide +kernel
theorem dX2_becomeEmber_17 : decode cX2_becomeEmber 17 = .ok (.invokevirtual 53, 3) := by decide +kernel
theorem dX2_becomeEmber_20 : decode cX2_becomeEmber 20 = .ok (.ifCond .eq 28, 3) := by decide +kernel
theorem dX2_becomeEmber_23 : decode cX2_becomeEmber 23 = .ok (.aload_n 0, 1) := by decide +kernel
theorem dX2_becomeEmber_24 : decode cX2_becomeEmber 24 = .ok (.getfield 9, 3) := by decide +kernel
theorem dX2_becomeEmber_27 : decode cX2_becomeEmber 27 = .ok (.iload 4, 2) := by decide +kernel
theorem dX2_becomeEmber_29 : decode cX2_becomeEmber 29 = .ok (.bipush 99, 2) := by decide +kernel
theorem dX2_becomeEmber_31 : decode cX2_becomeEmber 31 = .ok (.aload_n 0, 1) := by decide +kernel
theorem dX2_becomeEmber_32 : decode cX2_becomeEmber 32 = .ok (.getfield 9, 3) := by decide +kernel
theorem dX2_becomeEmber_35 : decode cX2_becomeEmber 35 = .ok (.iload 4, 2) := by decide +kernel
theorem dX2_becomeEmber_37 : decode cX2_becomeEmber 37 = .ok (.iaload, 1) := by decide +kernel
theorem dX2_becomeEmber_38 : decode cX2_becomeEmber 38 = .ok (.iload_n 2, 1) := by decide +kernel
theorem dX2_becomeEmber_39 : decode cX2_becomeEmber 39 = .ok (.iload_n 3, 1) := by decide +kernel
theorem dX2_becomeEmber_40 : decode cX2_becomeEmber 40 = .ok (.invokestatic 64, 3) := by decide +kernel
theorem dX2_becomeEmber_43 : decode cX2_becomeEmber 43 = .ok (.iadd, 1) := by decide +kernel
theorem dX2_becomeEmber_44 : decode cX2_becomeEmber 44 = .ok (.invokestatic 68, 3) := by decide +kernel
theorem dX2_becomeEmber_47 : decode cX2_becomeEmber 47 = .ok (.iastore, 1) := by decide +kernel
theorem dX2_becomeEmber_48 : decode cX2_becomeEmber 48 = .ok (.iinc 3 1, 3) := by decide +kernel
theorem dX2_becomeEmber_51 : decode cX2_becomeEmber 51 = .ok (.goto (-49), 3) := by decide +kernel
theorem dX2_becomeEmber_54 : decode cX2_becomeEmber 54 = .ok (.return_, 1) := by decide +kernel
theorem dX2_coolDown_0 : decode cX2_coolDown 0 = .ok (.iconst 0, 1) := by decide +kernel
theorem dX2_coolDown_1 : decode cX2_coolDown 1 = .ok (.istore_n 1, 1) := by decide +kernel
theorem dX2_coolDown_2 : decode cX2_coolDown 2 = .ok (.iload_n 1, 1) := by decide +kernel
theorem dX2_coolDown_3 : decode cX2_coolDown 3 = .ok (.aload_n 0, 1) := by decide +kernel
theorem dX2_coolDown_4 : decode cX2_coolDown 4 = .ok (.invokevirtual 49, 3) := by decide +kernel
theorem dX2_coolDown_7 : decode cX2_coolDown 7 = .ok (.if_icmp .ge 31, 3) := by decide +kernel
theorem dX2_coolDown_10 : decode cX2_coolDown 10 = .ok (.aload_n 0, 1) := by decide +kernel
theorem dX2_coolDown_11 : decode cX2_coolDown 11 = .ok (.getfield 9, 3) := by decide +kernel
theorem dX2_coolDown_14 : decode cX2_coolDown 14 = .ok (.iload_n 1, 1) := by decide +kernel
theorem dX2_coolDown_15 : decode cX2_coolDown 15 = .ok (.iconst 0, 1) := by decide +kernel
theorem dX2_coolDown_16 : decode cX2_coolDown 16 = .ok (.aload_n 0, 1) := by decide +kernel
theorem dX2_coolDown_17 : decode cX2_coolDown 17 = .ok (.getfield 9, 3) := by decide +kernel
theorem dX2_coolDown_20 : decode cX2_coolDown 20 = .ok (.iload_n 1, 1) := by decide +kernel
theorem dX2_coolDown_21 : decode cX2_coolDown 21 = .ok (.iaload, 1) := by decide +kernel
theorem dX2_coolDown_22 : decode cX2_coolDown 22 = .ok (.aload_n 0, 1) := by decide +kernel
theorem dX2_coolDown_23 : decode cX2_coolDown 23 = .ok (.iload_n 1, 1) := by decide +kernel
theorem dX2_coolDown_24 : decode cX2_coolDown 24 = .ok (.invokevirtual 73, 3) := by decide +kernel
theorem dX2_coolDown_27 : decode cX2_coolDown 27 = .ok (.isub, 1) := by decide +kernel
theorem dX2_coolDown_28 : decode cX2_coolDown 28 = .ok (.invokestatic 77, 3) := by decide +kernel
theorem dX2_coolDown_31 : decode cX2_coolDown 31 = .ok (.iastore, 1) := by decide +kernel
theorem dX2_coolDown_32 : decode cX2_coolDown 32 = .ok (.iinc 1 1, 3) := by decide +kernel
theorem dX2_coolDown_35 : decode cX2_coolDown 35 = .ok (.goto (-33), 3) := by decide +kernel
theorem dX2_coolDown_38 : decode cX2_coolDown 38 = .ok (.return_, 1) := by decide +kernel
theorem dX2_allHeat_0 : decode cX2_allHeat 0 = .ok (.iconst 0, 1) := by decide +kernel
theorem dX2_allHeat_1 : decode cX2_allHeat 1 = .ok (.istore_n 1, 1) := by decide +kernel
theorem dX2_allHeat_2 : decode cX2_allHeat 2 = .ok (.iconst 0, 1) := by decide +kernel
theorem dX2_allHeat_3 : decode cX2_allHeat 3 = .ok (.istore_n 2, 1) := by decide +kernel
theorem dX2_allHeat_4 : decode cX2_allHeat 4 = .ok (.iload_n 2, 1) := by decide +kernel
theorem dX2_allHeat_5 : decode cX2_allHeat 5 = .ok (.aload_n 0, 1) := by decide +kernel
theorem dX2_allHeat_6 : decode cX2_allHeat 6 = .ok (.invokevirtual 49, 3) := by decide +kernel
theorem dX2_allHeat_9 : decode cX2_allHeat 9 = .ok (.if_icmp .ge 18, 3) := by decide +kernel
theorem dX2_allHeat_12 : decode cX2_allHeat 12 = .ok (.iload_n 1, 1) := by decide +kernel
theorem dX2_allHeat_13 : decode cX2_allHeat 13 = .ok (.aload_n 0, 1) := by decide +kernel
theorem dX2_allHeat_14 : decode cX2_allHeat 14 = .ok (.getfield 9, 3) := by decide +kernel
theorem dX2_allHeat_17 : decode cX2_allHeat 17 = .ok (.iload_n 2, 1) := by decide +kernel
theorem dX2_allHeat_18 : decode cX2_allHeat 18 = .ok (.iaload, 1) := by decide +kernel
theorem dX2_allHeat_19 : decode cX2_allHeat 19 = .ok (.iadd, 1) := by decide +kernel
theorem dX2_allHeat_20 : decode cX2_allHeat 20 = .ok (.istore_n 1, 1) := by decide +kernel
theorem dX2_allHeat_21 : decode cX2_allHeat 21 = .ok (.iinc 2 1, 3) := by decide +kernel
theorem dX2_allHeat_24 : decode cX2_allHeat 24 = .ok (.goto (-20), 3) := by decide +kernel
theorem dX2_allHeat_27 : decode cX2_allHeat 27 = .ok (.iload_n 1, 1) := by decide +kernel
theorem dX2_allHeat_28 : decode cX2_allHeat 28 = .ok (.ireturn, 1) := by decide +kernel
theorem dX2_emberShare_0 : decode cX2_emberShare 0 = .ok (.iload_n 0, 1) := by decide +kernel
theorem dX2_emberShare_1 : decode cX2_emberShare 1 = .ok (.iload_n 1, 1) := by decide +kernel
theorem dX2_emberShare_2 : decode cX2_emberShare 2 = .ok (.ishr, 1) := by decide +kernel
theorem dX2_emberShare_3 : decode cX2_emberShare 3 = .ok (.ireturn, 1) := by decide +kernel
theorem dX3_init_0 : decode cX3_init 0 = .ok (.aload_n 0, 1) := by decide +kernel
theorem dX3_init_1 : decode cX3_init 1 = .ok (.invokespecial 3, 3) := by decide +kernel
theorem dX3_init_4 : decode cX3_init 4 = .ok (.aload_n 0, 1) := by decide +kernel
theorem dX3_init_5 : decode cX3_init 5 = .ok (.bipush 6, 2) := by decide +kernel
theorem dX3_init_7 : decode cX3_init 7 = .ok (.newarray .int, 2) := by decide +kernel
theorem dX3_init_9 : decode cX3_init 9 = .ok (.putfield 9, 3) := by decide +kernel
theorem dX3_init_12 : decode cX3_init 12 = .ok (.aload_n 0, 1) := by decide +kernel
theorem dX3_init_13 : decode cX3_init 13 = .ok (.bipush 6, 2) := by decide +kernel
theorem dX3_init_15 : decode cX3_init 15 = .ok (.newarray .boolean, 2) := by decide +kernel
theorem dX3_init_17 : decode cX3_init 17 = .ok (.putfield 15, 3) := by decide +kernel
theorem dX3_init_20 : decode cX3_init 20 = .ok (.aload_n 0, 1) := by decide +kernel
theorem dX3_init_21 : decode cX3_init 21 = .ok (.bipush 6, 2) := by decide +kernel
theorem dX3_init_23 : decode cX3_init 23 = .ok (.newarray .int, 2) := by decide +kernel
theorem dX3_init_25 : decode cX3_init 25 = .ok (.putfield 19, 3) := by decide +kernel
theorem dX3_init_28 : decode cX3_init 28 = .ok (.aload_n 0, 1) := by decide +kernel
theorem dX3_init_29 : decode cX3_init 29 = .ok (.bipush 64, 2) := by decide +kernel
theorem dX3_init_31 : decode cX3_init 31 = .ok (.newarray .int, 2) := by decide +kernel
theorem dX3_init_33 : decode cX3_init 33 = .ok (.putfield 22, 3) := by decide +kernel
theorem dX3_init_36 : decode cX3_init 36 = .ok (.return_, 1) := by decide +kernel
theorem dX3_survey_0 : decode cX3_survey 0 = .ok (.aload_n 0, 1) := by decide +kernel
theorem dX3_survey_1 : decode cX3_survey 1 = .ok (.aload_n 1, 1) := by decide +kernel
theorem dX3_survey_2 : decode cX3_survey 2 = .ok (.getfield 25, 3) := by decide +kernel
theorem dX3_survey_5 : decode cX3_survey 5 = .ok (.putfield 31, 3) := by decide +kernel
theorem dX3_survey_8 : decode cX3_survey 8 = .ok (.iconst 0, 1) := by decide +kernel
theorem dX3_survey_9 : decode cX3_survey 9 = .ok (.istore 4, 2) := by decide +kernel
theorem dX3_survey_11 : decode cX3_survey 11 = .ok (.iload 4, 2) := by decide +kernel
theorem dX3_survey_13 : decode cX3_survey 13 = .ok (.aload_n 0, 1) := by decide +kernel
theorem dX3_survey_14 : decode cX3_survey 14 = .ok (.getfield 31, 3) := by decide +kernel
theorem dX3_survey_17 : decode cX3_survey 17 = .ok (.if_icmp .ge 34, 3) := by decide +kernel
theorem dX3_survey_20 : decode cX3_survey 20 = .ok (.aload_n 0, 1) := by decide +kernel
theorem dX3_survey_21 : decode cX3_survey 21 = .ok (.getfield 9, 3) := by decide +kernel
theorem dX3_survey_24 : decode cX3_survey 24 = .ok (.iload 4, 2) := by decide +kernel
theorem dX3_survey_26 : decode cX3_survey 26 = .ok (.iconst 0, 1) := by decide +kernel
theorem dX3_survey_27 : decode cX3_survey 27 = .ok (.iastore, 1) := by decide +kernel
theorem dX3_survey_28 : decode cX3_survey 28 = .ok (.aload_n 0, 1) := by decide +kernel
theorem dX3_survey_29 : decode cX3_survey 29 = .ok (.getfield 15, 3) := by decide +kernel
theorem dX3_survey_32 : decode cX3_survey 32 = .ok (.iload 4, 2) := by decide +kernel
theorem dX3_survey_34 : decode cX3_survey 34 = .ok (.aload_n 1, 1) := by decide +kernel
theorem dX3_survey_35 : decode cX3_survey 35 = .ok (.getfield 32, 3) := by decide +kernel
theorem dX3_survey_38 : decode cX3_survey 38 = .ok (.iload 4, 2) := by decide +kernel
theorem dX3_survey_40 : decode cX3_survey 40 = .ok (.aaload, 1) := by decide +kernel
theorem dX3_survey_41 : decode cX3_survey 41 = .ok (.invokevirtual 36, 3) := by decide +kernel
theorem dX3_survey_44 : decode cX3_survey 44 = .ok (.bastore, 1) := by decide +kernel
theorem dX3_survey_45 : decode cX3_survey 45 = .ok (.iinc 4 1, 3) := by decide +kernel
theorem dX3_survey_48 : decode cX3_survey 48 = .ok (.goto (-37), 3) := by decide +kernel
theorem dX3_survey_51 : decode cX3_survey 51 = .ok (.iconst 0, 1) := by decide +kernel
theorem dX3_survey_52 : decode cX3_survey 52 = .ok (.istore 4, 2) := by decide +kernel
theorem dX3_survey_54 : decode cX3_survey 54 = .ok (.iload 4, 2) := by decide +kernel
theorem dX3_survey_56 : decode cX3_survey 56 = .ok (.aload_n 1, 1) := by decide +kernel
theorem dX3_survey_57 : decode cX3_survey 57 = .ok (.getfield 42, 3) := by decide +kernel
theorem dX3_survey_60 : decode cX3_survey 60 = .ok (.invokevirtual 46, 3) := by decide +kernel
theorem dX3_survey_63 : decode cX3_survey 63 = .ok (.if_icmp .ge 59, 3) := by decide +kernel
theorem dX3_survey_66 : decode cX3_survey 66 = .ok (.aload_n 2, 1) := by decide +kernel
theorem dX3_survey_67 : decode cX3_survey 67 = .ok (.aload_n 1, 1) := by decide +kernel
theorem dX3_survey_68 : decode cX3_survey 68 = .ok (.getfield 42, 3) := by decide +kernel
theorem dX3_survey_71 : decode cX3_survey 71 = .ok (.iload 4, 2) := by decide +kernel
theorem dX3_survey_73 : decode cX3_survey 73 = .ok (.iload_n 3, 1) := by decide +kernel
theorem dX3_survey_74 : decode cX3_survey 74 = .ok (.invokevirtual 52, 3) := by decide +kernel
theorem dX3_survey_77 : decode cX3_survey 77 = .ok (.iconst 0, 1) := by decide +kernel
theorem dX3_survey_78 : decode cX3_survey 78 = .ok (.istore 5, 2) := by decide +kernel
theorem dX3_survey_80 : decode cX3_survey 80 = .ok (.iload 5, 2) := by decide +kernel
theorem dX3_survey_82 : decode cX3_survey 82 = .ok (.iconst 2, 1) := by decide +kernel
theorem dX3_survey_83 : decode cX3_survey 83 = .ok (.if_icmp .gt 33, 3) := by decide +kernel
theorem dX3_survey_86 : decode cX3_survey 86 = .ok (.aload_n 0, 1) := by decide +kernel
theorem dX3_survey_87 : decode cX3_survey 87 = .ok (.aload_n 1, 1) := by decide +kernel
theorem dX3_survey_88 : decode cX3_survey 88 = .ok (.iload 4, 2) := by decide +kernel
theorem dX3_survey_90 : decode cX3_survey 90 = .ok (.iload 5, 2) := by decide +kernel
theorem dX3_survey_92 : decode cX3_survey 92 = .ok (.aload_n 2, 1) := by decide +kernel
theorem dX3_survey_93 : decode cX3_survey 93 = .ok (.iload 5, 2) := by decide +kernel
theorem dX3_survey_95 : decode cX3_survey 95 = .ok (.iload_n 3, 1) := by decide +kernel
theorem dX3_survey_96 : decode cX3_survey 96 = .ok (.invokevirtual 58, 3) := by decide +kernel
theorem dX3_survey_99 : decode cX3_survey 99 = .ok (.aload_n 2, 1) := by decide +kernel
theorem dX3_survey_100 : decode cX3_survey 100 = .ok (.iload 5, 2) := by decide +kernel
theorem dX3_survey_102 : decode cX3_survey 102 = .ok (.iconst 0, 1) := by decide +kernel
theorem dX3_survey_103 : decode cX3_survey 103 = .ok (.iload_n 3, 1) := by decide +kernel
theorem dX3_survey_104 : decode cX3_survey 104 = .ok (.invokevirtual 62, 3) := by decide +kernel
theorem dX3_survey_107 : decode cX3_survey 107 = .ok (.invokevirtual 66, 3) := by decide +kernel
theorem dX3_survey_110 : decode cX3_survey 110 = .ok (.iinc 5 1, 3) := by decide +kernel
theorem dX3_survey_113 : decode cX3_survey 113 = .ok (.goto (-33), 3) := by decide +kernel
theorem dX3_survey_116 : decode cX3_survey 116 = .ok (.iinc 4 1, 3) := by decide +kernel
theorem dX3_survey_119 : decode cX3_survey 119 = .ok (.goto (-65), 3) := by decide +kernel
theorem dX3_survey_122 : decode cX3_survey 122 = .ok (.aload_n 0, 1) := by decide +kernel
theorem dX3_survey_123 : decode cX3_survey 123 = .ok (.invokevirtual 70, 3) := by decide +kernel
theorem dX3_survey_126 : decode cX3_survey 126 = .ok (.return_, 1) := by decide +kernel
theorem dX3_surveyWrap_0 : decode cX3_surveyWrap 0 = .ok (.iconst 0, 1) := by decide +kernel
theorem dX3_surveyWrap_1 : decode cX3_surveyWrap 1 = .ok (.istore 6, 2) := by decide +kernel
theorem dX3_surveyWrap_3 : decode cX3_surveyWrap 3 = .ok (.iload 6, 2) := by decide +kernel
theorem dX3_surveyWrap_5 : decode cX3_surveyWrap 5 = .ok (.aload_n 0, 1) := by decide +kernel
theorem dX3_surveyWrap_6 : decode cX3_surveyWrap 6 = .ok (.getfield 31, 3) := by decide +kernel
theorem dX3_surveyWrap_9 : decode cX3_surveyWrap 9 = .ok (.if_icmp .ge 53, 3) := by decide +kernel
theorem dX3_surveyWrap_12 : decode cX3_surveyWrap 12 = .ok (.aload_n 1, 1) := by decide +kernel
theorem dX3_surveyWrap_13 : decode cX3_surveyWrap 13 = .ok (.getfield 32, 3) := by decide +kernel
theorem dX3_surveyWrap_16 : decode cX3_surveyWrap 16 = .ok (.iload 6, 2) := by decide +kernel
theorem dX3_surveyWrap_18 : decode cX3_surveyWrap 18 = .ok (.aaload, 1) := by decide +kernel
theorem dX3_surveyWrap_19 : decode cX3_surveyWrap 19 = .ok (.astore 7, 2) := by decide +kernel
theorem dX3_surveyWrap_21 : decode cX3_surveyWrap 21 = .ok (.aload 7, 2) := by decide +kernel
theorem dX3_surveyWrap_23 : decode cX3_surveyWrap 23 = .ok (.getfield 73, 3) := by decide +kernel
theorem dX3_surveyWrap_26 : decode cX3_surveyWrap 26 = .ok (.iload_n 3, 1) := by decide +kernel
theorem dX3_surveyWrap_27 : decode cX3_surveyWrap 27 = .ok (.if_icmp .ne 29, 3) := by decide +kernel
theorem dX3_surveyWrap_30 : decode cX3_surveyWrap 30 = .ok (.aload 7, 2) := by decide +kernel
theorem dX3_surveyWrap_32 : decode cX3_surveyWrap 32 = .ok (.iload 4, 2) := by decide +kernel
theorem dX3_surveyWrap_34 : decode cX3_surveyWrap 34 = .ok (.iload 5, 2) := by decide +kernel
theorem dX3_surveyWrap_36 : decode cX3_surveyWrap 36 = .ok (.iconst 0, 1) := by decide +kernel
theorem dX3_surveyWrap_37 : decode cX3_surveyWrap 37 = .ok (.invokevirtual 76, 3) := by decide +kernel
theorem dX3_surveyWrap_40 : decode cX3_surveyWrap 40 = .ok (.ifCond .eq 16, 3) := by decide +kernel
theorem dX3_surveyWrap_43 : decode cX3_surveyWrap 43 = .ok (.aload_n 0, 1) := by decide +kernel
theorem dX3_surveyWrap_44 : decode cX3_surveyWrap 44 = .ok (.getfield 9, 3) := by decide +kernel
theorem dX3_surveyWrap_47 : decode cX3_surveyWrap 47 = .ok (.iload 6, 2) := by decide +kernel
theorem dX3_surveyWrap_49 : decode cX3_surveyWrap 49 = .ok (.dup2, 1) := by decide +kernel
theorem dX3_surveyWrap_50 : decode cX3_surveyWrap 50 = .ok (.iaload, 1) := by decide +kernel
theorem dX3_surveyWrap_51 : decode cX3_surveyWrap 51 = .ok (.iconst 1, 1) := by decide +kernel
theorem dX3_surveyWrap_52 : decode cX3_surveyWrap 52 = .ok (.iload_n 2, 1) := by decide +kernel
theorem dX3_surveyWrap_53 : decode cX3_surveyWrap 53 = .ok (.ishl, 1) := by decide +kernel
theorem dX3_surveyWrap_54 : decode cX3_surveyWrap 54 = .ok (.ior, 1) := by decide +kernel
theorem dX3_surveyWrap_55 : decode cX3_surveyWrap 55 = .ok (.iastore, 1) := by decide +kernel
theorem dX3_surveyWrap_56 : decode cX3_surveyWrap 56 = .ok (.iinc 6 1, 3) := by decide +kernel
theorem dX3_surveyWrap_59 : decode cX3_surveyWrap 59 = .ok (.goto (-56), 3) := by decide +kernel
theorem dX3_surveyWrap_62 : decode cX3_surveyWrap 62 = .ok (.return_, 1) := by decide +kernel
theorem dX3_uniteReached_0 : decode cX3_uniteReached 0 = .ok (.iconst 0, 1) := by decide +kernel
theorem dX3_uniteReached_1 : decode cX3_uniteReached 1 = .ok (.istore_n 1, 1) := by decide +kernel
theorem dX3_uniteReached_2 : decode cX3_uniteReached 2 = .ok (.iload_n 1, 1) := by decide +kernel
theorem dX3_uniteReached_3 : decode cX3_uniteReached 3 = .ok (.aload_n 0, 1) := by decide +kernel
theorem dX3_uniteReached_4 : decode cX3_uniteReached 4 = .ok (.getfield 31, 3) := by decide +kernel
theorem dX3_uniteReached_7 : decode cX3_uniteReached 7 = .ok (.if_icmp .ge 47, 3) := by decide +kernel
theorem dX3_uniteReached_10 : decode cX3_uniteReached 10 = .ok (.iconst 0, 1) := by decide +kernel
theorem dX3_uniteReached_11 : decode cX3_uniteReached 11 = .ok (.istore_n 2, 1) := by decide +kernel
theorem dX3_uniteReached_12 : decode cX3_uniteReached 12 = .ok (.iload_n 2, 1) := by decide +kernel
theorem dX3_uniteReached_13 : decode cX3_uniteReached 13 = .ok (.iconst 1, 1) := by decide +kernel
theorem dX3_uniteReached_14 : decode cX3_uniteReached 14 = .ok (.iload_n 1, 1) := by decide +kernel
theorem dX3_uniteReached_15 : decode cX3_uniteReached 15 = .ok (.ishl, 1) := by decide +kernel
theorem dX3_uniteReached_16 : decode cX3_uniteReached 16 = .ok (.if_icmp .ge 32, 3) := by decide +kernel
theorem dX3_uniteReached_19 : decode cX3_uniteReached 19 = .ok (.aload_n 0, 1) := by decide +kernel
theorem dX3_uniteReached_20 : decode cX3_uniteReached 20 = .ok (.getfield 22, 3) := by decide +kernel
theorem dX3_uniteReached_23 : decode cX3_uniteReached 23 = .ok (.iconst 1, 1) := by decide +kernel
theorem dX3_uniteReached_24 : decode cX3_uniteReached 24 = .ok (.iload_n 1, 1) := by decide +kernel
theorem dX3_uniteReached_25 : decode cX3_uniteReached 25 = .ok (.ishl, 1) := by decide +kernel
theorem dX3_uniteReached_26 : decode cX3_uniteReached 26 = .ok (.iload_n 2, 1) := by decide +kernel
theorem dX3_uniteReached_27 : decode cX3_uniteReached 27 = .ok (.ior, 1) := by decide +kernel
theorem dX3_uniteReached_28 : decode cX3_uniteReached 28 = .ok (.aload_n 0, 1) := by decide +kernel
theorem dX3_uniteReached_29 : decode cX3_uniteReached 29 = .ok (.getfield 22, 3) := by decide +kernel
theorem dX3_uniteReached_32 : decode cX3_uniteReached 32 = .ok (.iload_n 2, 1) := by decide +kernel
theorem dX3_uniteReached_33 : decode cX3_uniteReached 33 = .ok (.iaload, 1) := by decide +kernel
theorem dX3_uniteReached_34 : decode cX3_uniteReached 34 = .ok (.aload_n 0, 1) := by decide +kernel
theorem dX3_uniteReached_35 : decode cX3_uniteReached 35 = .ok (.getfield 9, 3) := by decide +kernel
theorem dX3_uniteReached_38 : decode cX3_uniteReached 38 = .ok (.iload_n 1, 1) := by decide +kernel
theorem dX3_uniteReached_39 : decode cX3_uniteReached 39 = .ok (.iaload, 1) := by decide +kernel
theorem dX3_uniteReached_40 : decode cX3_uniteReached 40 = .ok (.ior, 1) := by decide +kernel
theorem dX3_uniteReached_41 : decode cX3_uniteReached 41 = .ok (.iastore, 1) := by decide +kernel
theorem dX3_uniteReached_42 : decode cX3_uniteReached 42 = .ok (.iinc 2 1, 3) := by decide +kernel
theorem dX3_uniteReached_45 : decode cX3_uniteReached 45 = .ok (.goto (-33), 3) := by decide +kernel
theorem dX3_uniteReached_48 : decode cX3_uniteReached 48 = .ok (.iinc 1 1, 3) := by decide +kernel
theorem dX3_uniteReached_51 : decode cX3_uniteReached 51 = .ok (.goto (-49), 3) := by decide +kernel
theorem dX3_uniteReached_54 : decode cX3_uniteReached 54 = .ok (.return_, 1) := by decide +kernel
theorem dX3_mostGood_0 : decode cX3_mostGood 0 = .ok (.iconst 0, 1) := by decide +kernel
theorem dX3_mostGood_1 : decode cX3_mostGood 1 = .ok (.istore_n 3, 1) := by decide +kernel
theorem dX3_mostGood_2 : decode cX3_mostGood 2 = .ok (.iload_n 1, 1) := by decide +kernel
theorem dX3_mostGood_3 : decode cX3_mostGood 3 = .ok (.istore 4, 2) := by decide +kernel
theorem dX3_mostGood_5 : decode cX3_mostGood 5 = .ok (.iload 4, 2) := by decide +kernel
theorem dX3_mostGood_7 : decode cX3_mostGood 7 = .ok (.aload_n 0, 1) := by decide +kernel
theorem dX3_mostGood_8 : decode cX3_mostGood 8 = .ok (.getfield 31, 3) := by decide +kernel
theorem dX3_mostGood_11 : decode cX3_mostGood 11 = .ok (.if_icmp .ge 26, 3) := by decide +kernel
theorem dX3_mostGood_14 : decode cX3_mostGood 14 = .ok (.aload_n 0, 1) := by decide +kernel
theorem dX3_mostGood_15 : decode cX3_mostGood 15 = .ok (.getfield 15, 3) := by decide +kernel
theorem dX3_mostGood_18 : decode cX3_mostGood 18 = .ok (.iload 4, 2) := by decide +kernel
theorem dX3_mostGood_20 : decode cX3_mostGood 20 = .ok (.baload, 1) := by decide +kernel
theorem dX3_mostGood_21 : decode cX3_mostGood 21 = .ok (.ifCond .ne 10, 3) := by decide +kernel
theorem dX3_mostGood_24 : decode cX3_mostGood 24 = .ok (.iload_n 3, 1) := by decide +kernel
theorem dX3_mostGood_25 : decode cX3_mostGood 25 = .ok (.iconst 1, 1) := by decide +kernel
theorem dX3_mostGood_26 : decode cX3_mostGood 26 = .ok (.iload 4, 2) := by decide +kernel
theorem dX3_mostGood_28 : decode cX3_mostGood 28 = .ok (.ishl, 1) := by decide +kernel
theorem dX3_mostGood_29 : decode cX3_mostGood 29 = .ok (.ior, 1) := by decide +kernel
theorem dX3_mostGood_30 : decode cX3_mostGood 30 = .ok (.istore_n 3, 1) := by decide +kernel
theorem dX3_mostGood_31 : decode cX3_mostGood 31 = .ok (.iinc 4 1, 3) := by decide +kernel
theorem dX3_mostGood_34 : decode cX3_mostGood 34 = .ok (.goto (-29), 3) := by decide +kernel
theorem dX3_mostGood_37 : decode cX3_mostGood 37 = .ok (.iconst 0, 1) := by decide +kernel
theorem dX3_mostGood_38 : decode cX3_mostGood 38 = .ok (.istore 4, 2) := by decide +kernel
theorem dX3_mostGood_40 : decode cX3_mostGood 40 = .ok (.iconst 0, 1) := by decide +kernel
theorem dX3_mostGood_41 : decode cX3_mostGood 41 = .ok (.istore 5, 2) := by decide +kernel
theorem dX3_mostGood_43 : decode cX3_mostGood 43 = .ok (.iload 5, 2) := by decide +kernel
theorem dX3_mostGood_45 : decode cX3_mostGood 45 = .ok (.iconst 1, 1) := by decide +kernel
theorem dX3_mostGood_46 : decode cX3_mostGood 46 = .ok (.aload_n 0, 1) := by decide +kernel
theorem dX3_mostGood_47 : decode cX3_mostGood 47 = .ok (.getfield 31, 3) := by decide +kernel
theorem dX3_mostGood_50 : decode cX3_mostGood 50 = .ok (.ishl, 1) := by decide +kernel
theorem dX3_mostGood_51 : decode cX3_mostGood 51 = .ok (.if_icmp .ge 54, 3) := by decide +kernel
theorem dX3_mostGood_54 : decode cX3_mostGood 54 = .ok (.iload 5, 2) := by decide +kernel
theorem dX3_mostGood_56 : decode cX3_mostGood 56 = .ok (.iload_n 3, 1) := by decide +kernel
theorem dX3_mostGood_57 : decode cX3_mostGood 57 = .ok (.iconst (-1), 1) := by decide +kernel
theorem dX3_mostGood_58 : decode cX3_mostGood 58 = .ok (.ixor, 1) := by decide +kernel
theorem dX3_mostGood_59 : decode cX3_mostGood 59 = .ok (.iand, 1) := by decide +kernel
theorem dX3_mostGood_60 : decode cX3_mostGood 60 = .ok (.ifCond .ne 34, 3) := by decide +kernel
theorem dX3_mostGood_63 : decode cX3_mostGood 63 = .ok (.iload 5, 2) := by decide +kernel
theorem dX3_mostGood_65 : decode cX3_mostGood 65 = .ok (.invokestatic 80, 3) := by decide +kernel
theorem dX3_mostGood_68 : decode cX3_mostGood 68 = .ok (.aload_n 0, 1) := by decide +kernel
theorem dX3_mostGood_69 : decode cX3_mostGood 69 = .ok (.getfield 22, 3) := by decide +kernel
theorem dX3_mostGood_72 : decode cX3_mostGood 72 = .ok (.iload 5, 2) := by decide +kernel
theorem dX3_mostGood_74 : decode cX3_mostGood 74 = .ok (.iaload, 1) := by decide +kernel
theorem dX3_mostGood_75 : decode cX3_mostGood 75 = .ok (.iload_n 2, 1) := by decide +kernel
theorem dX3_mostGood_76 : decode cX3_mostGood 76 = .ok (.iconst (-1), 1) := by decide +kernel
theorem dX3_mostGood_77 : decode cX3_mostGood 77 = .ok (.ixor, 1) := by decide +kernel
theorem dX3_mostGood_78 : decode cX3_mostGood 78 = .ok (.iand, 1) := by decide +kernel
theorem dX3_mostGood_79 : decode cX3_mostGood 79 = .ok (.invokestatic 80, 3) := by decide +kernel
theorem dX3_mostGood_82 : decode cX3_mostGood 82 = .ok (.isub, 1) := by decide +kernel
theorem dX3_mostGood_83 : decode cX3_mostGood 83 = .ok (.istore 6, 2) := by decide +kernel
theorem dX3_mostGood_85 : decode cX3_mostGood 85 = .ok (.iload 4, 2) := by decide +kernel
theorem dX3_mostGood_87 : decode cX3_mostGood 87 = .ok (.iload 6, 2) := by decide +kernel
theorem dX3_mostGood_89 : decode cX3_mostGood 89 = .ok (.invokestatic 86, 3) := by decide +kernel
theorem dX3_mostGood_92 : decode cX3_mostGood 92 = .ok (.istore 4, 2) := by decide +kernel
theorem dX3_mostGood_94 : decode cX3_mostGood 94 = .ok (.iload 5, 2) := by decide +kernel
theorem dX3_mostGood_96 : decode cX3_mostGood 96 = .ok (.iconst 1, 1) := by decide +kernel
theorem dX3_mostGood_97 : decode cX3_mostGood 97 = .ok (.iload_n 1, 1) := by decide +kernel
theorem dX3_mostGood_98 : decode cX3_mostGood 98 = .ok (.ishl, 1) := by decide +kernel
theorem dX3_mostGood_99 : decode cX3_mostGood 99 = .ok (.iadd, 1) := by decide +kernel
theorem dX3_mostGood_100 : decode cX3_mostGood 100 = .ok (.istore 5, 2) := by decide +kernel
theorem dX3_mostGood_102 : decode cX3_mostGood 102 = .ok (.goto (-59), 3) := by decide +kernel
theorem dX3_mostGood_105 : decode cX3_mostGood 105 = .ok (.aload_n 0, 1) := by decide +kernel
theorem dX3_mostGood_106 : decode cX3_mostGood 106 = .ok (.getfield 31, 3) := by decide +kernel
theorem dX3_mostGood_109 : decode cX3_mostGood 109 = .ok (.iload_n 1, 1) := by decide +kernel
theorem dX3_mostGood_110 : decode cX3_mostGood 110 = .ok (.isub, 1) := by decide +kernel
theorem dX3_mostGood_111 : decode cX3_mostGood 111 = .ok (.iload 4, 2) := by decide +kernel
theorem dX3_mostGood_113 : decode cX3_mostGood 113 = .ok (.isub, 1) := by decide +kernel
theorem dX3_mostGood_114 : decode cX3_mostGood 114 = .ok (.ireturn, 1) := by decide +kernel
theorem dX3_choose_0 : decode cX3_choose 0 = .ok (.aload_n 0, 1) := by decide +kernel
theorem dX3_choose_1 : decode cX3_choose 1 = .ok (.iconst 0, 1) := by decide +kernel
theorem dX3_choose_2 : decode cX3_choose 2 = .ok (.iconst 0, 1) := by decide +kernel
theorem dX3_choose_3 : decode cX3_choose 3 = .ok (.invokevirtual 91, 3) := by decide +kernel
theorem dX3_choose_6 : decode cX3_choose 6 = .ok (.istore_n 2, 1) := by decide +kernel
theorem dX3_choose_7 : decode cX3_choose 7 = .ok (.iconst 0, 1) := by decide +kernel
theorem dX3_choose_8 : decode cX3_choose 8 = .ok (.istore_n 3, 1) := by decide +kernel
theorem dX3_choose_9 : decode cX3_choose 9 = .ok (.iconst 0, 1) := by decide +kernel
theorem dX3_choose_10 : decode cX3_choose 10 = .ok (.istore 4, 2) := by decide +kernel
theorem dX3_choose_12 : decode cX3_choose 12 = .ok (.iload 4, 2) := by decide +kernel
theorem dX3_choose_14 : decode cX3_choose 14 = .ok (.aload_n 0, 1) := by decide +kernel
theorem dX3_choose_15 : decode cX3_choose 15 = .ok (.getfield 31, 3) := by decide +kernel
theorem dX3_choose_18 : decode cX3_choose 18 = .ok (.if_icmp .ge 86, 3) := by decide +kernel
theorem dX3_choose_21 : decode cX3_choose 21 = .ok (.aload_n 0, 1) := by decide +kernel
theorem dX3_choose_22 : decode cX3_choose 22 = .ok (.getfield 19, 3) := by decide +kernel
theorem dX3_choose_25 : decode cX3_choose 25 = .ok (.iload 4, 2) := by decide +kernel
theorem dX3_choose_27 : decode cX3_choose 27 = .ok (.aload_n 0, 1) := by decide +kernel
theorem dX3_choose_28 : decode cX3_choose 28 = .ok (.iload 4, 2) := by decide +kernel
theorem dX3_choose_30 : decode cX3_choose 30 = .ok (.iload_n 3, 1) := by decide +kernel
theorem dX3_choose_31 : decode cX3_choose 31 = .ok (.iload_n 2, 1) := by decide +kernel
theorem dX3_choose_32 : decode cX3_choose 32 = .ok (.iload_n 1, 1) := by decide +kernel
theorem dX3_choose_33 : decode cX3_choose 33 = .ok (.invokevirtual 94, 3) := by decide +kernel
theorem dX3_choose_36 : decode cX3_choose 36 = .ok (.iastore, 1) := by decide +kernel
theorem dX3_choose_37 : decode cX3_choose 37 = .ok (.aload_n 0, 1) := by decide +kernel
theorem dX3_choose_38 : decode cX3_choose 38 = .ok (.getfield 19, 3) := by decide +kernel
theorem dX3_choose_41 : decode cX3_choose 41 = .ok (.iload 4, 2) := by decide +kernel
theorem dX3_choose_43 : decode cX3_choose 43 = .ok (.iaload, 1) := by decide +kernel
theorem dX3_choose_44 : decode cX3_choose 44 = .ok (.bipush (-4), 2) := by decide +kernel
theorem dX3_choose_46 : decode cX3_choose 46 = .ok (.if_icmp .ne 24, 3) := by decide +kernel
theorem dX3_choose_49 : decode cX3_choose 49 = .ok (.iload_n 2, 1) := by decide +kernel
theorem dX3_choose_50 : decode cX3_choose 50 = .ok (.aload_n 0, 1) := by decide +kernel
theorem dX3_choose_51 : decode cX3_choose 51 = .ok (.getfield 15, 3) := by decide +kernel
theorem dX3_choose_54 : decode cX3_choose 54 = .ok (.iload 4, 2) := by decide +kernel
theorem dX3_choose_56 : decode cX3_choose 56 = .ok (.baload, 1) := by decide +kernel
theorem dX3_choose_57 : decode cX3_choose 57 = .ok (.ifCond .eq 7, 3) := by decide +kernel
theorem dX3_choose_60 : decode cX3_choose 60 = .ok (.iconst 1, 1) := by decide +kernel
theorem dX3_choose_61 : decode cX3_choose 61 = .ok (.goto 4, 3) := by decide +kernel
theorem dX3_choose_64 : decode cX3_choose 64 = .ok (.iconst 0, 1) := by decide +kernel
theorem dX3_choose_65 : decode cX3_choose 65 = .ok (.isub, 1) := by decide +kernel
theorem dX3_choose_66 : decode cX3_choose 66 = .ok (.istore_n 2, 1) := by decide +kernel
theorem dX3_choose_67 : decode cX3_choose 67 = .ok (.goto 31, 3) := by decide +kernel
theorem dX3_choose_70 : decode cX3_choose 70 = .ok (.iload_n 2, 1) := by decide +kernel
theorem dX3_choose_71 : decode cX3_choose 71 = .ok (.aload_n 0, 1) := by decide +kernel
theorem dX3_choose_72 : decode cX3_choose 72 = .ok (.iload 4, 2) := by decide +kernel
theorem dX3_choose_74 : decode cX3_choose 74 = .ok (.aload_n 0, 1) := by decide +kernel
theorem dX3_choose_75 : decode cX3_choose 75 = .ok (.getfield 19, 3) := by decide +kernel
theorem dX3_choose_78 : decode cX3_choose 78 = .ok (.iload 4, 2) := by decide +kernel
theorem dX3_choose_80 : decode cX3_choose 80 = .ok (.iaload, 1) := by decide +kernel
theorem dX3_choose_81 : decode cX3_choose 81 = .ok (.invokevirtual 98, 3) := by decide +kernel
theorem dX3_choose_84 : decode cX3_choose 84 = .ok (.isub, 1) := by decide +kernel
theorem dX3_choose_85 : decode cX3_choose 85 = .ok (.istore_n 2, 1) := by decide +kernel
theorem dX3_choose_86 : decode cX3_choose 86 = .ok (.iload_n 3, 1) := by decide +kernel
theorem dX3_choose_87 : decode cX3_choose 87 = .ok (.iconst 1, 1) := by decide +kernel
theorem dX3_choose_88 : decode cX3_choose 88 = .ok (.aload_n 0, 1) := by decide +kernel
theorem dX3_choose_89 : decode cX3_choose 89 = .ok (.getfield 19, 3) := by decide +kernel
theorem dX3_choose_92 : decode cX3_choose 92 = .ok (.iload 4, 2) := by decide +kernel
theorem dX3_choose_94 : decode cX3_choose 94 = .ok (.iaload, 1) := by decide +kernel
theorem dX3_choose_95 : decode cX3_choose 95 = .ok (.ishl, 1) := by decide +kernel
theorem dX3_choose_96 : decode cX3_choose 96 = .ok (.ior, 1) := by decide +kernel
theorem dX3_choose_97 : decode cX3_choose 97 = .ok (.istore_n 3, 1) := by decide +kernel
theorem dX3_choose_98 : decode cX3_choose 98 = .ok (.iinc 4 1, 3) := by decide +kernel
theorem dX3_choose_101 : decode cX3_choose 101 = .ok (.goto (-89), 3) := by decide +kernel
theorem dX3_choose_104 : decode cX3_choose 104 = .ok (.return_, 1) := by decide +kernel
theorem dX3_firstPlace_0 : decode cX3_firstPlace 0 = .ok (.iconst 0, 1) := by decide +kernel
theorem dX3_firstPlace_1 : decode cX3_firstPlace 1 = .ok (.istore 5, 2) := by decide +kernel
theorem dX3_firstPlace_3 : decode cX3_firstPlace 3 = .ok (.iload 5, 2) := by decide +kernel
theorem dX3_firstPlace_5 : decode cX3_firstPlace 5 = .ok (.iload 4, 2) := by decide +kernel
theorem dX3_firstPlace_7 : decode cX3_firstPlace 7 = .ok (.if_icmp .ge 58, 3) := by decide +kernel
theorem dX3_firstPlace_10 : decode cX3_firstPlace 10 = .ok (.iload_n 2, 1) := by decide +kernel
theorem dX3_firstPlace_11 : decode cX3_firstPlace 11 = .ok (.iconst 1, 1) := by decide +kernel
theorem dX3_firstPlace_12 : decode cX3_firstPlace 12 = .ok (.iload 5, 2) := by decide +kernel
theorem dX3_firstPlace_14 : decode cX3_firstPlace 14 = .ok (.ishl, 1) := by decide +kernel
theorem dX3_firstPlace_15 : decode cX3_firstPlace 15 = .ok (.iand, 1) := by decide +kernel
theorem dX3_firstPlace_16 : decode cX3_firstPlace 16 = .ok (.ifCond .ne 7, 3) := by decide +kernel
theorem dX3_firstPlace_19 : decode cX3_firstPlace 19 = .ok (.iconst 1, 1) := by decide +kernel
theorem dX3_firstPlace_20 : decode cX3_firstPlace 20 = .ok (.goto 4, 3) := by decide +kernel
theorem dX3_firstPlace_23 : decode cX3_firstPlace 23 = .ok (.iconst 0, 1) := by decide +kernel
theorem dX3_firstPlace_24 : decode cX3_firstPlace 24 = .ok (.istore 6, 2) := by decide +kernel
theorem dX3_firstPlace_26 : decode cX3_firstPlace 26 = .ok (.iload 6, 2) := by decide +kernel
theorem dX3_firstPlace_28 : decode cX3_firstPlace 28 = .ok (.ifCond .eq 31, 3) := by decide +kernel
theorem dX3_firstPlace_31 : decode cX3_firstPlace 31 = .ok (.aload_n 0, 1) := by decide +kernel
theorem dX3_firstPlace_32 : decode cX3_firstPlace 32 = .ok (.iload_n 1, 1) := by decide +kernel
theorem dX3_firstPlace_33 : decode cX3_firstPlace 33 = .ok (.iload 5, 2) := by decide +kernel
theorem dX3_firstPlace_35 : decode cX3_firstPlace 35 = .ok (.invokevirtual 98, 3) := by decide +kernel
theorem dX3_firstPlace_38 : decode cX3_firstPlace 38 = .ok (.aload_n 0, 1) := by decide +kernel
theorem dX3_firstPlace_39 : decode cX3_firstPlace 39 = .ok (.iload_n 1, 1) := by decide +kernel
theorem dX3_firstPlace_40 : decode cX3_firstPlace 40 = .ok (.iconst 1, 1) := by decide +kernel
theorem dX3_firstPlace_41 : decode cX3_firstPlace 41 = .ok (.iadd, 1) := by decide +kernel
theorem dX3_firstPlace_42 : decode cX3_firstPlace 42 = .ok (.iload_n 2, 1) := by decide +kernel
theorem dX3_firstPlace_43 : decode cX3_firstPlace 43 = .ok (.iconst 1, 1) := by decide +kernel
theorem dX3_firstPlace_44 : decode cX3_firstPlace 44 = .ok (.iload 5, 2) := by decide +kernel
theorem dX3_firstPlace_46 : decode cX3_firstPlace 46 = .ok (.ishl, 1) := by decide +kernel
theorem dX3_firstPlace_47 : decode cX3_firstPlace 47 = .ok (.ior, 1) := by decide +kernel
theorem dX3_firstPlace_48 : decode cX3_firstPlace 48 = .ok (.invokevirtual 91, 3) := by decide +kernel
theorem dX3_firstPlace_51 : decode cX3_firstPlace 51 = .ok (.iadd, 1) := by decide +kernel
theorem dX3_firstPlace_52 : decode cX3_firstPlace 52 = .ok (.iload_n 3, 1) := by decide +kernel
theorem dX3_firstPlace_53 : decode cX3_firstPlace 53 = .ok (.if_icmp .ne 6, 3) := by decide +kernel
theorem dX3_firstPlace_56 : decode cX3_firstPlace 56 = .ok (.iload 5, 2) := by decide +kernel
theorem dX3_firstPlace_58 : decode cX3_firstPlace 58 = .ok (.ireturn, 1) := by decide +kernel
theorem dX3_firstPlace_59 : decode cX3_firstPlace 59 = .ok (.iinc 5 1, 3) := by decide +kernel
theorem dX3_firstPlace_62 : decode cX3_firstPlace 62 = .ok (.goto (-59), 3) := by decide +kernel
theorem dX3_firstPlace_65 : decode cX3_firstPlace 65 = .ok (.bipush (-4), 2) := by decide +kernel
theorem dX3_firstPlace_67 : decode cX3_firstPlace 67 = .ok (.ireturn, 1) := by decide +kernel
theorem dX3_goodIn_0 : decode cX3_goodIn 0 = .ok (.aload_n 0, 1) := by decide +kernel
theorem dX3_goodIn_1 : decode cX3_goodIn 1 = .ok (.getfield 9, 3) := by decide +kernel
theorem dX3_goodIn_4 : decode cX3_goodIn 4 = .ok (.iload_n 1, 1) := by decide +kernel
theorem dX3_goodIn_5 : decode cX3_goodIn 5 = .ok (.iaload, 1) := by decide +kernel
theorem dX3_goodIn_6 : decode cX3_goodIn 6 = .ok (.iload_n 2, 1) := by decide +kernel
theorem dX3_goodIn_7 : decode cX3_goodIn 7 = .ok (.ishr, 1) := by decide +kernel
theorem dX3_goodIn_8 : decode cX3_goodIn 8 = .ok (.iconst 1, 1) := by decide +kernel
theorem dX3_goodIn_9 : decode cX3_goodIn 9 = .ok (.iand, 1) := by decide +kernel
theorem dX3_goodIn_10 : decode cX3_goodIn 10 = .ok (.ireturn, 1) := by decide +kernel
theorem dX4_init_0 : decode cX4_init 0 = .ok (.aload_n 0, 1) := by decide +kernel
theorem dX4_init_1 : decode cX4_init 1 = .ok (.invokespecial 3, 3) := by decide +kernel
theorem dX4_init_4 : decode cX4_init 4 = .ok (.aload_n 0, 1) := by decide +kernel
theorem dX4_init_5 : decode cX4_init 5 = .ok (.bipush 6, 2) := by decide +kernel
theorem dX4_init_7 : decode cX4_init 7 = .ok (.newarray .int, 2) := by decide +kernel
theorem dX4_init_9 : decode cX4_init 9 = .ok (.putfield 9, 3) := by decide +kernel
theorem dX4_init_12 : decode cX4_init 12 = .ok (.return_, 1) := by decide +kernel
theorem dX4_weight_0 : decode cX4_weight 0 = .ok (.aload_n 1, 1) := by decide +kernel
theorem dX4_weight_1 : decode cX4_weight 1 = .ok (.getfield 15, 3) := by decide +kernel
theorem dX4_weight_4 : decode cX4_weight 4 = .ok (.iconst 1, 1) := by decide +kernel
theorem dX4_weight_5 : decode cX4_weight 5 = .ok (.iload_n 3, 1) := by decide +kernel
theorem dX4_weight_6 : decode cX4_weight 6 = .ok (.ishl, 1) := by decide +kernel
theorem dX4_weight_7 : decode cX4_weight 7 = .ok (.iand, 1) := by decide +kernel
theorem dX4_weight_8 : decode cX4_weight 8 = .ok (.ifCond .eq 5, 3) := by decide +kernel
theorem dX4_weight_11 : decode cX4_weight 11 = .ok (.iconst 0, 1) := by decide +kernel
theorem dX4_weight_12 : decode cX4_weight 12 = .ok (.ireturn, 1) := by decide +kernel
theorem dX4_weight_13 : decode cX4_weight 13 = .ok (.iload_n 3, 1) := by decide +kernel
theorem dX4_weight_14 : decode cX4_weight 14 = .ok (.iconst 3, 1) := by decide +kernel
theorem dX4_weight_15 : decode cX4_weight 15 = .ok (.idiv, 1) := by decide +kernel
theorem dX4_weight_16 : decode cX4_weight 16 = .ok (.iload_n 2, 1) := by decide +kernel
theorem dX4_weight_17 : decode cX4_weight 17 = .ok (.isub, 1) := by decide +kernel
theorem dX4_weight_18 : decode cX4_weight 18 = .ok (.invokestatic 21, 3) := by decide +kernel
theorem dX4_weight_21 : decode cX4_weight 21 = .ok (.istore 4, 2) := by decide +kernel
theorem dX4_weight_23 : decode cX4_weight 23 = .ok (.iload 4, 2) := by decide +kernel
theorem dX4_weight_25 : decode cX4_weight 25 = .ok (.iconst 1, 1) := by decide +kernel
theorem dX4_weight_26 : decode cX4_weight 26 = .ok (.if_icmp .le 7, 3) := by decide +kernel
theorem dX4_weight_29 : decode cX4_weight 29 = .ok (.iconst 0, 1) := by decide +kernel
theorem dX4_weight_30 : decode cX4_weight 30 = .ok (.goto 7, 3) := by decide +kernel
theorem dX4_weight_33 : decode cX4_weight 33 = .ok (.iconst 2, 1) := by decide +kernel
theorem dX4_weight_34 : decode cX4_weight 34 = .ok (.iload 4, 2) := by decide +kernel
theorem dX4_weight_36 : decode cX4_weight 36 = .ok (.isub, 1) := by decide +kernel
theorem dX4_weight_37 : decode cX4_weight 37 = .ok (.ireturn, 1) := by decide +kernel
theorem dX4_allWeights_0 : decode cX4_allWeights 0 = .ok (.iconst 0, 1) := by decide +kernel
theorem dX4_allWeights_1 : decode cX4_allWeights 1 = .ok (.istore_n 3, 1) := by decide +kernel
theorem dX4_allWeights_2 : decode cX4_allWeights 2 = .ok (.iconst 0, 1) := by decide +kernel
theorem dX4_allWeights_3 : decode cX4_allWeights 3 = .ok (.istore 4, 2) := by decide +kernel
theorem dX4_allWeights_5 : decode cX4_allWeights 5 = .ok (.iload 4, 2) := by decide +kernel
theorem dX4_allWeights_7 : decode cX4_allWeights 7 = .ok (.aload_n 1, 1) := by decide +kernel
theorem dX4_allWeights_8 : decode cX4_allWeights 8 = .ok (.getfield 27, 3) := by decide +kernel
theorem dX4_allWeights_11 : decode cX4_allWeights 11 = .ok (.invokevirtual 31, 3) := by decide +kernel
theorem dX4_allWeights_14 : decode cX4_allWeights 14 = .ok (.if_icmp .ge 20, 3) := by decide +kernel
theorem dX4_allWeights_17 : decode cX4_allWeights 17 = .ok (.iload_n 3, 1) := by decide +kernel
theorem dX4_allWeights_18 : decode cX4_allWeights 18 = .ok (.aload_n 0, 1) := by decide +kernel
theorem dX4_allWeights_19 : decode cX4_allWeights 19 = .ok (.aload_n 1, 1) := by decide +kernel
theorem dX4_allWeights_20 : decode cX4_allWeights 20 = .ok (.iload_n 2, 1) := by decide +kernel
theorem dX4_allWeights_21 : decode cX4_allWeights 21 = .ok (.iload 4, 2) := by decide +kernel
theorem dX4_allWeights_23 : decode cX4_allWeights 23 = .ok (.invokevirtual 37, 3) := by decide +kernel
theorem dX4_allWeights_26 : decode cX4_allWeights 26 = .ok (.iadd, 1) := by decide +kernel
theorem dX4_allWeights_27 : decode cX4_allWeights 27 = .ok (.istore_n 3, 1) := by decide +kernel
theorem dX4_allWeights_28 : decode cX4_allWeights 28 = .ok (.iinc 4 1, 3) := by decide +kernel
theorem dX4_allWeights_31 : decode cX4_allWeights 31 = .ok (.goto (-26), 3) := by decide +kernel
theorem dX4_allWeights_34 : decode cX4_allWeights 34 = .ok (.iload_n 3, 1) := by decide +kernel
theorem dX4_allWeights_35 : decode cX4_allWeights 35 = .ok (.ireturn, 1) := by decide +kernel
theorem dX4_searchFullest_0 : decode cX4_searchFullest 0 = .ok (.iconst 0, 1) := by decide +kernel
theorem dX4_searchFullest_1 : decode cX4_searchFullest 1 = .ok (.istore_n 2, 1) := by decide +kernel
theorem dX4_searchFullest_2 : decode cX4_searchFullest 2 = .ok (.iload_n 2, 1) := by decide +kernel
theorem dX4_searchFullest_3 : decode cX4_searchFullest 3 = .ok (.aload_n 1, 1) := by decide +kernel
theorem dX4_searchFullest_4 : decode cX4_searchFullest 4 = .ok (.getfield 41, 3) := by decide +kernel
theorem dX4_searchFullest_7 : decode cX4_searchFullest 7 = .ok (.if_icmp .ge 41, 3) := by decide +kernel
theorem dX4_searchFullest_10 : decode cX4_searchFullest 10 = .ok (.aload_n 1, 1) := by decide +kernel
theorem dX4_searchFullest_11 : decode cX4_searchFullest 11 = .ok (.getfield 44, 3) := by decide +kernel
theorem dX4_searchFullest_14 : decode cX4_searchFullest 14 = .ok (.iload_n 2, 1) := by decide +kernel
theorem dX4_searchFullest_15 : decode cX4_searchFullest 15 = .ok (.aaload, 1) := by decide +kernel
theorem dX4_searchFullest_16 : decode cX4_searchFullest 16 = .ok (.getfield 48, 3) := by decide +kernel
theorem dX4_searchFullest_19 : decode cX4_searchFullest 19 = .ok (.istore_n 3, 1) := by decide +kernel
theorem dX4_searchFullest_20 : decode cX4_searchFullest 20 = .ok (.aload_n 0, 1) := by decide +kernel
theorem dX4_searchFullest_21 : decode cX4_searchFullest 21 = .ok (.getfield 9, 3) := by decide +kernel
theorem dX4_searchFullest_24 : decode cX4_searchFullest 24 = .ok (.iload_n 2, 1) := by decide +kernel
theorem dX4_searchFullest_25 : decode cX4_searchFullest 25 = .ok (.iload_n 3, 1) := by decide +kernel
theorem dX4_searchFullest_26 : decode cX4_searchFullest 26 = .ok (.bipush (-4), 2) := by decide +kernel
theorem dX4_searchFullest_28 : decode cX4_searchFullest 28 = .ok (.if_icmp .ne 7, 3) := by decide +kernel
theorem dX4_searchFullest_31 : decode cX4_searchFullest 31 = .ok (.iconst 0, 1) := by decide +kernel
theorem dX4_searchFullest_32 : decode cX4_searchFullest 32 = .ok (.goto 9, 3) := by decide +kernel
theorem dX4_searchFullest_35 : decode cX4_searchFullest 35 = .ok (.aload_n 0, 1) := by decide +kernel
theorem dX4_searchFullest_36 : decode cX4_searchFullest 36 = .ok (.aload_n 1, 1) := by decide +kernel
theorem dX4_searchFullest_37 : decode cX4_searchFullest 37 = .ok (.iload_n 3, 1) := by decide +kernel
theorem dX4_searchFullest_38 : decode cX4_searchFullest 38 = .ok (.invokevirtual 53, 3) := by decide +kernel
theorem dX4_searchFullest_41 : decode cX4_searchFullest 41 = .ok (.iastore, 1) := by decide +kernel
theorem dX4_searchFullest_42 : decode cX4_searchFullest 42 = .ok (.iinc 2 1, 3) := by decide +kernel
theorem dX4_searchFullest_45 : decode cX4_searchFullest 45 = .ok (.goto (-43), 3) := by decide +kernel
theorem dX4_searchFullest_48 : decode cX4_searchFullest 48 = .ok (.aload_n 0, 1) := by decide +kernel
theorem dX4_searchFullest_49 : decode cX4_searchFullest 49 = .ok (.bipush (-4), 2) := by decide +kernel
theorem dX4_searchFullest_51 : decode cX4_searchFullest 51 = .ok (.putfield 57, 3) := by decide +kernel
theorem dX4_searchFullest_54 : decode cX4_searchFullest 54 = .ok (.aload_n 0, 1) := by decide +kernel
theorem dX4_searchFullest_55 : decode cX4_searchFullest 55 = .ok (.iconst 0, 1) := by decide +kernel
theorem dX4_searchFullest_56 : decode cX4_searchFullest 56 = .ok (.putfield 60, 3) := by decide +kernel
theorem dX4_searchFullest_59 : decode cX4_searchFullest 59 = .ok (.iconst 0, 1) := by decide +kernel
theorem dX4_searchFullest_60 : decode cX4_searchFullest 60 = .ok (.istore_n 2, 1) := by decide +kernel
theorem dX4_searchFullest_61 : decode cX4_searchFullest 61 = .ok (.iload_n 2, 1) := by decide +kernel
theorem dX4_searchFullest_62 : decode cX4_searchFullest 62 = .ok (.aload_n 1, 1) := by decide +kernel
theorem dX4_searchFullest_63 : decode cX4_searchFullest 63 = .ok (.getfield 27, 3) := by decide +kernel
theorem dX4_searchFullest_66 : decode cX4_searchFullest 66 = .ok (.invokevirtual 31, 3) := by decide +kernel
theorem dX4_searchFullest_69 : decode cX4_searchFullest 69 = .ok (.if_icmp .ge 34, 3) := by decide +kernel
theorem dX4_searchFullest_72 : decode cX4_searchFullest 72 = .ok (.aload_n 0, 1) := by decide +kernel
theorem dX4_searchFullest_73 : decode cX4_searchFullest 73 = .ok (.aload_n 1, 1) := by decide +kernel
theorem dX4_searchFullest_74 : decode cX4_searchFullest 74 = .ok (.iload_n 2, 1) := by decide +kernel
theorem dX4_searchFullest_75 : decode cX4_searchFullest 75 = .ok (.invokevirtual 63, 3) := by decide +kernel
theorem dX4_searchFullest_78 : decode cX4_searchFullest 78 = .ok (.istore_n 3, 1) := by decide +kernel
theorem dX4_searchFullest_79 : decode cX4_searchFullest 79 = .ok (.iload_n 3, 1) := by decide +kernel
theorem dX4_searchFullest_80 : decode cX4_searchFullest 80 = .ok (.aload_n 0, 1) := by decide +kernel
theorem dX4_searchFullest_81 : decode cX4_searchFullest 81 = .ok (.getfield 60, 3) := by decide +kernel
theorem dX4_searchFullest_84 : decode cX4_searchFullest 84 = .ok (.if_icmp .le 13, 3) := by decide +kernel
theorem dX4_searchFullest_87 : decode cX4_searchFullest 87 = .ok (.aload_n 0, 1) := by decide +kernel
theorem dX4_searchFullest_88 : decode cX4_searchFullest 88 = .ok (.iload_n 3, 1) := by decide +kernel
theorem dX4_searchFullest_89 : decode cX4_searchFullest 89 = .ok (.putfield 60, 3) := by decide +kernel
theorem dX4_searchFullest_92 : decode cX4_searchFullest 92 = .ok (.aload_n 0, 1) := by decide +kernel
theorem dX4_searchFullest_93 : decode cX4_searchFullest 93 = .ok (.iload_n 2, 1) := by decide +kernel
theorem dX4_searchFullest_94 : decode cX4_searchFullest 94 = .ok (.putfield 57, 3) := by decide +kernel
theorem dX4_searchFullest_97 : decode cX4_searchFullest 97 = .ok (.iinc 2 1, 3) := by decide +kernel
theorem dX4_searchFullest_100 : decode cX4_searchFullest 100 = .ok (.goto (-39), 3) := by decide +kernel
theorem dX4_searchFullest_103 : decode cX4_searchFullest 103 = .ok (.return_, 1) := by decide +kernel
theorem dX4_meanIn_0 : decode cX4_meanIn 0 = .ok (.iconst 0, 1) := by decide +kernel
theorem dX4_meanIn_1 : decode cX4_meanIn 1 = .ok (.istore_n 3, 1) := by decide +kernel
theorem dX4_meanIn_2 : decode cX4_meanIn 2 = .ok (.iconst 0, 1) := by decide +kernel
theorem dX4_meanIn_3 : decode cX4_meanIn 3 = .ok (.istore 4, 2) := by decide +kernel
theorem dX4_meanIn_5 : decode cX4_meanIn 5 = .ok (.iload 4, 2) := by decide +kernel
theorem dX4_meanIn_7 : decode cX4_meanIn 7 = .ok (.aload_n 1, 1) := by decide +kernel
theorem dX4_meanIn_8 : decode cX4_meanIn 8 = .ok (.getfield 41, 3) := by decide +kernel
theorem dX4_meanIn_11 : decode cX4_meanIn 11 = .ok (.if_icmp .ge 50, 3) := by decide +kernel
theorem dX4_meanIn_14 : decode cX4_meanIn 14 = .ok (.aload_n 0, 1) := by decide +kernel
theorem dX4_meanIn_15 : decode cX4_meanIn 15 = .ok (.getfield 9, 3) := by decide +kernel
theorem dX4_meanIn_18 : decode cX4_meanIn 18 = .ok (.iload 4, 2) := by decide +kernel
theorem dX4_meanIn_20 : decode cX4_meanIn 20 = .ok (.iaload, 1) := by decide +kernel
theorem dX4_meanIn_21 : decode cX4_meanIn 21 = .ok (.ifCond .le 34, 3) := by decide +kernel
theorem dX4_meanIn_24 : decode cX4_meanIn 24 = .ok (.iload_n 3, 1) := by decide +kernel
theorem dX4_meanIn_25 : decode cX4_meanIn 25 = .ok (.aload_n 0, 1) := by decide +kernel
theorem dX4_meanIn_26 : decode cX4_meanIn 26 = .ok (.aload_n 1, 1) := by decide +kernel
theorem dX4_meanIn_27 : decode cX4_meanIn 27 = .ok (.aload_n 1, 1) := by decide +kernel
theorem dX4_meanIn_28 : decode cX4_meanIn 28 = .ok (.getfield 44, 3) := by decide +kernel
theorem dX4_meanIn_31 : decode cX4_meanIn 31 = .ok (.iload 4, 2) := by decide +kernel
theorem dX4_meanIn_33 : decode cX4_meanIn 33 = .ok (.aaload, 1) := by decide +kernel
theorem dX4_meanIn_34 : decode cX4_meanIn 34 = .ok (.getfield 48, 3) := by decide +kernel
theorem dX4_meanIn_37 : decode cX4_meanIn 37 = .ok (.iload_n 2, 1) := by decide +kernel
theorem dX4_meanIn_38 : decode cX4_meanIn 38 = .ok (.invokevirtual 37, 3) := by decide +kernel
theorem dX4_meanIn_41 : decode cX4_meanIn 41 = .ok (.sipush 27720, 3) := by decide +kernel
theorem dX4_meanIn_44 : decode cX4_meanIn 44 = .ok (.aload_n 0, 1) := by decide +kernel
theorem dX4_meanIn_45 : decode cX4_meanIn 45 = .ok (.getfield 9, 3) := by decide +kernel
theorem dX4_meanIn_48 : decode cX4_meanIn 48 = .ok (.iload 4, 2) := by decide +kernel
theorem dX4_meanIn_50 : decode cX4_meanIn 50 = .ok (.iaload, 1) := by decide +kernel
theorem dX4_meanIn_51 : decode cX4_meanIn 51 = .ok (.idiv, 1) := by decide +kernel
theorem dX4_meanIn_52 : decode cX4_meanIn 52 = .ok (.imul, 1) := by decide +kernel
theorem dX4_meanIn_53 : decode cX4_meanIn 53 = .ok (.iadd, 1) := by decide +kernel
theorem dX4_meanIn_54 : decode cX4_meanIn 54 = .ok (.istore_n 3, 1) := by decide +kernel
theorem dX4_meanIn_55 : decode cX4_meanIn 55 = .ok (.iinc 4 1, 3) := by decide +kernel
theorem dX4_meanIn_58 : decode cX4_meanIn 58 = .ok (.goto (-53), 3) := by decide +kernel
theorem dX4_meanIn_61 : decode cX4_meanIn 61 = .ok (.iload_n 3, 1) := by decide +kernel
theorem dX4_meanIn_62 : decode cX4_meanIn 62 = .ok (.ireturn, 1) := by decide +kernel
theorem dX5_init_0 : decode cX5_init 0 = .ok (.aload_n 0, 1) := by decide +kernel
theorem dX5_init_1 : decode cX5_init 1 = .ok (.invokespecial 3, 3) := by decide +kernel
theorem dX5_init_4 : decode cX5_init 4 = .ok (.aload_n 0, 1) := by decide +kernel
theorem dX5_init_5 : decode cX5_init 5 = .ok (.new 9, 3) := by decide +kernel
theorem dX5_init_8 : decode cX5_init 8 = .ok (.dup, 1) := by decide +kernel
theorem dX5_init_9 : decode cX5_init 9 = .ok (.invokespecial 11, 3) := by decide +kernel
theorem dX5_init_12 : decode cX5_init 12 = .ok (.putfield 12, 3) := by decide +kernel
theorem dX5_init_15 : decode cX5_init 15 = .ok (.aload_n 0, 1) := by decide +kernel
theorem dX5_init_16 : decode cX5_init 16 = .ok (.new 18, 3) := by decide +kernel
theorem dX5_init_19 : decode cX5_init 19 = .ok (.dup, 1) := by decide +kernel
theorem dX5_init_20 : decode cX5_init 20 = .ok (.invokespecial 20, 3) := by decide +kernel
theorem dX5_init_23 : decode cX5_init 23 = .ok (.putfield 21, 3) := by decide +kernel
theorem dX5_init_26 : decode cX5_init 26 = .ok (.aload_n 0, 1) := by decide +kernel
theorem dX5_init_27 : decode cX5_init 27 = .ok (.bipush 6, 2) := by decide +kernel
theorem dX5_init_29 : decode cX5_init 29 = .ok (.newarray .int, 2) := by decide +kernel
theorem dX5_init_31 : decode cX5_init 31 = .ok (.putfield 25, 3) := by decide +kernel
theorem dX5_init_34 : decode cX5_init 34 = .ok (.return_, 1) := by decide +kernel
theorem dX5_readAll_0 : decode cX5_readAll 0 = .ok (.aload_n 0, 1) := by decide +kernel
theorem dX5_readAll_1 : decode cX5_readAll 1 = .ok (.invokevirtual 29, 3) := by decide +kernel
theorem dX5_readAll_4 : decode cX5_readAll 4 = .ok (.iconst 0, 1) := by decide +kernel
theorem dX5_readAll_5 : decode cX5_readAll 5 = .ok (.istore_n 1, 1) := by decide +kernel
theorem dX5_readAll_6 : decode cX5_readAll 6 = .ok (.iload_n 1, 1) := by decide +kernel
theorem dX5_readAll_7 : decode cX5_readAll 7 = .ok (.sipush 160, 3) := by decide +kernel
theorem dX5_readAll_10 : decode cX5_readAll 10 = .ok (.if_icmp .gt 53, 3) := by decide +kernel
theorem dX5_readAll_13 : decode cX5_readAll 13 = .ok (.aload_n 0, 1) := by decide +kernel
theorem dX5_readAll_14 : decode cX5_readAll 14 = .ok (.getfield 12, 3) := by decide +kernel
theorem dX5_readAll_17 : decode cX5_readAll 17 = .ok (.invokevirtual 32, 3) := by decide +kernel
theorem dX5_readAll_20 : decode cX5_readAll 20 = .ok (.aload_n 0, 1) := by decide +kernel
theorem dX5_readAll_21 : decode cX5_readAll 21 = .ok (.getfield 12, 3) := by decide +kernel
theorem dX5_readAll_24 : decode cX5_readAll 24 = .ok (.invokevirtual 35, 3) := by decide +kernel
theorem dX5_readAll_27 : decode cX5_readAll 27 = .ok (.ifCond .eq 36, 3) := by decide +kernel
theorem dX5_readAll_30 : decode cX5_readAll 30 = .ok (.aload_n 0, 1) := by decide +kernel
theorem dX5_readAll_31 : decode cX5_readAll 31 = .ok (.getfield 12, 3) := by decide +kernel
theorem dX5_readAll_34 : decode cX5_readAll 34 = .ok (.getfield 39, 3) := by decide +kernel
theorem dX5_readAll_37 : decode cX5_readAll 37 = .ok (.ifCond .ne 6, 3) := by decide +kernel
theorem dX5_readAll_40 : decode cX5_readAll 40 = .ok (.goto 23, 3) := by decide +kernel
theorem dX5_readAll_43 : decode cX5_readAll 43 = .ok (.aload_n 0, 1) := by decide +kernel
theorem dX5_readAll_44 : decode cX5_readAll 44 = .ok (.invokevirtual 43, 3) := by decide +kernel
theorem dX5_readAll_47 : decode cX5_readAll 47 = .ok (.aload_n 0, 1) := by decide +kernel
theorem dX5_readAll_48 : decode cX5_readAll 48 = .ok (.dup, 1) := by decide +kernel
theorem dX5_readAll_49 : decode cX5_readAll 49 = .ok (.getfield 46, 3) := by decide +kernel
theorem dX5_readAll_52 : decode cX5_readAll 52 = .ok (.iconst 1, 1) := by decide +kernel
theorem dX5_readAll_53 : decode cX5_readAll 53 = .ok (.iadd, 1) := by decide +kernel
theorem dX5_readAll_54 : decode cX5_readAll 54 = .ok (.putfield 46, 3) := by decide +kernel
theorem dX5_readAll_57 : decode cX5_readAll 57 = .ok (.iinc 1 1, 3) := by decide +kernel
theorem dX5_readAll_60 : decode cX5_readAll 60 = .ok (.goto (-54), 3) := by decide +kernel
theorem dX5_readAll_63 : decode cX5_readAll 63 = .ok (.aload_n 0, 1) := by decide +kernel
theorem dX5_readAll_64 : decode cX5_readAll 64 = .ok (.invokevirtual 49, 3) := by decide +kernel
theorem dX5_readAll_67 : decode cX5_readAll 67 = .ok (.ifCond .ne 19, 3) := by decide +kernel
theorem dX5_readAll_70 : decode cX5_readAll 70 = .ok (.aload_n 0, 1) := by decide +kernel
theorem dX5_readAll_71 : decode cX5_readAll 71 = .ok (.getfield 12, 3) := by decide +kernel
theorem dX5_readAll_74 : decode cX5_readAll 74 = .ok (.aload_n 0, 1) := by decide +kernel
theorem dX5_readAll_75 : decode cX5_readAll 75 = .ok (.getfield 12, 3) := by decide +kernel
theorem dX5_readAll_78 : decode cX5_readAll 78 = .ok (.getfield 52, 3) := by decide +kernel
theorem dX5_readAll_81 : decode cX5_readAll 81 = .ok (.bipush 6, 2) := by decide +kernel
theorem dX5_readAll_83 : decode cX5_readAll 83 = .ok (.invokevirtual 55, 3) := by decide +kernel
theorem dX5_readAll_86 : decode cX5_readAll 86 = .ok (.aload_n 0, 1) := by decide +kernel
theorem dX5_readAll_87 : decode cX5_readAll 87 = .ok (.invokevirtual 59, 3) := by decide +kernel
theorem dX5_readAll_90 : decode cX5_readAll 90 = .ok (.return_, 1) := by decide +kernel
theorem dX5_startAnew_0 : decode cX5_startAnew 0 = .ok (.aload_n 0, 1) := by decide +kernel
theorem dX5_startAnew_1 : decode cX5_startAnew 1 = .ok (.getfield 12, 3) := by decide +kernel
theorem dX5_startAnew_4 : decode cX5_startAnew 4 = .ok (.invokevirtual 62, 3) := by decide +kernel
theorem dX5_startAnew_7 : decode cX5_startAnew 7 = .ok (.aload_n 0, 1) := by decide +kernel
theorem dX5_startAnew_8 : decode cX5_startAnew 8 = .ok (.getfield 21, 3) := by decide +kernel
theorem dX5_startAnew_11 : decode cX5_startAnew 11 = .ok (.invokevirtual 65, 3) := by decide +kernel
theorem dX5_startAnew_14 : decode cX5_startAnew 14 = .ok (.aload_n 0, 1) := by decide +kernel
theorem dX5_startAnew_15 : decode cX5_startAnew 15 = .ok (.getfield 25, 3) := by decide +kernel
theorem dX5_startAnew_18 : decode cX5_startAnew 18 = .ok (.bipush (-4), 2) := by decide +kernel
theorem dX5_startAnew_20 : decode cX5_startAnew 20 = .ok (.invokestatic 66, 3) := by decide +kernel
theorem dX5_startAnew_23 : decode cX5_startAnew 23 = .ok (.aload_n 0, 1) := by decide +kernel
theorem dX5_startAnew_24 : decode cX5_startAnew 24 = .ok (.iconst 0, 1) := by decide +kernel
theorem dX5_startAnew_25 : decode cX5_startAnew 25 = .ok (.putfield 46, 3) := by decide +kernel
theorem dX5_startAnew_28 : decode cX5_startAnew 28 = .ok (.aload_n 0, 1) := by decide +kernel
theorem dX5_startAnew_29 : decode cX5_startAnew 29 = .ok (.iconst 0, 1) := by decide +kernel
theorem dX5_startAnew_30 : decode cX5_startAnew 30 = .ok (.putfield 72, 3) := by decide +kernel
theorem dX5_startAnew_33 : decode cX5_startAnew 33 = .ok (.aload_n 0, 1) := by decide +kernel
theorem dX5_startAnew_34 : decode cX5_startAnew 34 = .ok (.iconst 0, 1) := by decide +kernel
theorem dX5_startAnew_35 : decode cX5_startAnew 35 = .ok (.putfield 75, 3) := by decide +kernel
theorem dX5_startAnew_38 : decode cX5_startAnew 38 = .ok (.aload_n 0, 1) := by decide +kernel
theorem dX5_startAnew_39 : decode cX5_startAnew 39 = .ok (.iconst 0, 1) := by decide +kernel
theorem dX5_startAnew_40 : decode cX5_startAnew 40 = .ok (.putfield 78, 3) := by decide +kernel
theorem dX5_startAnew_43 : decode cX5_startAnew 43 = .ok (.aload_n 0, 1) := by decide +kernel
theorem dX5_startAnew_44 : decode cX5_startAnew 44 = .ok (.bipush (-4), 2) := by decide +kernel
theorem dX5_startAnew_46 : decode cX5_startAnew 46 = .ok (.putfield 81, 3) := by decide +kernel
theorem dX5_startAnew_49 : decode cX5_startAnew 49 = .ok (.aload_n 0, 1) := by decide +kernel
theorem dX5_startAnew_50 : decode cX5_startAnew 50 = .ok (.iconst 0, 1) := by decide +kernel
theorem dX5_startAnew_51 : decode cX5_startAnew 51 = .ok (.putfield 84, 3) := by decide +kernel
theorem dX5_startAnew_54 : decode cX5_startAnew 54 = .ok (.return_, 1) := by decide +kernel
theorem dX5_allIsThere_0 : decode cX5_allIsThere 0 = .ok (.aload_n 0, 1) := by decide +kernel
theorem dX5_allIsThere_1 : decode cX5_allIsThere 1 = .ok (.getfield 21, 3) := by decide +kernel
theorem dX5_allIsThere_4 : decode cX5_allIsThere 4 = .ok (.getfield 88, 3) := by decide +kernel
theorem dX5_allIsThere_7 : decode cX5_allIsThere 7 = .ok (.aload_n 0, 1) := by decide +kernel
theorem dX5_allIsThere_8 : decode cX5_allIsThere 8 = .ok (.getfield 75, 3) := by decide +kernel
theorem dX5_allIsThere_11 : decode cX5_allIsThere 11 = .ok (.invokevirtual 92, 3) := by decide +kernel
theorem dX5_allIsThere_14 : decode cX5_allIsThere 14 = .ok (.ifCond .eq 38, 3) := by decide +kernel
theorem dX5_allIsThere_17 : decode cX5_allIsThere 17 = .ok (.aload_n 0, 1) := by decide +kernel
theorem dX5_allIsThere_18 : decode cX5_allIsThere 18 = .ok (.getfield 21, 3) := by decide +kernel
theorem dX5_allIsThere_21 : decode cX5_allIsThere 21 = .ok (.getfield 88, 3) := by decide +kernel
theorem dX5_allIsThere_24 : decode cX5_allIsThere 24 = .ok (.aload_n 0, 1) := by decide +kernel
theorem dX5_allIsThere_25 : decode cX5_allIsThere 25 = .ok (.getfield 78, 3) := by decide +kernel
theorem dX5_allIsThere_28 : decode cX5_allIsThere 28 = .ok (.invokevirtual 98, 3) := by decide +kernel
theorem dX5_allIsThere_31 : decode cX5_allIsThere 31 = .ok (.ifCond .eq 21, 3) := by decide +kernel
theorem dX5_allIsThere_34 : decode cX5_allIsThere 34 = .ok (.aload_n 0, 1) := by decide +kernel
theorem dX5_allIsThere_35 : decode cX5_allIsThere 35 = .ok (.getfield 81, 3) := by decide +kernel
theorem dX5_allIsThere_38 : decode cX5_allIsThere 38 = .ok (.aload_n 0, 1) := by decide +kernel
theorem dX5_allIsThere_39 : decode cX5_allIsThere 39 = .ok (.getfield 21, 3) := by decide +kernel
theorem dX5_allIsThere_42 : decode cX5_allIsThere 42 = .ok (.getfield 101, 3) := by decide +kernel
theorem dX5_allIsThere_45 : decode cX5_allIsThere 45 = .ok (.if_icmp .ge 7, 3) := by decide +kernel
theorem dX5_allIsThere_48 : decode cX5_allIsThere 48 = .ok (.iconst 1, 1) := by decide +kernel
theorem dX5_allIsThere_49 : decode cX5_allIsThere 49 = .ok (.goto 4, 3) := by decide +kernel
theorem dX5_allIsThere_52 : decode cX5_allIsThere 52 = .ok (.iconst 0, 1) := by decide +kernel
theorem dX5_allIsThere_53 : decode cX5_allIsThere 53 = .ok (.ireturn, 1) := by decide +kernel
theorem dX5_rememberCells_0 : decode cX5_rememberCells 0 = .ok (.iconst 0, 1) := by decide +kernel
theorem dX5_rememberCells_1 : decode cX5_rememberCells 1 = .ok (.istore_n 1, 1) := by decide +kernel
theorem dX5_rememberCells_2 : decode cX5_rememberCells 2 = .ok (.iload_n 1, 1) := by decide +kernel
theorem dX5_rememberCells_3 : decode cX5_rememberCells 3 = .ok (.aload_n 0, 1) := by decide +kernel
theorem dX5_rememberCells_4 : decode cX5_rememberCells 4 = .ok (.getfield 21, 3) := by decide +kernel
theorem dX5_rememberCells_7 : decode cX5_rememberCells 7 = .ok (.getfield 101, 3) := by decide +kernel
theorem dX5_rememberCells_10 : decode cX5_rememberCells 10 = .ok (.if_icmp .ge 27, 3) := by decide +kernel
theorem dX5_rememberCells_13 : decode cX5_rememberCells 13 = .ok (.aload_n 0, 1) := by decide +kernel
theorem dX5_rememberCells_14 : decode cX5_rememberCells 14 = .ok (.getfield 21, 3) := by decide +kernel
theorem dX5_rememberCells_17 : decode cX5_rememberCells 17 = .ok (.getfield 104, 3) := by decide +kernel
theorem dX5_rememberCells_20 : decode cX5_rememberCells 20 = .ok (.iload_n 1, 1) := by decide +kernel
theorem dX5_rememberCells_21 : decode cX5_rememberCells 21 = .ok (.aaload, 1) := by decide +kernel
theorem dX5_rememberCells_22 : decode cX5_rememberCells 22 = .ok (.aload_n 0, 1) := by decide +kernel
theorem dX5_rememberCells_23 : decode cX5_rememberCells 23 = .ok (.getfield 25, 3) := by decide +kernel
theorem dX5_rememberCells_26 : decode cX5_rememberCells 26 = .ok (.iload_n 1, 1) := by decide +kernel
theorem dX5_rememberCells_27 : decode cX5_rememberCells 27 = .ok (.iaload, 1) := by decide +kernel
theorem dX5_rememberCells_28 : decode cX5_rememberCells 28 = .ok (.putfield 108, 3) := by decide +kernel
theorem dX5_rememberCells_31 : decode cX5_rememberCells 31 = .ok (.iinc 1 1, 3) := by decide +kernel
theorem dX5_rememberCells_34 : decode cX5_rememberCells 34 = .ok (.goto (-32), 3) := by decide +kernel
theorem dX5_rememberCells_37 : decode cX5_rememberCells 37 = .ok (.return_, 1) := by decide +kernel
theorem dX5_readLine_0 : decode cX5_readLine 0 = .ok (.aload_n 0, 1) := by decide +kernel
theorem dX5_readLine_1 : decode cX5_readLine 1 = .ok (.getfield 12, 3) := by decide +kernel
theorem dX5_readLine_4 : decode cX5_readLine 4 = .ok (.ldc 112, 2) := by decide +kernel
theorem dX5_readLine_6 : decode cX5_readLine 6 = .ok (.invokevirtual 113, 3) := by decide +kernel
theorem dX5_readLine_9 : decode cX5_readLine 9 = .ok (.ifCond .eq 10, 3) := by decide +kernel
theorem dX5_readLine_12 : decode cX5_readLine 12 = .ok (.aload_n 0, 1) := by decide +kernel
theorem dX5_readLine_13 : decode cX5_readLine 13 = .ok (.invokevirtual 117, 3) := by decide +kernel
theorem dX5_readLine_16 : decode cX5_readLine 16 = .ok (.goto 108, 3) := by decide +kernel
theorem dX5_readLine_19 : decode cX5_readLine 19 = .ok (.aload_n 0, 1) := by decide +kernel
theorem dX5_readLine_20 : decode cX5_readLine 20 = .ok (.getfield 12, 3) := by decide +kernel
theorem dX5_readLine_23 : decode cX5_readLine 23 = .ok (.ldc 120, 2) := by decide +kernel
theorem dX5_readLine_25 : decode cX5_readLine 25 = .ok (.invokevirtual 113, 3) := by decide +kernel
theorem dX5_readLine_28 : decode cX5_readLine 28 = .ok (.ifCond .eq 10, 3) := by decide +kernel
theorem dX5_readLine_31 : decode cX5_readLine 31 = .ok (.aload_n 0, 1) := by decide +kernel
theorem dX5_readLine_32 : decode cX5_readLine 32 = .ok (.invokevirtual 122, 3) := by decide +kernel
theorem dX5_readLine_35 : decode cX5_readLine 35 = .ok (.goto 89, 3) := by decide +kernel
theorem dX5_readLine_38 : decode cX5_readLine 38 = .ok (.aload_n 0, 1) := by decide +kernel
theorem dX5_readLine_39 : decode cX5_readLine 39 = .ok (.getfield 12, 3) := by decide +kernel
theorem dX5_readLine_42 : decode cX5_readLine 42 = .ok (.ldc 125, 2) := by decide +kernel
theorem dX5_readLine_44 : decode cX5_readLine 44 = .ok (.invokevirtual 113, 3) := by decide +kernel
theorem dX5_readLine_47 : decode cX5_readLine 47 = .ok (.ifCond .eq 10, 3) := by decide +kernel
theorem dX5_readLine_50 : decode cX5_readLine 50 = .ok (.aload_n 0, 1) := by decide +kernel
theorem dX5_readLine_51 : decode cX5_readLine 51 = .ok (.invokevirtual 127, 3) := by decide +kernel
theorem dX5_readLine_54 : decode cX5_readLine 54 = .ok (.goto 70, 3) := by decide +kernel
theorem dX5_readLine_57 : decode cX5_readLine 57 = .ok (.aload_n 0, 1) := by decide +kernel
theorem dX5_readLine_58 : decode cX5_readLine 58 = .ok (.getfield 12, 3) := by decide +kernel
theorem dX5_readLine_61 : decode cX5_readLine 61 = .ok (.ldc 130, 2) := by decide +kernel
theorem dX5_readLine_63 : decode cX5_readLine 63 = .ok (.invokevirtual 113, 3) := by decide +kernel
theorem dX5_readLine_66 : decode cX5_readLine 66 = .ok (.ifCond .eq 11, 3) := by decide +kernel
theorem dX5_readLine_69 : decode cX5_readLine 69 = .ok (.aload_n 0, 1) := by decide +kernel
theorem dX5_readLine_70 : decode cX5_readLine 70 = .ok (.iconst 1, 1) := by decide +kernel
theorem dX5_readLine_71 : decode cX5_readLine 71 = .ok (.invokevirtual 132, 3) := by decide +kernel
theorem dX5_readLine_74 : decode cX5_readLine 74 = .ok (.goto 50, 3) := by decide +kernel
theorem dX5_readLine_77 : decode cX5_readLine 77 = .ok (.aload_n 0, 1) := by decide +kernel
theorem dX5_readLine_78 : decode cX5_readLine 78 = .ok (.getfield 12, 3) := by decide +kernel
theorem dX5_readLine_81 : decode cX5_readLine 81 = .ok (.ldc 136, 2) := by decide +kernel
theorem dX5_readLine_83 : decode cX5_readLine 83 = .ok (.invokevirtual 113, 3) := by decide +kernel
theorem dX5_readLine_86 : decode cX5_readLine 86 = .ok (.ifCond .eq 11, 3) := by decide +kernel
theorem dX5_readLine_89 : decode cX5_readLine 89 = .ok (.aload_n 0, 1) := by decide +kernel
theorem dX5_readLine_90 : decode cX5_readLine 90 = .ok (.iconst 0, 1) := by decide +kernel
theorem dX5_readLine_91 : decode cX5_readLine 91 = .ok (.invokevirtual 132, 3) := by decide +kernel
theorem dX5_readLine_94 : decode cX5_readLine 94 = .ok (.goto 30, 3) := by decide +kernel
theorem dX5_readLine_97 : decode cX5_readLine 97 = .ok (.aload_n 0, 1) := by decide +kernel
theorem dX5_readLine_98 : decode cX5_readLine 98 = .ok (.getfield 12, 3) := by decide +kernel
theorem dX5_readLine_101 : decode cX5_readLine 101 = .ok (.ldc 138, 2) := by decide +kernel
theorem dX5_readLine_103 : decode cX5_readLine 103 = .ok (.invokevirtual 113, 3) := by decide +kernel
theorem dX5_readLine_106 : decode cX5_readLine 106 = .ok (.ifCond .eq 10, 3) := by decide +kernel
theorem dX5_readLine_109 : decode cX5_readLine 109 = .ok (.aload_n 0, 1) := by decide +kernel
theorem dX5_readLine_110 : decode cX5_readLine 110 = .ok (.invokevirtual 140, 3) := by decide +kernel
theorem dX5_readLine_113 : decode cX5_readLine 113 = .ok (.goto 11, 3) := by decide +kernel
theorem dX5_readLine_116 : decode cX5_readLine 116 = .ok (.aload_n 0, 1) := by decide +kernel
theorem dX5_readLine_117 : decode cX5_readLine 117 = .ok (.getfield 12, 3) := by decide +kernel
theorem dX5_readLine_120 : decode cX5_readLine 120 = .ok (.iconst 2, 1) := by decide +kernel
theorem dX5_readLine_121 : decode cX5_readLine 121 = .ok (.invokevirtual 143, 3) := by decide +kernel
theorem dX5_readLine_124 : decode cX5_readLine 124 = .ok (.return_, 1) := by decide +kernel
theorem dX5_readFire_0 : decode cX5_readFire 0 = .ok (.aload_n 0, 1) := by decide +kernel
theorem dX5_readFire_1 : decode cX5_readFire 1 = .ok (.getfield 84, 3) := by decide +kernel
theorem dX5_readFire_4 : decode cX5_readFire 4 = .ok (.ifCond .eq 11, 3) := by decide +kernel
theorem dX5_readFire_7 : decode cX5_readFire 7 = .ok (.aload_n 0, 1) := by decide +kernel
theorem dX5_readFire_8 : decode cX5_readFire 8 = .ok (.getfield 12, 3) := by decide +kernel
theorem dX5_readFire_11 : decode cX5_readFire 11 = .ok (.iconst 4, 1) := by decide +kernel
theorem dX5_readFire_12 : decode cX5_readFire 12 = .ok (.invokevirtual 143, 3) := by decide +kernel
theorem dX5_readFire_15 : decode cX5_readFire 15 = .ok (.aload_n 0, 1) := by decide +kernel
theorem dX5_readFire_16 : decode cX5_readFire 16 = .ok (.iconst 1, 1) := by decide +kernel
theorem dX5_readFire_17 : decode cX5_readFire 17 = .ok (.putfield 84, 3) := by decide +kernel
theorem dX5_readFire_20 : decode cX5_readFire 20 = .ok (.aload_n 0, 1) := by decide +kernel
theorem dX5_readFire_21 : decode cX5_readFire 21 = .ok (.getfield 21, 3) := by decide +kernel
theorem dX5_readFire_24 : decode cX5_readFire 24 = .ok (.getfield 88, 3) := by decide +kernel
theorem dX5_readFire_27 : decode cX5_readFire 27 = .ok (.aload_n 0, 1) := by decide +kernel
theorem dX5_readFire_28 : decode cX5_readFire 28 = .ok (.getfield 12, 3) := by decide +kernel
theorem dX5_readFire_31 : decode cX5_readFire 31 = .ok (.iconst 3, 1) := by decide +kernel
theorem dX5_readFire_32 : decode cX5_readFire 32 = .ok (.bipush 8, 2) := by decide +kernel
theorem dX5_readFire_34 : decode cX5_readFire 34 = .ok (.invokevirtual 147, 3) := by decide +kernel
theorem dX5_readFire_37 : decode cX5_readFire 37 = .ok (.putfield 151, 3) := by decide +kernel
theorem dX5_readFire_40 : decode cX5_readFire 40 = .ok (.aload_n 0, 1) := by decide +kernel
theorem dX5_readFire_41 : decode cX5_readFire 41 = .ok (.getfield 21, 3) := by decide +kernel
theorem dX5_readFire_44 : decode cX5_readFire 44 = .ok (.getfield 88, 3) := by decide +kernel
theorem dX5_readFire_47 : decode cX5_readFire 47 = .ok (.aload_n 0, 1) := by decide +kernel
theorem dX5_readFire_48 : decode cX5_readFire 48 = .ok (.getfield 12, 3) := by decide +kernel
theorem dX5_readFire_51 : decode cX5_readFire 51 = .ok (.iconst 0, 1) := by decide +kernel
theorem dX5_readFire_52 : decode cX5_readFire 52 = .ok (.bipush 9, 2) := by decide +kernel
theorem dX5_readFire_54 : decode cX5_readFire 54 = .ok (.invokevirtual 147, 3) := by decide +kernel
theorem dX5_readFire_57 : decode cX5_readFire 57 = .ok (.putfield 154, 3) := by decide +kernel
theorem dX5_readFire_60 : decode cX5_readFire 60 = .ok (.aload_n 0, 1) := by decide +kernel
theorem dX5_readFire_61 : decode cX5_readFire 61 = .ok (.getfield 21, 3) := by decide +kernel
theorem dX5_readFire_64 : decode cX5_readFire 64 = .ok (.getfield 88, 3) := by decide +kernel
theorem dX5_readFire_67 : decode cX5_readFire 67 = .ok (.aload_n 0, 1) := by decide +kernel
theorem dX5_readFire_68 : decode cX5_readFire 68 = .ok (.getfield 12, 3) := by decide +kernel
theorem dX5_readFire_71 : decode cX5_readFire 71 = .ok (.iconst 0, 1) := by decide +kernel
theorem dX5_readFire_72 : decode cX5_readFire 72 = .ok (.bipush 9, 2) := by decide +kernel
theorem dX5_readFire_74 : decode cX5_readFire 74 = .ok (.invokevirtual 147, 3) := by decide +kernel
theorem dX5_readFire_77 : decode cX5_readFire 77 = .ok (.putfield 157, 3) := by decide +kernel
theorem dX5_readFire_80 : decode cX5_readFire 80 = .ok (.aload_n 0, 1) := by decide +kernel
theorem dX5_readFire_81 : decode cX5_readFire 81 = .ok (.getfield 12, 3) := by decide +kernel
theorem dX5_readFire_84 : decode cX5_readFire 84 = .ok (.invokevirtual 160, 3) := by decide +kernel
theorem dX5_readFire_87 : decode cX5_readFire 87 = .ok (.return_, 1) := by decide +kernel
theorem dX5_readHeat_0 : decode cX5_readHeat 0 = .ok (.aload_n 0, 1) := by decide +kernel
theorem dX5_readHeat_1 : decode cX5_readHeat 1 = .ok (.getfield 12, 3) := by decide +kernel
theorem dX5_readHeat_4 : decode cX5_readHeat 4 = .ok (.iconst 0, 1) := by decide +kernel
theorem dX5_readHeat_5 : decode cX5_readHeat 5 = .ok (.bipush 7, 2) := by decide +kernel
theorem dX5_readHeat_7 : decode cX5_readHeat 7 = .ok (.invokevirtual 147, 3) := by decide +kernel
theorem dX5_readHeat_10 : decode cX5_readHeat 10 = .ok (.istore_n 1, 1) := by decide +kernel
theorem dX5_readHeat_11 : decode cX5_readHeat 11 = .ok (.aload_n 0, 1) := by decide +kernel
theorem dX5_readHeat_12 : decode cX5_readHeat 12 = .ok (.aload_n 0, 1) := by decide +kernel
theorem dX5_readHeat_13 : decode cX5_readHeat 13 = .ok (.getfield 75, 3) := by decide +kernel
theorem dX5_readHeat_16 : decode cX5_readHeat 16 = .ok (.iload_n 1, 1) := by decide +kernel
theorem dX5_readHeat_17 : decode cX5_readHeat 17 = .ok (.invokestatic 163, 3) := by decide +kernel
theorem dX5_readHeat_20 : decode cX5_readHeat 20 = .ok (.putfield 75, 3) := by decide +kernel
theorem dX5_readHeat_23 : decode cX5_readHeat 23 = .ok (.aload_n 0, 1) := by decide +kernel
theorem dX5_readHeat_24 : decode cX5_readHeat 24 = .ok (.getfield 72, 3) := by decide +kernel
theorem dX5_readHeat_27 : decode cX5_readHeat 27 = .ok (.iconst 1, 1) := by decide +kernel
theorem dX5_readHeat_28 : decode cX5_readHeat 28 = .ok (.iload_n 1, 1) := by decide +kernel
theorem dX5_readHeat_29 : decode cX5_readHeat 29 = .ok (.ishl, 1) := by decide +kernel
theorem dX5_readHeat_30 : decode cX5_readHeat 30 = .ok (.iand, 1) := by decide +kernel
theorem dX5_readHeat_31 : decode cX5_readHeat 31 = .ok (.ifCond .eq 11, 3) := by decide +kernel
theorem dX5_readHeat_34 : decode cX5_readHeat 34 = .ok (.aload_n 0, 1) := by decide +kernel
theorem dX5_readHeat_35 : decode cX5_readHeat 35 = .ok (.getfield 12, 3) := by decide +kernel
theorem dX5_readHeat_38 : decode cX5_readHeat 38 = .ok (.iconst 4, 1) := by decide +kernel
theorem dX5_readHeat_39 : decode cX5_readHeat 39 = .ok (.invokevirtual 143, 3) := by decide +kernel
theorem dX5_readHeat_42 : decode cX5_readHeat 42 = .ok (.aload_n 0, 1) := by decide +kernel
theorem dX5_readHeat_43 : decode cX5_readHeat 43 = .ok (.dup, 1) := by decide +kernel
theorem dX5_readHeat_44 : decode cX5_readHeat 44 = .ok (.getfield 72, 3) := by decide +kernel
theorem dX5_readHeat_47 : decode cX5_readHeat 47 = .ok (.iconst 1, 1) := by decide +kernel
theorem dX5_readHeat_48 : decode cX5_readHeat 48 = .ok (.iload_n 1, 1) := by decide +kernel
theorem dX5_readHeat_49 : decode cX5_readHeat 49 = .ok (.ishl, 1) := by decide +kernel
theorem dX5_readHeat_50 : decode cX5_readHeat 50 = .ok (.ior, 1) := by decide +kernel
theorem dX5_readHeat_51 : decode cX5_readHeat 51 = .ok (.putfield 72, 3) := by decide +kernel
theorem dX5_readHeat_54 : decode cX5_readHeat 54 = .ok (.iconst 0, 1) := by decide +kernel
theorem dX5_readHeat_55 : decode cX5_readHeat 55 = .ok (.istore_n 2, 1) := by decide +kernel
theorem dX5_readHeat_56 : decode cX5_readHeat 56 = .ok (.iload_n 2, 1) := by decide +kernel
theorem dX5_readHeat_57 : decode cX5_readHeat 57 = .ok (.iconst 3, 1) := by decide +kernel
theorem dX5_readHeat_58 : decode cX5_readHeat 58 = .ok (.if_icmp .ge 35, 3) := by decide +kernel
theorem dX5_readHeat_61 : decode cX5_readHeat 61 = .ok (.aload_n 0, 1) := by decide +kernel
theorem dX5_readHeat_62 : decode cX5_readHeat 62 = .ok (.getfield 21, 3) := by decide +kernel
theorem dX5_readHeat_65 : decode cX5_readHeat 65 = .ok (.getfield 88, 3) := by decide +kernel
theorem dX5_readHeat_68 : decode cX5_readHeat 68 = .ok (.getfield 168, 3) := by decide +kernel
theorem dX5_readHeat_71 : decode cX5_readHeat 71 = .ok (.iconst 3, 1) := by decide +kernel
theorem dX5_readHeat_72 : decode cX5_readHeat 72 = .ok (.iload_n 1, 1) := by decide +kernel
theorem dX5_readHeat_73 : decode cX5_readHeat 73 = .ok (.imul, 1) := by decide +kernel
theorem dX5_readHeat_74 : decode cX5_readHeat 74 = .ok (.iload_n 2, 1) := by decide +kernel
theorem dX5_readHeat_75 : decode cX5_readHeat 75 = .ok (.iadd, 1) := by decide +kernel
theorem dX5_readHeat_76 : decode cX5_readHeat 76 = .ok (.aload_n 0, 1) := by decide +kernel
theorem dX5_readHeat_77 : decode cX5_readHeat 77 = .ok (.getfield 12, 3) := by decide +kernel
theorem dX5_readHeat_80 : decode cX5_readHeat 80 = .ok (.iconst 0, 1) := by decide +kernel
theorem dX5_readHeat_81 : decode cX5_readHeat 81 = .ok (.bipush 99, 2) := by decide +kernel
theorem dX5_readHeat_83 : decode cX5_readHeat 83 = .ok (.invokevirtual 147, 3) := by decide +kernel
theorem dX5_readHeat_86 : decode cX5_readHeat 86 = .ok (.iastore, 1) := by decide +kernel
theorem dX5_readHeat_87 : decode cX5_readHeat 87 = .ok (.iinc 2 1, 3) := by decide +kernel
theorem dX5_readHeat_90 : decode cX5_readHeat 90 = .ok (.goto (-34), 3) := by decide +kernel
theorem dX5_readHeat_93 : decode cX5_readHeat 93 = .ok (.aload_n 0, 1) := by decide +kernel
theorem dX5_readHeat_94 : decode cX5_readHeat 94 = .ok (.getfield 12, 3) := by decide +kernel
theorem dX5_readHeat_97 : decode cX5_readHeat 97 = .ok (.invokevirtual 160, 3) := by decide +kernel
theorem dX5_readHeat_100 : decode cX5_readHeat 100 = .ok (.return_, 1) := by decide +kernel
theorem dX5_readWood_0 : decode cX5_readWood 0 = .ok (.aload_n 0, 1) := by decide +kernel
theorem dX5_readWood_1 : decode cX5_readWood 1 = .ok (.getfield 21, 3) := by decide +kernel
theorem dX5_readWood_4 : decode cX5_readWood 4 = .ok (.getfield 88, 3) := by decide +kernel
theorem dX5_readWood_7 : decode cX5_readWood 7 = .ok (.getfield 171, 3) := by decide +kernel
theorem dX5_readWood_10 : decode cX5_readWood 10 = .ok (.bipush 6, 2) := by decide +kernel
theorem dX5_readWood_12 : decode cX5_readWood 12 = .ok (.if_icmp .lt 11, 3) := by decide +kernel
theorem dX5_readWood_15 : decode cX5_readWood 15 = .ok (.aload_n 0, 1) := by decide +kernel
theorem dX5_readWood_16 : decode cX5_readWood 16 = .ok (.getfield 12, 3) := by decide +kernel
theorem dX5_readWood_19 : decode cX5_readWood 19 = .ok (.iconst 5, 1) := by decide +kernel
theorem dX5_readWood_20 : decode cX5_readWood 20 = .ok (.invokevirtual 143, 3) := by decide +kernel
theorem dX5_readWood_23 : decode cX5_readWood 23 = .ok (.aload_n 0, 1) := by decide +kernel
theorem dX5_readWood_24 : decode cX5_readWood 24 = .ok (.getfield 12, 3) := by decide +kernel
theorem dX5_readWood_27 : decode cX5_readWood 27 = .ok (.iconst 0, 1) := by decide +kernel
theorem dX5_readWood_28 : decode cX5_readWood 28 = .ok (.bipush 7, 2) := by decide +kernel
theorem dX5_readWood_30 : decode cX5_readWood 30 = .ok (.invokevirtual 147, 3) := by decide +kernel
theorem dX5_readWood_33 : decode cX5_readWood 33 = .ok (.istore_n 1, 1) := by decide +kernel
theorem dX5_readWood_34 : decode cX5_readWood 34 = .ok (.aload_n 0, 1) := by decide +kernel
theorem dX5_readWood_35 : decode cX5_readWood 35 = .ok (.aload_n 0, 1) := by decide +kernel
theorem dX5_readWood_36 : decode cX5_readWood 36 = .ok (.getfield 75, 3) := by decide +kernel
theorem dX5_readWood_39 : decode cX5_readWood 39 = .ok (.iload_n 1, 1) := by decide +kernel
theorem dX5_readWood_40 : decode cX5_readWood 40 = .ok (.invokestatic 163, 3) := by decide +kernel
theorem dX5_readWood_43 : decode cX5_readWood 43 = .ok (.putfield 75, 3) := by decide +kernel
theorem dX5_readWood_46 : decode cX5_readWood 46 = .ok (.aload_n 0, 1) := by decide +kernel
theorem dX5_readWood_47 : decode cX5_readWood 47 = .ok (.getfield 12, 3) := by decide +kernel
theorem dX5_readWood_50 : decode cX5_readWood 50 = .ok (.iconst 1, 1) := by decide +kernel
theorem dX5_readWood_51 : decode cX5_readWood 51 = .ok (.bipush 99, 2) := by decide +kernel
theorem dX5_readWood_53 : decode cX5_readWood 53 = .ok (.invokevirtual 147, 3) := by decide +kernel
theorem dX5_readWood_56 : decode cX5_readWood 56 = .ok (.istore_n 2, 1) := by decide +kernel
theorem dX5_readWood_57 : decode cX5_readWood 57 = .ok (.aload_n 0, 1) := by decide +kernel
theorem dX5_readWood_58 : decode cX5_readWood 58 = .ok (.getfield 12, 3) := by decide +kernel
theorem dX5_readWood_61 : decode cX5_readWood 61 = .ok (.iconst 1, 1) := by decide +kernel
theorem dX5_readWood_62 : decode cX5_readWood 62 = .ok (.bipush 9, 2) := by decide +kernel
theorem dX5_readWood_64 : decode cX5_readWood 64 = .ok (.invokevirtual 147, 3) := by decide +kernel
theorem dX5_readWood_67 : decode cX5_readWood 67 = .ok (.istore_n 3, 1) := by decide +kernel
theorem dX5_readWood_68 : decode cX5_readWood 68 = .ok (.aload_n 0, 1) := by decide +kernel
theorem dX5_readWood_69 : decode cX5_readWood 69 = .ok (.getfield 12, 3) := by decide +kernel
theorem dX5_readWood_72 : decode cX5_readWood 72 = .ok (.invokevirtual 160, 3) := by decide +kernel
theorem dX5_readWood_75 : decode cX5_readWood 75 = .ok (.aload_n 0, 1) := by decide +kernel
theorem dX5_readWood_76 : decode cX5_readWood 76 = .ok (.getfield 21, 3) := by decide +kernel
theorem dX5_readWood_79 : decode cX5_readWood 79 = .ok (.getfield 88, 3) := by decide +kernel
theorem dX5_readWood_82 : decode cX5_readWood 82 = .ok (.iload_n 1, 1) := by decide +kernel
theorem dX5_readWood_83 : decode cX5_readWood 83 = .ok (.iload_n 2, 1) := by decide +kernel
theorem dX5_readWood_84 : decode cX5_readWood 84 = .ok (.iload_n 3, 1) := by decide +kernel
theorem dX5_readWood_85 : decode cX5_readWood 85 = .ok (.invokevirtual 174, 3) := by decide +kernel
theorem dX5_readWood_88 : decode cX5_readWood 88 = .ok (.pop, 1) := by decide +kernel
theorem dX5_readWood_89 : decode cX5_readWood 89 = .ok (.return_, 1) := by decide +kernel
theorem dX5_readSpud_0 : decode cX5_readSpud 0 = .ok (.aload_n 0, 1) := by decide +kernel
theorem dX5_readSpud_1 : decode cX5_readSpud 1 = .ok (.getfield 21, 3) := by decide +kernel
theorem dX5_readSpud_4 : decode cX5_readSpud 4 = .ok (.getfield 101, 3) := by decide +kernel
theorem dX5_readSpud_7 : decode cX5_readSpud 7 = .ok (.bipush 6, 2) := by decide +kernel
theorem dX5_readSpud_9 : decode cX5_readSpud 9 = .ok (.if_icmp .lt 11, 3) := by decide +kernel
theorem dX5_readSpud_12 : decode cX5_readSpud 12 = .ok (.aload_n 0, 1) := by decide +kernel
theorem dX5_readSpud_13 : decode cX5_readSpud 13 = .ok (.getfield 12, 3) := by decide +kernel
theorem dX5_readSpud_16 : decode cX5_readSpud 16 = .ok (.iconst 5, 1) := by decide +kernel
theorem dX5_readSpud_17 : decode cX5_readSpud 17 = .ok (.invokevirtual 143, 3) := by decide +kernel
theorem dX5_readSpud_20 : decode cX5_readSpud 20 = .ok (.aload_n 0, 1) := by decide +kernel
theorem dX5_readSpud_21 : decode cX5_readSpud 21 = .ok (.getfield 12, 3) := by decide +kernel
theorem dX5_readSpud_24 : decode cX5_readSpud 24 = .ok (.iconst 1, 1) := by decide +kernel
theorem dX5_readSpud_25 : decode cX5_readSpud 25 = .ok (.bipush 9, 2) := by decide +kernel
theorem dX5_readSpud_27 : decode cX5_readSpud 27 = .ok (.invokevirtual 147, 3) := by decide +kernel
theorem dX5_readSpud_30 : decode cX5_readSpud 30 = .ok (.istore_n 2, 1) := by decide +kernel
theorem dX5_readSpud_31 : decode cX5_readSpud 31 = .ok (.aload_n 0, 1) := by decide +kernel
theorem dX5_readSpud_32 : decode cX5_readSpud 32 = .ok (.getfield 12, 3) := by decide +kernel
theorem dX5_readSpud_35 : decode cX5_readSpud 35 = .ok (.invokevirtual 178, 3) := by decide +kernel
theorem dX5_readSpud_38 : decode cX5_readSpud 38 = .ok (.istore_n 3, 1) := by decide +kernel
theorem dX5_readSpud_39 : decode cX5_readSpud 39 = .ok (.iload_n 1, 1) := by decide +kernel
theorem dX5_readSpud_40 : decode cX5_readSpud 40 = .ok (.ifCond .eq 16, 3) := by decide +kernel
theorem dX5_readSpud_43 : decode cX5_readSpud 43 = .ok (.aload_n 0, 1) := by decide +kernel
theorem dX5_readSpud_44 : decode cX5_readSpud 44 = .ok (.getfield 12, 3) := by decide +kernel
theorem dX5_readSpud_47 : decode cX5_readSpud 47 = .ok (.iconst 0, 1) := by decide +kernel
theorem dX5_readSpud_48 : decode cX5_readSpud 48 = .ok (.bipush 23, 2) := by decide +kernel
theorem dX5_readSpud_50 : decode cX5_readSpud 50 = .ok (.invokevirtual 147, 3) := by decide +kernel
theorem dX5_readSpud_53 : decode cX5_readSpud 53 = .ok (.goto 5, 3) := by decide +kernel
theorem dX5_readSpud_56 : decode cX5_readSpud 56 = .ok (.bipush (-4), 2) := by decide +kernel
theorem dX5_readSpud_58 : decode cX5_readSpud 58 = .ok (.istore 4, 2) := by decide +kernel
theorem dX5_readSpud_60 : decode cX5_readSpud 60 = .ok (.iload_n 1, 1) := by decide +kernel
theorem dX5_readSpud_61 : decode cX5_readSpud 61 = .ok (.ifCond .eq 25, 3) := by decide +kernel
theorem dX5_readSpud_64 : decode cX5_readSpud 64 = .ok (.aload_n 0, 1) := by decide +kernel
theorem dX5_readSpud_65 : decode cX5_readSpud 65 = .ok (.getfield 21, 3) := by decide +kernel
theorem dX5_readSpud_68 : decode cX5_readSpud 68 = .ok (.iload 4, 2) := by decide +kernel
theorem dX5_readSpud_70 : decode cX5_readSpud 70 = .ok (.invokevirtual 182, 3) := by decide +kernel
theorem dX5_readSpud_73 : decode cX5_readSpud 73 = .ok (.bipush (-4), 2) := by decide +kernel
theorem dX5_readSpud_75 : decode cX5_readSpud 75 = .ok (.if_icmp .eq 11, 3) := by decide +kernel
theorem dX5_readSpud_78 : decode cX5_readSpud 78 = .ok (.aload_n 0, 1) := by decide +kernel
theorem dX5_readSpud_79 : decode cX5_readSpud 79 = .ok (.getfield 12, 3) := by decide +kernel
theorem dX5_readSpud_82 : decode cX5_readSpud 82 = .ok (.iconst 4, 1) := by decide +kernel
theorem dX5_readSpud_83 : decode cX5_readSpud 83 = .ok (.invokevirtual 143, 3) := by decide +kernel
theorem dX5_readSpud_86 : decode cX5_readSpud 86 = .ok (.aload_n 0, 1) := by decide +kernel
theorem dX5_readSpud_87 : decode cX5_readSpud 87 = .ok (.aload_n 0, 1) := by decide +kernel
theorem dX5_readSpud_88 : decode cX5_readSpud 88 = .ok (.getfield 78, 3) := by decide +kernel
theorem dX5_readSpud_91 : decode cX5_readSpud 91 = .ok (.iload 4, 2) := by decide +kernel
theorem dX5_readSpud_93 : decode cX5_readSpud 93 = .ok (.invokestatic 163, 3) := by decide +kernel
theorem dX5_readSpud_96 : decode cX5_readSpud 96 = .ok (.putfield 78, 3) := by decide +kernel
theorem dX5_readSpud_99 : decode cX5_readSpud 99 = .ok (.aload_n 0, 1) := by decide +kernel
theorem dX5_readSpud_100 : decode cX5_readSpud 100 = .ok (.getfield 12, 3) := by decide +kernel
theorem dX5_readSpud_103 : decode cX5_readSpud 103 = .ok (.invokevirtual 160, 3) := by decide +kernel
theorem dX5_readSpud_106 : decode cX5_readSpud 106 = .ok (.aload_n 0, 1) := by decide +kernel
theorem dX5_readSpud_107 : decode cX5_readSpud 107 = .ok (.getfield 12, 3) := by decide +kernel
theorem dX5_readSpud_110 : decode cX5_readSpud 110 = .ok (.invokevirtual 35, 3) := by decide +kernel
theorem dX5_readSpud_113 : decode cX5_readSpud 113 = .ok (.ifCond .eq 37, 3) := by decide +kernel
theorem dX5_readSpud_116 : decode cX5_readSpud 116 = .ok (.aload_n 0, 1) := by decide +kernel
theorem dX5_readSpud_117 : decode cX5_readSpud 117 = .ok (.getfield 21, 3) := by decide +kernel
theorem dX5_readSpud_120 : decode cX5_readSpud 120 = .ok (.iload_n 2, 1) := by decide +kernel
theorem dX5_readSpud_121 : decode cX5_readSpud 121 = .ok (.iload_n 3, 1) := by decide +kernel
theorem dX5_readSpud_122 : decode cX5_readSpud 122 = .ok (.invokevirtual 186, 3) := by decide +kernel
theorem dX5_readSpud_125 : decode cX5_readSpud 125 = .ok (.ifCond .eq 25, 3) := by decide +kernel
theorem dX5_readSpud_128 : decode cX5_readSpud 128 = .ok (.aload_n 0, 1) := by decide +kernel
theorem dX5_readSpud_129 : decode cX5_readSpud 129 = .ok (.getfield 21, 3) := by decide +kernel
theorem dX5_readSpud_132 : decode cX5_readSpud 132 = .ok (.getfield 104, 3) := by decide +kernel
theorem dX5_readSpud_135 : decode cX5_readSpud 135 = .ok (.aload_n 0, 1) := by decide +kernel
theorem dX5_readSpud_136 : decode cX5_readSpud 136 = .ok (.getfield 21, 3) := by decide +kernel
theorem dX5_readSpud_139 : decode cX5_readSpud 139 = .ok (.getfield 101, 3) := by decide +kernel
theorem dX5_readSpud_142 : decode cX5_readSpud 142 = .ok (.iconst 1, 1) := by decide +kernel
theorem dX5_readSpud_143 : decode cX5_readSpud 143 = .ok (.isub, 1) := by decide +kernel
theorem dX5_readSpud_144 : decode cX5_readSpud 144 = .ok (.aaload, 1) := by decide +kernel
theorem dX5_readSpud_145 : decode cX5_readSpud 145 = .ok (.iload 4, 2) := by decide +kernel
theorem dX5_readSpud_147 : decode cX5_readSpud 147 = .ok (.putfield 190, 3) := by decide +kernel
theorem dX5_readSpud_150 : decode cX5_readSpud 150 = .ok (.return_, 1) := by decide +kernel
theorem dX5_readMemo_0 : decode cX5_readMemo 0 = .ok (.aload_n 0, 1) := by decide +kernel
theorem dX5_readMemo_1 : decode cX5_readMemo 1 = .ok (.getfield 12, 3) := by decide +kernel
theorem dX5_readMemo_4 : decode cX5_readMemo 4 = .ok (.iconst 0, 1) := by decide +kernel
theorem dX5_readMemo_5 : decode cX5_readMemo 5 = .ok (.iconst 5, 1) := by decide +kernel
theorem dX5_readMemo_6 : decode cX5_readMemo 6 = .ok (.invokevirtual 147, 3) := by decide +kernel
theorem dX5_readMemo_9 : decode cX5_readMemo 9 = .ok (.istore_n 1, 1) := by decide +kernel
theorem dX5_readMemo_10 : decode cX5_readMemo 10 = .ok (.aload_n 0, 1) := by decide +kernel
theorem dX5_readMemo_11 : decode cX5_readMemo 11 = .ok (.getfield 25, 3) := by decide +kernel
theorem dX5_readMemo_14 : decode cX5_readMemo 14 = .ok (.iload_n 1, 1) := by decide +kernel
theorem dX5_readMemo_15 : decode cX5_readMemo 15 = .ok (.iaload, 1) := by decide +kernel
theorem dX5_readMemo_16 : decode cX5_readMemo 16 = .ok (.bipush (-4), 2) := by decide +kernel
theorem dX5_readMemo_18 : decode cX5_readMemo 18 = .ok (.if_icmp .eq 11, 3) := by decide +kernel
theorem dX5_readMemo_21 : decode cX5_readMemo 21 = .ok (.aload_n 0, 1) := by decide +kernel
theorem dX5_readMemo_22 : decode cX5_readMemo 22 = .ok (.getfield 12, 3) := by decide +kernel
theorem dX5_readMemo_25 : decode cX5_readMemo 25 = .ok (.iconst 4, 1) := by decide +kernel
theorem dX5_readMemo_26 : decode cX5_readMemo 26 = .ok (.invokevirtual 143, 3) := by decide +kernel
theorem dX5_readMemo_29 : decode cX5_readMemo 29 = .ok (.aload_n 0, 1) := by decide +kernel
theorem dX5_readMemo_30 : decode cX5_readMemo 30 = .ok (.aload_n 0, 1) := by decide +kernel
theorem dX5_readMemo_31 : decode cX5_readMemo 31 = .ok (.getfield 81, 3) := by decide +kernel
theorem dX5_readMemo_34 : decode cX5_readMemo 34 = .ok (.iload_n 1, 1) := by decide +kernel
theorem dX5_readMemo_35 : decode cX5_readMemo 35 = .ok (.invokestatic 163, 3) := by decide +kernel
theorem dX5_readMemo_38 : decode cX5_readMemo 38 = .ok (.putfield 81, 3) := by decide +kernel
theorem dX5_readMemo_41 : decode cX5_readMemo 41 = .ok (.aload_n 0, 1) := by decide +kernel
theorem dX5_readMemo_42 : decode cX5_readMemo 42 = .ok (.getfield 25, 3) := by decide +kernel
theorem dX5_readMemo_45 : decode cX5_readMemo 45 = .ok (.iload_n 1, 1) := by decide +kernel
theorem dX5_readMemo_46 : decode cX5_readMemo 46 = .ok (.aload_n 0, 1) := by decide +kernel
theorem dX5_readMemo_47 : decode cX5_readMemo 47 = .ok (.getfield 12, 3) := by decide +kernel
theorem dX5_readMemo_50 : decode cX5_readMemo 50 = .ok (.iconst 0, 1) := by decide +kernel
theorem dX5_readMemo_51 : decode cX5_readMemo 51 = .ok (.bipush 7, 2) := by decide +kernel
theorem dX5_readMemo_53 : decode cX5_readMemo 53 = .ok (.invokevirtual 147, 3) := by decide +kernel
theorem dX5_readMemo_56 : decode cX5_readMemo 56 = .ok (.iastore, 1) := by decide +kernel
theorem dX5_readMemo_57 : decode cX5_readMemo 57 = .ok (.aload_n 0, 1) := by decide +kernel
theorem dX5_readMemo_58 : decode cX5_readMemo 58 = .ok (.aload_n 0, 1) := by decide +kernel
theorem dX5_readMemo_59 : decode cX5_readMemo 59 = .ok (.getfield 75, 3) := by decide +kernel
theorem dX5_readMemo_62 : decode cX5_readMemo 62 = .ok (.aload_n 0, 1) := by decide +kernel
theorem dX5_readMemo_63 : decode cX5_readMemo 63 = .ok (.getfield 25, 3) := by decide +kernel
theorem dX5_readMemo_66 : decode cX5_readMemo 66 = .ok (.iload_n 1, 1) := by decide +kernel
theorem dX5_readMemo_67 : decode cX5_readMemo 67 = .ok (.iaload, 1) := by decide +kernel
theorem dX5_readMemo_68 : decode cX5_readMemo 68 = .ok (.invokestatic 163, 3) := by decide +kernel
theorem dX5_readMemo_71 : decode cX5_readMemo 71 = .ok (.putfield 75, 3) := by decide +kernel
theorem dX5_readMemo_74 : decode cX5_readMemo 74 = .ok (.aload_n 0, 1) := by decide +kernel
theorem dX5_readMemo_75 : decode cX5_readMemo 75 = .ok (.getfield 12, 3) := by decide +kernel
theorem dX5_readMemo_78 : decode cX5_readMemo 78 = .ok (.invokevirtual 160, 3) := by decide +kernel
theorem dX5_readMemo_81 : decode cX5_readMemo 81 = .ok (.return_, 1) := by decide +kernel
theorem dX6_init_0 : decode cX6_init 0 = .ok (.aload_n 0, 1) := by decide +kernel
theorem dX6_init_1 : decode cX6_init 1 = .ok (.invokespecial 3, 3) := by decide +kernel
theorem dX6_init_4 : decode cX6_init 4 = .ok (.aload_n 0, 1) := by decide +kernel
theorem dX6_init_5 : decode cX6_init 5 = .ok (.bipush 40, 2) := by decide +kernel
theorem dX6_init_7 : decode cX6_init 7 = .ok (.newarray .int, 2) := by decide +kernel
theorem dX6_init_9 : decode cX6_init 9 = .ok (.putfield 9, 3) := by decide +kernel
theorem dX6_init_12 : decode cX6_init 12 = .ok (.aload_n 0, 1) := by decide +kernel
theorem dX6_init_13 : decode cX6_init 13 = .ok (.bipush (-4), 2) := by decide +kernel
theorem dX6_init_15 : decode cX6_init 15 = .ok (.putfield 15, 3) := by decide +kernel
theorem dX6_init_18 : decode cX6_init 18 = .ok (.return_, 1) := by decide +kernel
theorem dX6_renew_0 : decode cX6_renew 0 = .ok (.aload_n 0, 1) := by decide +kernel
theorem dX6_renew_1 : decode cX6_renew 1 = .ok (.iload_n 1, 1) := by decide +kernel
theorem dX6_renew_2 : decode cX6_renew 2 = .ok (.putfield 19, 3) := by decide +kernel
theorem dX6_renew_5 : decode cX6_renew 5 = .ok (.aload_n 0, 1) := by decide +kernel
theorem dX6_renew_6 : decode cX6_renew 6 = .ok (.iload_n 2, 1) := by decide +kernel
theorem dX6_renew_7 : decode cX6_renew 7 = .ok (.putfield 15, 3) := by decide +kernel
theorem dX6_renew_10 : decode cX6_renew 10 = .ok (.aload_n 0, 1) := by decide +kernel
theorem dX6_renew_11 : decode cX6_renew 11 = .ok (.getfield 9, 3) := by decide +kernel
theorem dX6_renew_14 : decode cX6_renew 14 = .ok (.iconst 0, 1) := by decide +kernel
theorem dX6_renew_15 : decode cX6_renew 15 = .ok (.invokestatic 22, 3) := by decide +kernel
theorem dX6_renew_18 : decode cX6_renew 18 = .ok (.return_, 1) := by decide +kernel
theorem dX6_faultAt_0 : decode cX6_faultAt 0 = .ok (.aload_n 0, 1) := by decide +kernel
theorem dX6_faultAt_1 : decode cX6_faultAt 1 = .ok (.getfield 15, 3) := by decide +kernel
theorem dX6_faultAt_4 : decode cX6_faultAt 4 = .ok (.bipush (-4), 2) := by decide +kernel
theorem dX6_faultAt_6 : decode cX6_faultAt 6 = .ok (.if_icmp .ne 5, 3) := by decide +kernel
theorem dX6_faultAt_9 : decode cX6_faultAt 9 = .ok (.iconst 1, 1) := by decide +kernel
theorem dX6_faultAt_10 : decode cX6_faultAt 10 = .ok (.ireturn, 1) := by decide +kernel
theorem dX6_faultAt_11 : decode cX6_faultAt 11 = .ok (.iload_n 1, 1) := by decide +kernel
theorem dX6_faultAt_12 : decode cX6_faultAt 12 = .ok (.ifCond .lt 24, 3) := by decide +kernel
theorem dX6_faultAt_15 : decode cX6_faultAt 15 = .ok (.iload_n 1, 1) := by decide +kernel
theorem dX6_faultAt_16 : decode cX6_faultAt 16 = .ok (.aload_n 0, 1) := by decide +kernel
theorem dX6_faultAt_17 : decode cX6_faultAt 17 = .ok (.getfield 15, 3) := by decide +kernel
theorem dX6_faultAt_20 : decode cX6_faultAt 20 = .ok (.if_icmp .ge 16, 3) := by decide +kernel
theorem dX6_faultAt_23 : decode cX6_faultAt 23 = .ok (.iload_n 1, 1) := by decide +kernel
theorem dX6_faultAt_24 : decode cX6_faultAt 24 = .ok (.aload_n 0, 1) := by decide +kernel
theorem dX6_faultAt_25 : decode cX6_faultAt 25 = .ok (.getfield 9, 3) := by decide +kernel
theorem dX6_faultAt_28 : decode cX6_faultAt 28 = .ok (.arraylength, 1) := by decide +kernel
theorem dX6_faultAt_29 : decode cX6_faultAt 29 = .ok (.if_icmp .ge 7, 3) := by decide +kernel
theorem dX6_faultAt_32 : decode cX6_faultAt 32 = .ok (.iconst 0, 1) := by decide +kernel
theorem dX6_faultAt_33 : decode cX6_faultAt 33 = .ok (.goto 4, 3) := by decide +kernel
theorem dX6_faultAt_36 : decode cX6_faultAt 36 = .ok (.iconst 2, 1) := by decide +kernel
theorem dX6_faultAt_37 : decode cX6_faultAt 37 = .ok (.ireturn, 1) := by decide +kernel
theorem dX6_pairFault_0 : decode cX6_pairFault 0 = .ok (.aload_n 0, 1) := by decide +kernel
theorem dX6_pairFault_1 : decode cX6_pairFault 1 = .ok (.getfield 15, 3) := by decide +kernel
theorem dX6_pairFault_4 : decode cX6_pairFault 4 = .ok (.bipush (-4), 2) := by decide +kernel
theorem dX6_pairFault_6 : decode cX6_pairFault 6 = .ok (.if_icmp .eq 13, 3) := by decide +kernel
theorem dX6_pairFault_9 : decode cX6_pairFault 9 = .ok (.aload_n 0, 1) := by decide +kernel
theorem dX6_pairFault_10 : decode cX6_pairFault 10 = .ok (.getfield 19, 3) := by decide +kernel
theorem dX6_pairFault_13 : decode cX6_pairFault 13 = .ok (.iload_n 1, 1) := by decide +kernel
theorem dX6_pairFault_14 : decode cX6_pairFault 14 = .ok (.if_icmp .eq 5, 3) := by decide +kernel
theorem dX6_pairFault_17 : decode cX6_pairFault 17 = .ok (.iconst 3, 1) := by decide +kernel
theorem dX6_pairFault_18 : decode cX6_pairFault 18 = .ok (.ireturn, 1) := by decide +kernel
theorem dX6_pairFault_19 : decode cX6_pairFault 19 = .ok (.aload_n 0, 1) := by decide +kernel
theorem dX6_pairFault_20 : decode cX6_pairFault 20 = .ok (.iload_n 2, 1) := by decide +kernel
theorem dX6_pairFault_21 : decode cX6_pairFault 21 = .ok (.invokevirtual 28, 3) := by decide +kernel
theorem dX6_pairFault_24 : decode cX6_pairFault 24 = .ok (.istore_n 3, 1) := by decide +kernel
theorem dX6_pairFault_25 : decode cX6_pairFault 25 = .ok (.iload_n 3, 1) := by decide +kernel
theorem dX6_pairFault_26 : decode cX6_pairFault 26 = .ok (.ifCond .eq 7, 3) := by decide +kernel
theorem dX6_pairFault_29 : decode cX6_pairFault 29 = .ok (.iload_n 3, 1) := by decide +kernel
theorem dX6_pairFault_30 : decode cX6_pairFault 30 = .ok (.goto 10, 3) := by decide +kernel
theorem dX6_pairFault_33 : decode cX6_pairFault 33 = .ok (.aload_n 0, 1) := by decide +kernel
theorem dX6_pairFault_34 : decode cX6_pairFault 34 = .ok (.iload_n 2, 1) := by decide +kernel
theorem dX6_pairFault_35 : decode cX6_pairFault 35 = .ok (.iconst 1, 1) := by decide +kernel
theorem dX6_pairFault_36 : decode cX6_pairFault 36 = .ok (.iadd, 1) := by decide +kernel
theorem dX6_pairFault_37 : decode cX6_pairFault 37 = .ok (.invokevirtual 28, 3) := by decide +kernel
theorem dX6_pairFault_40 : decode cX6_pairFault 40 = .ok (.ireturn, 1) := by decide +kernel
theorem dX6_valueAt_0 : decode cX6_valueAt 0 = .ok (.aload_n 0, 1) := by decide +kernel
theorem dX6_valueAt_1 : decode cX6_valueAt 1 = .ok (.iload_n 1, 1) := by decide +kernel
theorem dX6_valueAt_2 : decode cX6_valueAt 2 = .ok (.invokevirtual 28, 3) := by decide +kernel
theorem dX6_valueAt_5 : decode cX6_valueAt 5 = .ok (.ifCond .ne 12, 3) := by decide +kernel
theorem dX6_valueAt_8 : decode cX6_valueAt 8 = .ok (.aload_n 0, 1) := by decide +kernel
theorem dX6_valueAt_9 : decode cX6_valueAt 9 = .ok (.getfield 9, 3) := by decide +kernel
theorem dX6_valueAt_12 : decode cX6_valueAt 12 = .ok (.iload_n 1, 1) := by decide +kernel
theorem dX6_valueAt_13 : decode cX6_valueAt 13 = .ok (.iaload, 1) := by decide +kernel
theorem dX6_valueAt_14 : decode cX6_valueAt 14 = .ok (.goto 4, 3) := by decide +kernel
theorem dX6_valueAt_17 : decode cX6_valueAt 17 = .ok (.iconst 0, 1) := by decide +kernel
theorem dX6_valueAt_18 : decode cX6_valueAt 18 = .ok (.ireturn, 1) := by decide +kernel
theorem dX6_put_0 : decode cX6_put 0 = .ok (.aload_n 0, 1) := by decide +kernel
theorem dX6_put_1 : decode cX6_put 1 = .ok (.iload_n 1, 1) := by decide +kernel
theorem dX6_put_2 : decode cX6_put 2 = .ok (.invokevirtual 28, 3) := by decide +kernel
theorem dX6_put_5 : decode cX6_put 5 = .ok (.ifCond .eq 4, 3) := by decide +kernel
theorem dX6_put_8 : decode cX6_put 8 = .ok (.return_, 1) := by decide +kernel
theorem dX6_put_9 : decode cX6_put 9 = .ok (.aload_n 0, 1) := by decide +kernel
theorem dX6_put_10 : decode cX6_put 10 = .ok (.getfield 19, 3) := by decide +kernel
theorem dX6_put_13 : decode cX6_put 13 = .ok (.lookupswitch 49 #[(0, 27), (1, 38)], 27) := by decide +kernel
theorem dX6_put_40 : decode cX6_put 40 = .ok (.aload_n 0, 1) := by decide +kernel
theorem dX6_put_41 : decode cX6_put 41 = .ok (.getfield 9, 3) := by decide +kernel
theorem dX6_put_44 : decode cX6_put 44 = .ok (.iload_n 1, 1) := by decide +kernel
theorem dX6_put_45 : decode cX6_put 45 = .ok (.iload_n 2, 1) := by decide +kernel
theorem dX6_put_46 : decode cX6_put 46 = .ok (.i2b, 1) := by decide +kernel
theorem dX6_put_47 : decode cX6_put 47 = .ok (.iastore, 1) := by decide +kernel
theorem dX6_put_48 : decode cX6_put 48 = .ok (.goto 21, 3) := by decide +kernel
theorem dX6_put_51 : decode cX6_put 51 = .ok (.aload_n 0, 1) := by decide +kernel
theorem dX6_put_52 : decode cX6_put 52 = .ok (.getfield 9, 3) := by decide +kernel
theorem dX6_put_55 : decode cX6_put 55 = .ok (.iload_n 1, 1) := by decide +kernel
theorem dX6_put_56 : decode cX6_put 56 = .ok (.iload_n 2, 1) := by decide +kernel
theorem dX6_put_57 : decode cX6_put 57 = .ok (.i2s, 1) := by decide +kernel
theorem dX6_put_58 : decode cX6_put 58 = .ok (.iastore, 1) := by decide +kernel
theorem dX6_put_59 : decode cX6_put 59 = .ok (.goto 10, 3) := by decide +kernel
theorem dX6_put_62 : decode cX6_put 62 = .ok (.aload_n 0, 1) := by decide +kernel
theorem dX6_put_63 : decode cX6_put 63 = .ok (.getfield 9, 3) := by decide +kernel
theorem dX6_put_66 : decode cX6_put 66 = .ok (.iload_n 1, 1) := by decide +kernel
theorem dX6_put_67 : decode cX6_put 67 = .ok (.iload_n 2, 1) := by decide +kernel
theorem dX6_put_68 : decode cX6_put 68 = .ok (.iastore, 1) := by decide +kernel
theorem dX6_put_69 : decode cX6_put 69 = .ok (.return_, 1) := by decide +kernel
theorem dX7_init_0 : decode cX7_init 0 = .ok (.aload_n 0, 1) := by decide +kernel
theorem dX7_init_1 : decode cX7_init 1 = .ok (.invokespecial 3, 3) := by decide +kernel
theorem dX7_init_4 : decode cX7_init 4 = .ok (.return_, 1) := by decide +kernel
theorem dX7_becomeRaw_0 : decode cX7_becomeRaw 0 = .ok (.aload_n 0, 1) := by decide +kernel
theorem dX7_becomeRaw_1 : decode cX7_becomeRaw 1 = .ok (.iload_n 1, 1) := by decide +kernel
theorem dX7_becomeRaw_2 : decode cX7_becomeRaw 2 = .ok (.putfield 9, 3) := by decide +kernel
theorem dX7_becomeRaw_5 : decode cX7_becomeRaw 5 = .ok (.aload_n 0, 1) := by decide +kernel
theorem dX7_becomeRaw_6 : decode cX7_becomeRaw 6 = .ok (.iload_n 2, 1) := by decide +kernel
theorem dX7_becomeRaw_7 : decode cX7_becomeRaw 7 = .ok (.putfield 15, 3) := by decide +kernel
theorem dX7_becomeRaw_10 : decode cX7_becomeRaw 10 = .ok (.aload_n 0, 1) := by decide +kernel
theorem dX7_becomeRaw_11 : decode cX7_becomeRaw 11 = .ok (.bipush (-4), 2) := by decide +kernel
theorem dX7_becomeRaw_13 : decode cX7_becomeRaw 13 = .ok (.putfield 18, 3) := by decide +kernel
theorem dX7_becomeRaw_16 : decode cX7_becomeRaw 16 = .ok (.aload_n 0, 1) := by decide +kernel
theorem dX7_becomeRaw_17 : decode cX7_becomeRaw 17 = .ok (.iconst 0, 1) := by decide +kernel
theorem dX7_becomeRaw_18 : decode cX7_becomeRaw 18 = .ok (.putfield 21, 3) := by decide +kernel
theorem dX7_becomeRaw_21 : decode cX7_becomeRaw 21 = .ok (.aload_n 0, 1) := by decide +kernel
theorem dX7_becomeRaw_22 : decode cX7_becomeRaw 22 = .ok (.iconst 0, 1) := by decide +kernel
theorem dX7_becomeRaw_23 : decode cX7_becomeRaw 23 = .ok (.putfield 24, 3) := by decide +kernel
theorem dX7_becomeRaw_26 : decode cX7_becomeRaw 26 = .ok (.aload_n 0, 1) := by decide +kernel
theorem dX7_becomeRaw_27 : decode cX7_becomeRaw 27 = .ok (.iconst 0, 1) := by decide +kernel
theorem dX7_becomeRaw_28 : decode cX7_becomeRaw 28 = .ok (.putfield 27, 3) := by decide +kernel
theorem dX7_becomeRaw_31 : decode cX7_becomeRaw 31 = .ok (.aload_n 0, 1) := by decide +kernel
theorem dX7_becomeRaw_32 : decode cX7_becomeRaw 32 = .ok (.bipush (-4), 2) := by decide +kernel
theorem dX7_becomeRaw_34 : decode cX7_becomeRaw 34 = .ok (.putfield 30, 3) := by decide +kernel
theorem dX7_becomeRaw_37 : decode cX7_becomeRaw 37 = .ok (.return_, 1) := by decide +kernel
theorem dX7_copyFrom_0 : decode cX7_copyFrom 0 = .ok (.aload_n 0, 1) := by decide +kernel
theorem dX7_copyFrom_1 : decode cX7_copyFrom 1 = .ok (.aload_n 1, 1) := by decide +kernel
theorem dX7_copyFrom_2 : decode cX7_copyFrom 2 = .ok (.getfield 9, 3) := by decide +kernel
theorem dX7_copyFrom_5 : decode cX7_copyFrom 5 = .ok (.putfield 9, 3) := by decide +kernel
theorem dX7_copyFrom_8 : decode cX7_copyFrom 8 = .ok (.aload_n 0, 1) := by decide +kernel
theorem dX7_copyFrom_9 : decode cX7_copyFrom 9 = .ok (.aload_n 1, 1) := by decide +kernel
theorem dX7_copyFrom_10 : decode cX7_copyFrom 10 = .ok (.getfield 15, 3) := by decide +kernel
theorem dX7_copyFrom_13 : decode cX7_copyFrom 13 = .ok (.putfield 15, 3) := by decide +kernel
theorem dX7_copyFrom_16 : decode cX7_copyFrom 16 = .ok (.aload_n 0, 1) := by decide +kernel
theorem dX7_copyFrom_17 : decode cX7_copyFrom 17 = .ok (.aload_n 1, 1) := by decide +kernel
theorem dX7_copyFrom_18 : decode cX7_copyFrom 18 = .ok (.getfield 18, 3) := by decide +kernel
theorem dX7_copyFrom_21 : decode cX7_copyFrom 21 = .ok (.putfield 18, 3) := by decide +kernel
theorem dX7_copyFrom_24 : decode cX7_copyFrom 24 = .ok (.aload_n 0, 1) := by decide +kernel
theorem dX7_copyFrom_25 : decode cX7_copyFrom 25 = .ok (.aload_n 1, 1) := by decide +kernel
theorem dX7_copyFrom_26 : decode cX7_copyFrom 26 = .ok (.getfield 21, 3) := by decide +kernel
theorem dX7_copyFrom_29 : decode cX7_copyFrom 29 = .ok (.putfield 21, 3) := by decide +kernel
theorem dX7_copyFrom_32 : decode cX7_copyFrom 32 = .ok (.aload_n 0, 1) := by decide +kernel
theorem dX7_copyFrom_33 : decode cX7_copyFrom 33 = .ok (.aload_n 1, 1) := by decide +kernel
theorem dX7_copyFrom_34 : decode cX7_copyFrom 34 = .ok (.getfield 24, 3) := by decide +kernel
theorem dX7_copyFrom_37 : decode cX7_copyFrom 37 = .ok (.putfield 24, 3) := by decide +kernel
theorem dX7_copyFrom_40 : decode cX7_copyFrom 40 = .ok (.aload_n 0, 1) := by decide +kernel
theorem dX7_copyFrom_41 : decode cX7_copyFrom 41 = .ok (.aload_n 1, 1) := by decide +kernel
theorem dX7_copyFrom_42 : decode cX7_copyFrom 42 = .ok (.getfield 27, 3) := by decide +kernel
theorem dX7_copyFrom_45 : decode cX7_copyFrom 45 = .ok (.putfield 27, 3) := by decide +kernel
theorem dX7_copyFrom_48 : decode cX7_copyFrom 48 = .ok (.aload_n 0, 1) := by decide +kernel
theorem dX7_copyFrom_49 : decode cX7_copyFrom 49 = .ok (.aload_n 1, 1) := by decide +kernel
theorem dX7_copyFrom_50 : decode cX7_copyFrom 50 = .ok (.getfield 30, 3) := by decide +kernel
theorem dX7_copyFrom_53 : decode cX7_copyFrom 53 = .ok (.putfield 30, 3) := by decide +kernel
theorem dX7_copyFrom_56 : decode cX7_copyFrom 56 = .ok (.return_, 1) := by decide +kernel
theorem dX7_bakeBy_0 : decode cX7_bakeBy 0 = .ok (.aload_n 0, 1) := by decide +kernel
theorem dX7_bakeBy_1 : decode cX7_bakeBy 1 = .ok (.bipush 99, 2) := by decide +kernel
theorem dX7_bakeBy_3 : decode cX7_bakeBy 3 = .ok (.aload_n 0, 1) := by decide +kernel
theorem dX7_bakeBy_4 : decode cX7_bakeBy 4 = .ok (.getfield 21, 3) := by decide +kernel
theorem dX7_bakeBy_7 : decode cX7_bakeBy 7 = .ok (.iload_n 1, 1) := by decide +kernel
theorem dX7_bakeBy_8 : decode cX7_bakeBy 8 = .ok (.aload_n 0, 1) := by decide +kernel
theorem dX7_bakeBy_9 : decode cX7_bakeBy 9 = .ok (.getfield 15, 3) := by decide +kernel
theorem dX7_bakeBy_12 : decode cX7_bakeBy 12 = .ok (.invokestatic 33, 3) := by decide +kernel
theorem dX7_bakeBy_15 : decode cX7_bakeBy 15 = .ok (.iadd, 1) := by decide +kernel
theorem dX7_bakeBy_16 : decode cX7_bakeBy 16 = .ok (.invokestatic 37, 3) := by decide +kernel
theorem dX7_bakeBy_19 : decode cX7_bakeBy 19 = .ok (.putfield 21, 3) := by decide +kernel
theorem dX7_bakeBy_22 : decode cX7_bakeBy 22 = .ok (.aload_n 0, 1) := by decide +kernel
theorem dX7_bakeBy_23 : decode cX7_bakeBy 23 = .ok (.bipush 99, 2) := by decide +kernel
theorem dX7_bakeBy_25 : decode cX7_bakeBy 25 = .ok (.aload_n 0, 1) := by decide +kernel
theorem dX7_bakeBy_26 : decode cX7_bakeBy 26 = .ok (.getfield 24, 3) := by decide +kernel
theorem dX7_bakeBy_29 : decode cX7_bakeBy 29 = .ok (.iload_n 1, 1) := by decide +kernel
theorem dX7_bakeBy_30 : decode cX7_bakeBy 30 = .ok (.aload_n 0, 1) := by decide +kernel
theorem dX7_bakeBy_31 : decode cX7_bakeBy 31 = .ok (.getfield 15, 3) := by decide +kernel
theorem dX7_bakeBy_34 : decode cX7_bakeBy 34 = .ok (.invokestatic 42, 3) := by decide +kernel
theorem dX7_bakeBy_37 : decode cX7_bakeBy 37 = .ok (.iadd, 1) := by decide +kernel
theorem dX7_bakeBy_38 : decode cX7_bakeBy 38 = .ok (.invokestatic 37, 3) := by decide +kernel
theorem dX7_bakeBy_41 : decode cX7_bakeBy 41 = .ok (.putfield 24, 3) := by decide +kernel
theorem dX7_bakeBy_44 : decode cX7_bakeBy 44 = .ok (.return_, 1) := by decide +kernel
theorem dX7_turnOver_0 : decode cX7_turnOver 0 = .ok (.aload_n 0, 1) := by decide +kernel
theorem dX7_turnOver_1 : decode cX7_turnOver 1 = .ok (.getfield 24, 3) := by decide +kernel
theorem dX7_turnOver_4 : decode cX7_turnOver 4 = .ok (.istore_n 1, 1) := by decide +kernel
theorem dX7_turnOver_5 : decode cX7_turnOver 5 = .ok (.aload_n 0, 1) := by decide +kernel
theorem dX7_turnOver_6 : decode cX7_turnOver 6 = .ok (.aload_n 0, 1) := by decide +kernel
theorem dX7_turnOver_7 : decode cX7_turnOver 7 = .ok (.getfield 27, 3) := by decide +kernel
theorem dX7_turnOver_10 : decode cX7_turnOver 10 = .ok (.putfield 24, 3) := by decide +kernel
theorem dX7_turnOver_13 : decode cX7_turnOver 13 = .ok (.aload_n 0, 1) := by decide +kernel
theorem dX7_turnOver_14 : decode cX7_turnOver 14 = .ok (.iload_n 1, 1) := by decide +kernel
theorem dX7_turnOver_15 : decode cX7_turnOver 15 = .ok (.putfield 27, 3) := by decide +kernel
theorem dX7_turnOver_18 : decode cX7_turnOver 18 = .ok (.return_, 1) := by decide +kernel
theorem dX7_isDone_0 : decode cX7_isDone 0 = .ok (.aload_n 0, 1) := by decide +kernel
theorem dX7_isDone_1 : decode cX7_isDone 1 = .ok (.iconst 0, 1) := by decide +kernel
theorem dX7_isDone_2 : decode cX7_isDone 2 = .ok (.invokevirtual 45, 3) := by decide +kernel
theorem dX7_isDone_5 : decode cX7_isDone 5 = .ok (.ireturn, 1) := by decide +kernel
theorem dX7_isBlack_0 : decode cX7_isBlack 0 = .ok (.aload_n 0, 1) := by decide +kernel
theorem dX7_isBlack_1 : decode cX7_isBlack 1 = .ok (.getfield 24, 3) := by decide +kernel
theorem dX7_isBlack_4 : decode cX7_isBlack 4 = .ok (.bipush 40, 2) := by decide +kernel
theorem dX7_isBlack_6 : decode cX7_isBlack 6 = .ok (.if_icmp .ge 12, 3) := by decide +kernel
theorem dX7_isBlack_9 : decode cX7_isBlack 9 = .ok (.aload_n 0, 1) := by decide +kernel
theorem dX7_isBlack_10 : decode cX7_isBlack 10 = .ok (.getfield 27, 3) := by decide +kernel
theorem dX7_isBlack_13 : decode cX7_isBlack 13 = .ok (.bipush 40, 2) := by decide +kernel
theorem dX7_isBlack_15 : decode cX7_isBlack 15 = .ok (.if_icmp .lt 7, 3) := by decide +kernel
theorem dX7_isBlack_18 : decode cX7_isBlack 18 = .ok (.iconst 1, 1) := by decide +kernel
theorem dX7_isBlack_19 : decode cX7_isBlack 19 = .ok (.goto 4, 3) := by decide +kernel
theorem dX7_isBlack_22 : decode cX7_isBlack 22 = .ok (.iconst 0, 1) := by decide +kernel
theorem dX7_isBlack_23 : decode cX7_isBlack 23 = .ok (.ireturn, 1) := by decide +kernel
theorem dX7_isGood_0 : decode cX7_isGood 0 = .ok (.aload_n 0, 1) := by decide +kernel
theorem dX7_isGood_1 : decode cX7_isGood 1 = .ok (.invokevirtual 49, 3) := by decide +kernel
theorem dX7_isGood_4 : decode cX7_isGood 4 = .ok (.ifCond .eq 14, 3) := by decide +kernel
theorem dX7_isGood_7 : decode cX7_isGood 7 = .ok (.aload_n 0, 1) := by decide +kernel
theorem dX7_isGood_8 : decode cX7_isGood 8 = .ok (.invokevirtual 53, 3) := by decide +kernel
theorem dX7_isGood_11 : decode cX7_isGood 11 = .ok (.ifCond .ne 7, 3) := by decide +kernel
theorem dX7_isGood_14 : decode cX7_isGood 14 = .ok (.iconst 1, 1) := by decide +kernel
theorem dX7_isGood_15 : decode cX7_isGood 15 = .ok (.goto 4, 3) := by decide +kernel
theorem dX7_isGood_18 : decode cX7_isGood 18 = .ok (.iconst 0, 1) := by decide +kernel
theorem dX7_isGood_19 : decode cX7_isGood 19 = .ok (.ireturn, 1) := by decide +kernel
theorem dX7_wouldBeDone_0 : decode cX7_wouldBeDone 0 = .ok (.aload_n 0, 1) := by decide +kernel
theorem dX7_wouldBeDone_1 : decode cX7_wouldBeDone 1 = .ok (.getfield 21, 3) := by decide +kernel
theorem dX7_wouldBeDone_4 : decode cX7_wouldBeDone 4 = .ok (.iload_n 1, 1) := by decide +kernel
theorem dX7_wouldBeDone_5 : decode cX7_wouldBeDone 5 = .ok (.iadd, 1) := by decide +kernel
theorem dX7_wouldBeDone_6 : decode cX7_wouldBeDone 6 = .ok (.bipush 10, 2) := by decide +kernel
theorem dX7_wouldBeDone_8 : decode cX7_wouldBeDone 8 = .ok (.aload_n 0, 1) := by decide +kernel
theorem dX7_wouldBeDone_9 : decode cX7_wouldBeDone 9 = .ok (.getfield 9, 3) := by decide +kernel
theorem dX7_wouldBeDone_12 : decode cX7_wouldBeDone 12 = .ok (.imul, 1) := by decide +kernel
theorem dX7_wouldBeDone_13 : decode cX7_wouldBeDone 13 = .ok (.if_icmp .lt 7, 3) := by decide +kernel
theorem dX7_wouldBeDone_16 : decode cX7_wouldBeDone 16 = .ok (.iconst 1, 1) := by decide +kernel
theorem dX7_wouldBeDone_17 : decode cX7_wouldBeDone 17 = .ok (.goto 4, 3) := by decide +kernel
theorem dX7_wouldBeDone_20 : decode cX7_wouldBeDone 20 = .ok (.iconst 0, 1) := by decide +kernel
theorem dX7_wouldBeDone_21 : decode cX7_wouldBeDone 21 = .ok (.ireturn, 1) := by decide +kernel
theorem dX7_wouldBeGood_0 : decode cX7_wouldBeGood 0 = .ok (.aload_n 0, 1) := by decide +kernel
theorem dX7_wouldBeGood_1 : decode cX7_wouldBeGood 1 = .ok (.iload_n 1, 1) := by decide +kernel
theorem dX7_wouldBeGood_2 : decode cX7_wouldBeGood 2 = .ok (.invokevirtual 45, 3) := by decide +kernel
theorem dX7_wouldBeGood_5 : decode cX7_wouldBeGood 5 = .ok (.ifCond .eq 29, 3) := by decide +kernel
theorem dX7_wouldBeGood_8 : decode cX7_wouldBeGood 8 = .ok (.aload_n 0, 1) := by decide +kernel
theorem dX7_wouldBeGood_9 : decode cX7_wouldBeGood 9 = .ok (.getfield 24, 3) := by decide +kernel
theorem dX7_wouldBeGood_12 : decode cX7_wouldBeGood 12 = .ok (.iload_n 2, 1) := by decide +kernel
theorem dX7_wouldBeGood_13 : decode cX7_wouldBeGood 13 = .ok (.iadd, 1) := by decide +kernel
theorem dX7_wouldBeGood_14 : decode cX7_wouldBeGood 14 = .ok (.bipush 40, 2) := by decide +kernel
theorem dX7_wouldBeGood_16 : decode cX7_wouldBeGood 16 = .ok (.if_icmp .ge 18, 3) := by decide +kernel
theorem dX7_wouldBeGood_19 : decode cX7_wouldBeGood 19 = .ok (.aload_n 0, 1) := by decide +kernel
theorem dX7_wouldBeGood_20 : decode cX7_wouldBeGood 20 = .ok (.getfield 27, 3) := by decide +kernel
theorem dX7_wouldBeGood_23 : decode cX7_wouldBeGood 23 = .ok (.iload_n 3, 1) := by decide +kernel
theorem dX7_wouldBeGood_24 : decode cX7_wouldBeGood 24 = .ok (.iadd, 1) := by decide +kernel
theorem dX7_wouldBeGood_25 : decode cX7_wouldBeGood 25 = .ok (.bipush 40, 2) := by decide +kernel
theorem dX7_wouldBeGood_27 : decode cX7_wouldBeGood 27 = .ok (.if_icmp .ge 7, 3) := by decide +kernel
theorem dX7_wouldBeGood_30 : decode cX7_wouldBeGood 30 = .ok (.iconst 1, 1) := by decide +kernel
theorem dX7_wouldBeGood_31 : decode cX7_wouldBeGood 31 = .ok (.goto 4, 3) := by decide +kernel
theorem dX7_wouldBeGood_34 : decode cX7_wouldBeGood 34 = .ok (.iconst 0, 1) := by decide +kernel
theorem dX7_wouldBeGood_35 : decode cX7_wouldBeGood 35 = .ok (.ireturn, 1) := by decide +kernel
theorem dX7_tell_0 : decode cX7_tell 0 = .ok (.iload_n 1, 1) := by decide +kernel
theorem dX7_tell_1 : decode cX7_tell 1 = .ok (.tableswitch 129 0 9 #[55, 60, 65, 70, 75, 80, 85, 98, 111, 124], 55) := by decide +kernel
theorem dX7_tell_56 : decode cX7_tell 56 = .ok (.aload_n 0, 1) := by decide +kernel
theorem dX7_tell_57 : decode cX7_tell 57 = .ok (.getfield 9, 3) := by decide +kernel
theorem dX7_tell_60 : decode cX7_tell 60 = .ok (.ireturn, 1) := by decide +kernel
theorem dX7_tell_61 : decode cX7_tell 61 = .ok (.aload_n 0, 1) := by decide +kernel
theorem dX7_tell_62 : decode cX7_tell 62 = .ok (.getfield 15, 3) := by decide +kernel
theorem dX7_tell_65 : decode cX7_tell 65 = .ok (.ireturn, 1) := by decide +kernel
theorem dX7_tell_66 : decode cX7_tell 66 = .ok (.aload_n 0, 1) := by decide +kernel
theorem dX7_tell_67 : decode cX7_tell 67 = .ok (.getfield 18, 3) := by decide +kernel
theorem dX7_tell_70 : decode cX7_tell 70 = .ok (.ireturn, 1) := by decide +kernel
theorem dX7_tell_71 : decode cX7_tell 71 = .ok (.aload_n 0, 1) := by decide +kernel
theorem dX7_tell_72 : decode cX7_tell 72 = .ok (.getfield 21, 3) := by decide +kernel
theorem dX7_tell_75 : decode cX7_tell 75 = .ok (.ireturn, 1) := by decide +kernel
theorem dX7_tell_76 : decode cX7_tell 76 = .ok (.aload_n 0, 1) := by decide +kernel
theorem dX7_tell_77 : decode cX7_tell 77 = .ok (.getfield 24, 3) := by decide +kernel
theorem dX7_tell_80 : decode cX7_tell 80 = .ok (.ireturn, 1) := by decide +kernel
theorem dX7_tell_81 : decode cX7_tell 81 = .ok (.aload_n 0, 1) := by decide +kernel
theorem dX7_tell_82 : decode cX7_tell 82 = .ok (.getfield 27, 3) := by decide +kernel
theorem dX7_tell_85 : decode cX7_tell 85 = .ok (.ireturn, 1) := by decide +kernel
theorem dX7_tell_86 : decode cX7_tell 86 = .ok (.aload_n 0, 1) := by decide +kernel
theorem dX7_tell_87 : decode cX7_tell 87 = .ok (.invokevirtual 49, 3) := by decide +kernel
theorem dX7_tell_90 : decode cX7_tell 90 = .ok (.ifCond .eq 7, 3) := by decide +kernel
theorem dX7_tell_93 : decode cX7_tell 93 = .ok (.iconst 1, 1) := by decide +kernel
theorem dX7_tell_94 : decode cX7_tell 94 = .ok (.goto 4, 3) := by decide +kernel
theorem dX7_tell_97 : decode cX7_tell 97 = .ok (.iconst 0, 1) := by decide +kernel
theorem dX7_tell_98 : decode cX7_tell 98 = .ok (.ireturn, 1) := by decide +kernel
theorem dX7_tell_99 : decode cX7_tell 99 = .ok (.aload_n 0, 1) := by decide +kernel
theorem dX7_tell_100 : decode cX7_tell 100 = .ok (.invokevirtual 53, 3) := by decide +kernel
theorem dX7_tell_103 : decode cX7_tell 103 = .ok (.ifCond .eq 7, 3) := by decide +kernel
theorem dX7_tell_106 : decode cX7_tell 106 = .ok (.iconst 1, 1) := by decide +kernel
theorem dX7_tell_107 : decode cX7_tell 107 = .ok (.goto 4, 3) := by decide +kernel
theorem dX7_tell_110 : decode cX7_tell 110 = .ok (.iconst 0, 1) := by decide +kernel
theorem dX7_tell_111 : decode cX7_tell 111 = .ok (.ireturn, 1) := by decide +kernel
theorem dX7_tell_112 : decode cX7_tell 112 = .ok (.aload_n 0, 1) := by decide +kernel
theorem dX7_tell_113 : decode cX7_tell 113 = .ok (.invokevirtual 56, 3) := by decide +kernel
theorem dX7_tell_116 : decode cX7_tell 116 = .ok (.ifCond .eq 7, 3) := by decide +kernel
theorem dX7_tell_119 : decode cX7_tell 119 = .ok (.iconst 1, 1) := by decide +kernel
theorem dX7_tell_120 : decode cX7_tell 120 = .ok (.goto 4, 3) := by decide +kernel
theorem dX7_tell_123 : decode cX7_tell 123 = .ok (.iconst 0, 1) := by decide +kernel
theorem dX7_tell_124 : decode cX7_tell 124 = .ok (.ireturn, 1) := by decide +kernel
theorem dX7_tell_125 : decode cX7_tell 125 = .ok (.aload_n 0, 1) := by decide +kernel
theorem dX7_tell_126 : decode cX7_tell 126 = .ok (.getfield 30, 3) := by decide +kernel
theorem dX7_tell_129 : decode cX7_tell 129 = .ok (.ireturn, 1) := by decide +kernel
theorem dX7_tell_130 : decode cX7_tell 130 = .ok (.iconst (-1), 1) := by decide +kernel
theorem dX7_tell_131 : decode cX7_tell 131 = .ok (.ireturn, 1) := by decide +kernel
theorem dX7_appeal_0 : decode cX7_appeal 0 = .ok (.aload_n 0, 1) := by decide +kernel
theorem dX7_appeal_1 : decode cX7_appeal 1 = .ok (.invokevirtual 56, 3) := by decide +kernel
theorem dX7_appeal_4 : decode cX7_appeal 4 = .ok (.ifCond .eq 12, 3) := by decide +kernel
theorem dX7_appeal_7 : decode cX7_appeal 7 = .ok (.sipush 200, 3) := by decide +kernel
theorem dX7_appeal_10 : decode cX7_appeal 10 = .ok (.aload_n 0, 1) := by decide +kernel
theorem dX7_appeal_11 : decode cX7_appeal 11 = .ok (.getfield 9, 3) := by decide +kernel
theorem dX7_appeal_14 : decode cX7_appeal 14 = .ok (.iadd, 1) := by decide +kernel
theorem dX7_appeal_15 : decode cX7_appeal 15 = .ok (.ireturn, 1) := by decide +kernel
theorem dX7_appeal_16 : decode cX7_appeal 16 = .ok (.aload_n 0, 1) := by decide +kernel
theorem dX7_appeal_17 : decode cX7_appeal 17 = .ok (.invokevirtual 53, 3) := by decide +kernel
theorem dX7_appeal_20 : decode cX7_appeal 20 = .ok (.ifCond .eq 7, 3) := by decide +kernel
theorem dX7_appeal_23 : decode cX7_appeal 23 = .ok (.iconst 0, 1) := by decide +kernel
theorem dX7_appeal_24 : decode cX7_appeal 24 = .ok (.goto 10, 3) := by decide +kernel
theorem dX7_appeal_27 : decode cX7_appeal 27 = .ok (.bipush 100, 2) := by decide +kernel
theorem dX7_appeal_29 : decode cX7_appeal 29 = .ok (.aload_n 0, 1) := by decide +kernel
theorem dX7_appeal_30 : decode cX7_appeal 30 = .ok (.getfield 21, 3) := by decide +kernel
theorem dX7_appeal_33 : decode cX7_appeal 33 = .ok (.iadd, 1) := by decide +kernel
theorem dX7_appeal_34 : decode cX7_appeal 34 = .ok (.ireturn, 1) := by decide +kernel
theorem dX7_coreShare_0 : decode cX7_coreShare 0 = .ok (.iload_n 1, 1) := by decide +kernel
theorem dX7_coreShare_1 : decode cX7_coreShare 1 = .ok (.lookupswitch 37 #[(1, 27), (2, 32)], 27) := by decide +kernel
theorem dX7_coreShare_28 : decode cX7_coreShare 28 = .ok (.iload_n 0, 1) := by decide +kernel
theorem dX7_coreShare_29 : decode cX7_coreShare 29 = .ok (.bipush 7, 2) := by decide +kernel
theorem dX7_coreShare_31 : decode cX7_coreShare 31 = .ok (.idiv, 1) := by decide +kernel
theorem dX7_coreShare_32 : decode cX7_coreShare 32 = .ok (.ireturn, 1) := by decide +kernel
theorem dX7_coreShare_33 : decode cX7_coreShare 33 = .ok (.iload_n 0, 1) := by decide +kernel
theorem dX7_coreShare_34 : decode cX7_coreShare 34 = .ok (.bipush 6, 2) := by decide +kernel
theorem dX7_coreShare_36 : decode cX7_coreShare 36 = .ok (.idiv, 1) := by decide +kernel
theorem dX7_coreShare_37 : decode cX7_coreShare 37 = .ok (.ireturn, 1) := by decide +kernel
theorem dX7_coreShare_38 : decode cX7_coreShare 38 = .ok (.iload_n 0, 1) := by decide +kernel
theorem dX7_coreShare_39 : decode cX7_coreShare 39 = .ok (.iconst 5, 1) := by decide +kernel
theorem dX7_coreShare_40 : decode cX7_coreShare 40 = .ok (.idiv, 1) := by decide +kernel
theorem dX7_coreShare_41 : decode cX7_coreShare 41 = .ok (.ireturn, 1) := by decide +kernel
theorem dX7_sideShare_0 : decode cX7_sideShare 0 = .ok (.iload_n 1, 1) := by decide +kernel
theorem dX7_sideShare_1 : decode cX7_sideShare 1 = .ok (.lookupswitch 37 #[(1, 27), (2, 32)], 27) := by decide +kernel
theorem dX7_sideShare_28 : decode cX7_sideShare 28 = .ok (.iload_n 0, 1) := by decide +kernel
theorem dX7_sideShare_29 : decode cX7_sideShare 29 = .ok (.bipush 16, 2) := by decide +kernel
theorem dX7_sideShare_31 : decode cX7_sideShare 31 = .ok (.idiv, 1) := by decide +kernel
theorem dX7_sideShare_32 : decode cX7_sideShare 32 = .ok (.ireturn, 1) := by decide +kernel
theorem dX7_sideShare_33 : decode cX7_sideShare 33 = .ok (.iload_n 0, 1) := by decide +kernel
theorem dX7_sideShare_34 : decode cX7_sideShare 34 = .ok (.bipush 12, 2) := by decide +kernel
theorem dX7_sideShare_36 : decode cX7_sideShare 36 = .ok (.idiv, 1) := by decide +kernel
theorem dX7_sideShare_37 : decode cX7_sideShare 37 = .ok (.ireturn, 1) := by decide +kernel
theorem dX7_sideShare_38 : decode cX7_sideShare 38 = .ok (.iload_n 0, 1) := by decide +kernel
theorem dX7_sideShare_39 : decode cX7_sideShare 39 = .ok (.bipush 8, 2) := by decide +kernel
theorem dX7_sideShare_41 : decode cX7_sideShare 41 = .ok (.idiv, 1) := by decide +kernel
theorem dX7_sideShare_42 : decode cX7_sideShare 42 = .ok (.ireturn, 1) := by decide +kernel
theorem dX8_init_0 : decode cX8_init 0 = .ok (.aload_n 0, 1) := by decide +kernel
theorem dX8_init_1 : decode cX8_init 1 = .ok (.invokespecial 1, 3) := by decide +kernel
theorem dX8_init_4 : decode cX8_init 4 = .ok (.aload_n 0, 1) := by decide +kernel
theorem dX8_init_5 : decode cX8_init 5 = .ok (.sipush 160, 3) := by decide +kernel
theorem dX8_init_8 : decode cX8_init 8 = .ok (.newarray .byte, 2) := by decide +kernel
theorem dX8_init_10 : decode cX8_init 10 = .ok (.putfield 9, 3) := by decide +kernel
theorem dX8_init_13 : decode cX8_init 13 = .ok (.return_, 1) := by decide +kernel
theorem dX8_append_0 : decode cX8_append 0 = .ok (.aload_n 0, 1) := by decide +kernel
theorem dX8_append_1 : decode cX8_append 1 = .ok (.getfield 13, 3) := by decide +kernel
theorem dX8_append_4 : decode cX8_append 4 = .ok (.sipush 160, 3) := by decide +kernel
theorem dX8_append_7 : decode cX8_append 7 = .ok (.if_icmp .lt 5, 3) := by decide +kernel
theorem dX8_append_10 : decode cX8_append 10 = .ok (.iconst 0, 1) := by decide +kernel
theorem dX8_append_11 : decode cX8_append 11 = .ok (.ireturn, 1) := by decide +kernel
theorem dX8_append_12 : decode cX8_append 12 = .ok (.aload_n 0, 1) := by decide +kernel
theorem dX8_append_13 : decode cX8_append 13 = .ok (.getfield 9, 3) := by decide +kernel
theorem dX8_append_16 : decode cX8_append 16 = .ok (.aload_n 0, 1) := by decide +kernel
theorem dX8_append_17 : decode cX8_append 17 = .ok (.getfield 13, 3) := by decide +kernel
theorem dX8_append_20 : decode cX8_append 20 = .ok (.iload_n 1, 1) := by decide +kernel
theorem dX8_append_21 : decode cX8_append 21 = .ok (.i2b, 1) := by decide +kernel
theorem dX8_append_22 : decode cX8_append 22 = .ok (.bastore, 1) := by decide +kernel
theorem dX8_append_23 : decode cX8_append 23 = .ok (.aload_n 0, 1) := by decide +kernel
theorem dX8_append_24 : decode cX8_append 24 = .ok (.dup, 1) := by decide +kernel
theorem dX8_append_25 : decode cX8_append 25 = .ok (.getfield 13, 3) := by decide +kernel
theorem dX8_append_28 : decode cX8_append 28 = .ok (.iconst 1, 1) := by decide +kernel
theorem dX8_append_29 : decode cX8_append 29 = .ok (.iadd, 1) := by decide +kernel
theorem dX8_append_30 : decode cX8_append 30 = .ok (.putfield 13, 3) := by decide +kernel
theorem dX8_append_33 : decode cX8_append 33 = .ok (.iconst 1, 1) := by decide +kernel
theorem dX8_append_34 : decode cX8_append 34 = .ok (.ireturn, 1) := by decide +kernel
theorem dX8_byteAt_0 : decode cX8_byteAt 0 = .ok (.iload_n 1, 1) := by decide +kernel
theorem dX8_byteAt_1 : decode cX8_byteAt 1 = .ok (.ifCond .lt 27, 3) := by decide +kernel
theorem dX8_byteAt_4 : decode cX8_byteAt 4 = .ok (.iload_n 1, 1) := by decide +kernel
theorem dX8_byteAt_5 : decode cX8_byteAt 5 = .ok (.aload_n 0, 1) := by decide +kernel
theorem dX8_byteAt_6 : decode cX8_byteAt 6 = .ok (.getfield 13, 3) := by decide +kernel
theorem dX8_byteAt_9 : decode cX8_byteAt 9 = .ok (.if_icmp .ge 19, 3) := by decide +kernel
theorem dX8_byteAt_12 : decode cX8_byteAt 12 = .ok (.iload_n 1, 1) := by decide +kernel
theorem dX8_byteAt_13 : decode cX8_byteAt 13 = .ok (.sipush 160, 3) := by decide +kernel
theorem dX8_byteAt_16 : decode cX8_byteAt 16 = .ok (.if_icmp .ge 12, 3) := by decide +kernel
theorem dX8_byteAt_19 : decode cX8_byteAt 19 = .ok (.aload_n 0, 1) := by decide +kernel
theorem dX8_byteAt_20 : decode cX8_byteAt 20 = .ok (.getfield 9, 3) := by decide +kernel
theorem dX8_byteAt_23 : decode cX8_byteAt 23 = .ok (.iload_n 1, 1) := by decide +kernel
theorem dX8_byteAt_24 : decode cX8_byteAt 24 = .ok (.baload, 1) := by decide +kernel
theorem dX8_byteAt_25 : decode cX8_byteAt 25 = .ok (.goto 4, 3) := by decide +kernel
theorem dX8_byteAt_28 : decode cX8_byteAt 28 = .ok (.iconst (-1), 1) := by decide +kernel
theorem dX8_byteAt_29 : decode cX8_byteAt 29 = .ok (.ireturn, 1) := by decide +kernel
theorem dX8_rewind_0 : decode cX8_rewind 0 = .ok (.aload_n 0, 1) := by decide +kernel
theorem dX8_rewind_1 : decode cX8_rewind 1 = .ok (.iconst 0, 1) := by decide +kernel
theorem dX8_rewind_2 : decode cX8_rewind 2 = .ok (.putfield 17, 3) := by decide +kernel
theorem dX8_rewind_5 : decode cX8_rewind 5 = .ok (.aload_n 0, 1) := by decide +kernel
theorem dX8_rewind_6 : decode cX8_rewind 6 = .ok (.iconst 0, 1) := by decide +kernel
theorem dX8_rewind_7 : decode cX8_rewind 7 = .ok (.putfield 20, 3) := by decide +kernel
theorem dX8_rewind_10 : decode cX8_rewind 10 = .ok (.aload_n 0, 1) := by decide +kernel
theorem dX8_rewind_11 : decode cX8_rewind 11 = .ok (.iconst 0, 1) := by decide +kernel
theorem dX8_rewind_12 : decode cX8_rewind 12 = .ok (.putfield 23, 3) := by decide +kernel
theorem dX8_rewind_15 : decode cX8_rewind 15 = .ok (.aload_n 0, 1) := by decide +kernel
theorem dX8_rewind_16 : decode cX8_rewind 16 = .ok (.iconst 0, 1) := by decide +kernel
theorem dX8_rewind_17 : decode cX8_rewind 17 = .ok (.putfield 26, 3) := by decide +kernel
theorem dX8_rewind_20 : decode cX8_rewind 20 = .ok (.aload_n 0, 1) := by decide +kernel
theorem dX8_rewind_21 : decode cX8_rewind 21 = .ok (.iconst 0, 1) := by decide +kernel
theorem dX8_rewind_22 : decode cX8_rewind 22 = .ok (.putfield 29, 3) := by decide +kernel
theorem dX8_rewind_25 : decode cX8_rewind 25 = .ok (.return_, 1) := by decide +kernel
theorem dX8_isSound_0 : decode cX8_isSound 0 = .ok (.aload_n 0, 1) := by decide +kernel
theorem dX8_isSound_1 : decode cX8_isSound 1 = .ok (.getfield 26, 3) := by decide +kernel
theorem dX8_isSound_4 : decode cX8_isSound 4 = .ok (.ifCond .ne 7, 3) := by decide +kernel
theorem dX8_isSound_7 : decode cX8_isSound 7 = .ok (.iconst 1, 1) := by decide +kernel
theorem dX8_isSound_8 : decode cX8_isSound 8 = .ok (.goto 4, 3) := by decide +kernel
theorem dX8_isSound_11 : decode cX8_isSound 11 = .ok (.iconst 0, 1) := by decide +kernel
theorem dX8_isSound_12 : decode cX8_isSound 12 = .ok (.ireturn, 1) := by decide +kernel
theorem dX8_failAt_0 : decode cX8_failAt 0 = .ok (.aload_n 0, 1) := by decide +kernel
theorem dX8_failAt_1 : decode cX8_failAt 1 = .ok (.getfield 26, 3) := by decide +kernel
theorem dX8_failAt_4 : decode cX8_failAt 4 = .ok (.ifCond .ne 13, 3) := by decide +kernel
theorem dX8_failAt_7 : decode cX8_failAt 7 = .ok (.aload_n 0, 1) := by decide +kernel
theorem dX8_failAt_8 : decode cX8_failAt 8 = .ok (.iload_n 2, 1) := by decide +kernel
theorem dX8_failAt_9 : decode cX8_failAt 9 = .ok (.putfield 26, 3) := by decide +kernel
theorem dX8_failAt_12 : decode cX8_failAt 12 = .ok (.aload_n 0, 1) := by decide +kernel
theorem dX8_failAt_13 : decode cX8_failAt 13 = .ok (.iload_n 1, 1) := by decide +kernel
theorem dX8_failAt_14 : decode cX8_failAt 14 = .ok (.putfield 29, 3) := by decide +kernel
theorem dX8_failAt_17 : decode cX8_failAt 17 = .ok (.return_, 1) := by decide +kernel
theorem dX8_fail_0 : decode cX8_fail 0 = .ok (.aload_n 0, 1) := by decide +kernel
theorem dX8_fail_1 : decode cX8_fail 1 = .ok (.aload_n 0, 1) := by decide +kernel
theorem dX8_fail_2 : decode cX8_fail 2 = .ok (.getfield 20, 3) := by decide +kernel
theorem dX8_fail_5 : decode cX8_fail 5 = .ok (.iload_n 1, 1) := by decide +kernel
theorem dX8_fail_6 : decode cX8_fail 6 = .ok (.invokevirtual 32, 3) := by decide +kernel
theorem dX8_fail_9 : decode cX8_fail 9 = .ok (.return_, 1) := by decide +kernel
theorem dX8_advance_0 : decode cX8_advance 0 = .ok (.aload_n 0, 1) := by decide +kernel
theorem dX8_advance_1 : decode cX8_advance 1 = .ok (.invokevirtual 36, 3) := by decide +kernel
theorem dX8_advance_4 : decode cX8_advance 4 = .ok (.ifCond .ne 4, 3) := by decide +kernel
theorem dX8_advance_7 : decode cX8_advance 7 = .ok (.return_, 1) := by decide +kernel
theorem dX8_advance_8 : decode cX8_advance 8 = .ok (.aload_n 0, 1) := by decide +kernel
theorem dX8_advance_9 : decode cX8_advance 9 = .ok (.aload_n 0, 1) := by decide +kernel
theorem dX8_advance_10 : decode cX8_advance 10 = .ok (.getfield 23, 3) := by decide +kernel
theorem dX8_advance_13 : decode cX8_advance 13 = .ok (.putfield 20, 3) := by decide +kernel
theorem dX8_advance_16 : decode cX8_advance 16 = .ok (.aload_n 0, 1) := by decide +kernel
theorem dX8_advance_17 : decode cX8_advance 17 = .ok (.getfield 20, 3) := by decide +kernel
theorem dX8_advance_20 : decode cX8_advance 20 = .ok (.istore_n 1, 1) := by decide +kernel
theorem dX8_advance_21 : decode cX8_advance 21 = .ok (.iload_n 1, 1) := by decide +kernel
theorem dX8_advance_22 : decode cX8_advance 22 = .ok (.aload_n 0, 1) := by decide +kernel
theorem dX8_advance_23 : decode cX8_advance 23 = .ok (.getfield 13, 3) := by decide +kernel
theorem dX8_advance_26 : decode cX8_advance 26 = .ok (.if_icmp .ge 25, 3) := by decide +kernel
theorem dX8_advance_29 : decode cX8_advance 29 = .ok (.aload_n 0, 1) := by decide +kernel
theorem dX8_advance_30 : decode cX8_advance 30 = .ok (.iload_n 1, 1) := by decide +kernel
theorem dX8_advance_31 : decode cX8_advance 31 = .ok (.invokevirtual 40, 3) := by decide +kernel
theorem dX8_advance_34 : decode cX8_advance 34 = .ok (.iconst 4, 1) := by decide +kernel
theorem dX8_advance_35 : decode cX8_advance 35 = .ok (.if_icmp .ne 16, 3) := by decide +kernel
theorem dX8_advance_38 : decode cX8_advance 38 = .ok (.aload_n 0, 1) := by decide +kernel
theorem dX8_advance_39 : decode cX8_advance 39 = .ok (.iload_n 1, 1) := by decide +kernel
theorem dX8_advance_40 : decode cX8_advance 40 = .ok (.iconst 1, 1) := by decide +kernel
theorem dX8_advance_41 : decode cX8_advance 41 = .ok (.iadd, 1) := by decide +kernel
theorem dX8_advance_42 : decode cX8_advance 42 = .ok (.putfield 20, 3) := by decide +kernel
theorem dX8_advance_45 : decode cX8_advance 45 = .ok (.iinc 1 1, 3) := by decide +kernel
theorem dX8_advance_48 : decode cX8_advance 48 = .ok (.goto (-27), 3) := by decide +kernel
theorem dX8_advance_51 : decode cX8_advance 51 = .ok (.aload_n 0, 1) := by decide +kernel
theorem dX8_advance_52 : decode cX8_advance 52 = .ok (.aload_n 0, 1) := by decide +kernel
theorem dX8_advance_53 : decode cX8_advance 53 = .ok (.aload_n 0, 1) := by decide +kernel
theorem dX8_advance_54 : decode cX8_advance 54 = .ok (.getfield 20, 3) := by decide +kernel
theorem dX8_advance_57 : decode cX8_advance 57 = .ok (.invokevirtual 40, 3) := by decide +kernel
theorem dX8_advance_60 : decode cX8_advance 60 = .ok (.putfield 17, 3) := by decide +kernel
theorem dX8_advance_63 : decode cX8_advance 63 = .ok (.aload_n 0, 1) := by decide +kernel
theorem dX8_advance_64 : decode cX8_advance 64 = .ok (.aload_n 0, 1) := by decide +kernel
theorem dX8_advance_65 : decode cX8_advance 65 = .ok (.getfield 13, 3) := by decide +kernel
theorem dX8_advance_68 : decode cX8_advance 68 = .ok (.aload_n 0, 1) := by decide +kernel
theorem dX8_advance_69 : decode cX8_advance 69 = .ok (.getfield 20, 3) := by decide +kernel
theorem dX8_advance_72 : decode cX8_advance 72 = .ok (.iconst 1, 1) := by decide +kernel
theorem dX8_advance_73 : decode cX8_advance 73 = .ok (.iadd, 1) := by decide +kernel
theorem dX8_advance_74 : decode cX8_advance 74 = .ok (.invokestatic 44, 3) := by decide +kernel
theorem dX8_advance_77 : decode cX8_advance 77 = .ok (.putfield 23, 3) := by decide +kernel
theorem dX8_advance_80 : decode cX8_advance 80 = .ok (.aload_n 0, 1) := by decide +kernel
theorem dX8_advance_81 : decode cX8_advance 81 = .ok (.getfield 17, 3) := by decide +kernel
theorem dX8_advance_84 : decode cX8_advance 84 = .ok (.iconst 1, 1) := by decide +kernel
theorem dX8_advance_85 : decode cX8_advance 85 = .ok (.if_icmp .eq 11, 3) := by decide +kernel
theorem dX8_advance_88 : decode cX8_advance 88 = .ok (.aload_n 0, 1) := by decide +kernel
theorem dX8_advance_89 : decode cX8_advance 89 = .ok (.getfield 17, 3) := by decide +kernel
theorem dX8_advance_92 : decode cX8_advance 92 = .ok (.iconst 2, 1) := by decide +kernel
theorem dX8_advance_93 : decode cX8_advance 93 = .ok (.if_icmp .ne 7, 3) := by decide +kernel
theorem dX8_advance_96 : decode cX8_advance 96 = .ok (.iconst 1, 1) := by decide +kernel
theorem dX8_advance_97 : decode cX8_advance 97 = .ok (.goto 4, 3) := by decide +kernel
theorem dX8_advance_100 : decode cX8_advance 100 = .ok (.iconst 0, 1) := by decide +kernel
theorem dX8_advance_101 : decode cX8_advance 101 = .ok (.istore_n 1, 1) := by decide +kernel
theorem dX8_advance_102 : decode cX8_advance 102 = .ok (.aload_n 0, 1) := by decide +kernel
theorem dX8_advance_103 : decode cX8_advance 103 = .ok (.getfield 23, 3) := by decide +kernel
theorem dX8_advance_106 : decode cX8_advance 106 = .ok (.istore_n 2, 1) := by decide +kernel
theorem dX8_advance_107 : decode cX8_advance 107 = .ok (.iload_n 1, 1) := by decide +kernel
theorem dX8_advance_108 : decode cX8_advance 108 = .ok (.ifCond .eq 36, 3) := by decide +kernel
theorem dX8_advance_111 : decode cX8_advance 111 = .ok (.iload_n 2, 1) := by decide +kernel
theorem dX8_advance_112 : decode cX8_advance 112 = .ok (.aload_n 0, 1) := by decide +kernel
theorem dX8_advance_113 : decode cX8_advance 113 = .ok (.getfield 13, 3) := by decide +kernel
theorem dX8_advance_116 : decode cX8_advance 116 = .ok (.if_icmp .ge 28, 3) := by decide +kernel
theorem dX8_advance_119 : decode cX8_advance 119 = .ok (.aload_n 0, 1) := by decide +kernel
theorem dX8_advance_120 : decode cX8_advance 120 = .ok (.iload_n 2, 1) := by decide +kernel
theorem dX8_advance_121 : decode cX8_advance 121 = .ok (.invokevirtual 40, 3) := by decide +kernel
theorem dX8_advance_124 : decode cX8_advance 124 = .ok (.aload_n 0, 1) := by decide +kernel
theorem dX8_advance_125 : decode cX8_advance 125 = .ok (.getfield 17, 3) := by decide +kernel
theorem dX8_advance_128 : decode cX8_advance 128 = .ok (.if_icmp .ne 16, 3) := by decide +kernel
theorem dX8_advance_131 : decode cX8_advance 131 = .ok (.aload_n 0, 1) := by decide +kernel
theorem dX8_advance_132 : decode cX8_advance 132 = .ok (.iload_n 2, 1) := by decide +kernel
theorem dX8_advance_133 : decode cX8_advance 133 = .ok (.iconst 1, 1) := by decide +kernel
theorem dX8_advance_134 : decode cX8_advance 134 = .ok (.iadd, 1) := by decide +kernel
theorem dX8_advance_135 : decode cX8_advance 135 = .ok (.putfield 23, 3) := by decide +kernel
theorem dX8_advance_138 : decode cX8_advance 138 = .ok (.iinc 2 1, 3) := by decide +kernel
theorem dX8_advance_141 : decode cX8_advance 141 = .ok (.goto (-34), 3) := by decide +kernel
theorem dX8_advance_144 : decode cX8_advance 144 = .ok (.aload_n 0, 1) := by decide +kernel
theorem dX8_advance_145 : decode cX8_advance 145 = .ok (.getfield 17, 3) := by decide +kernel
theorem dX8_advance_148 : decode cX8_advance 148 = .ok (.iconst 5, 1) := by decide +kernel
theorem dX8_advance_149 : decode cX8_advance 149 = .ok (.if_icmp .eq 24, 3) := by decide +kernel
theorem dX8_advance_152 : decode cX8_advance 152 = .ok (.aload_n 0, 1) := by decide +kernel
theorem dX8_advance_153 : decode cX8_advance 153 = .ok (.getfield 17, 3) := by decide +kernel
theorem dX8_advance_156 : decode cX8_advance 156 = .ok (.iconst 2, 1) := by decide +kernel
theorem dX8_advance_157 : decode cX8_advance 157 = .ok (.if_icmp .ne 21, 3) := by decide +kernel
theorem dX8_advance_160 : decode cX8_advance 160 = .ok (.aload_n 0, 1) := by decide +kernel
theorem dX8_advance_161 : decode cX8_advance 161 = .ok (.getfield 23, 3) := by decide +kernel
theorem dX8_advance_164 : decode cX8_advance 164 = .ok (.aload_n 0, 1) := by decide +kernel
theorem dX8_advance_165 : decode cX8_advance 165 = .ok (.getfield 20, 3) := by decide +kernel
theorem dX8_advance_168 : decode cX8_advance 168 = .ok (.isub, 1) := by decide +kernel
theorem dX8_advance_169 : decode cX8_advance 169 = .ok (.iconst 2, 1) := by decide +kernel
theorem dX8_advance_170 : decode cX8_advance 170 = .ok (.if_icmp .le 8, 3) := by decide +kernel
theorem dX8_advance_173 : decode cX8_advance 173 = .ok (.aload_n 0, 1) := by decide +kernel
theorem dX8_advance_174 : decode cX8_advance 174 = .ok (.iconst 1, 1) := by decide +kernel
theorem dX8_advance_175 : decode cX8_advance 175 = .ok (.invokevirtual 50, 3) := by decide +kernel
theorem dX8_advance_178 : decode cX8_advance 178 = .ok (.return_, 1) := by decide +kernel
theorem dX8_kindAt_0 : decode cX8_kindAt 0 = .ok (.aload_n 0, 1) := by decide +kernel
theorem dX8_kindAt_1 : decode cX8_kindAt 1 = .ok (.iload_n 1, 1) := by decide +kernel
theorem dX8_kindAt_2 : decode cX8_kindAt 2 = .ok (.invokevirtual 54, 3) := by decide +kernel
theorem dX8_kindAt_5 : decode cX8_kindAt 5 = .ok (.istore_n 2, 1) := by decide +kernel
theorem dX8_kindAt_6 : decode cX8_kindAt 6 = .ok (.iload_n 2, 1) := by decide +kernel
theorem dX8_kindAt_7 : decode cX8_kindAt 7 = .ok (.ifCond .ge 5, 3) := by decide +kernel
theorem dX8_kindAt_10 : decode cX8_kindAt 10 = .ok (.iconst 0, 1) := by decide +kernel
theorem dX8_kindAt_11 : decode cX8_kindAt 11 = .ok (.ireturn, 1) := by decide +kernel
theorem dX8_kindAt_12 : decode cX8_kindAt 12 = .ok (.iload_n 2, 1) := by decide +kernel
theorem dX8_kindAt_13 : decode cX8_kindAt 13 = .ok (.bipush 97, 2) := by decide +kernel
theorem dX8_kindAt_15 : decode cX8_kindAt 15 = .ok (.if_icmp .lt 11, 3) := by decide +kernel
theorem dX8_kindAt_18 : decode cX8_kindAt 18 = .ok (.iload_n 2, 1) := by decide +kernel
theorem dX8_kindAt_19 : decode cX8_kindAt 19 = .ok (.bipush 122, 2) := by decide +kernel
theorem dX8_kindAt_21 : decode cX8_kindAt 21 = .ok (.if_icmp .gt 5, 3) := by decide +kernel
theorem dX8_kindAt_24 : decode cX8_kindAt 24 = .ok (.iconst 1, 1) := by decide +kernel
theorem dX8_kindAt_25 : decode cX8_kindAt 25 = .ok (.ireturn, 1) := by decide +kernel
theorem dX8_kindAt_26 : decode cX8_kindAt 26 = .ok (.iload_n 2, 1) := by decide +kernel
theorem dX8_kindAt_27 : decode cX8_kindAt 27 = .ok (.bipush 48, 2) := by decide +kernel
theorem dX8_kindAt_29 : decode cX8_kindAt 29 = .ok (.if_icmp .lt 11, 3) := by decide +kernel
theorem dX8_kindAt_32 : decode cX8_kindAt 32 = .ok (.iload_n 2, 1) := by decide +kernel
theorem dX8_kindAt_33 : decode cX8_kindAt 33 = .ok (.bipush 57, 2) := by decide +kernel
theorem dX8_kindAt_35 : decode cX8_kindAt 35 = .ok (.if_icmp .gt 5, 3) := by decide +kernel
theorem dX8_kindAt_38 : decode cX8_kindAt 38 = .ok (.iconst 2, 1) := by decide +kernel
theorem dX8_kindAt_39 : decode cX8_kindAt 39 = .ok (.ireturn, 1) := by decide +kernel
theorem dX8_kindAt_40 : decode cX8_kindAt 40 = .ok (.iload_n 2, 1) := by decide +kernel
theorem dX8_kindAt_41 : decode cX8_kindAt 41 = .ok (.bipush 32, 2) := by decide +kernel
theorem dX8_kindAt_43 : decode cX8_kindAt 43 = .ok (.if_icmp .ne 5, 3) := by decide +kernel
theorem dX8_kindAt_46 : decode cX8_kindAt 46 = .ok (.iconst 4, 1) := by decide +kernel
theorem dX8_kindAt_47 : decode cX8_kindAt 47 = .ok (.ireturn, 1) := by decide +kernel
theorem dX8_kindAt_48 : decode cX8_kindAt 48 = .ok (.iload_n 2, 1) := by decide +kernel
theorem dX8_kindAt_49 : decode cX8_kindAt 49 = .ok (.bipush 59, 2) := by decide +kernel
theorem dX8_kindAt_51 : decode cX8_kindAt 51 = .ok (.if_icmp .ne 7, 3) := by decide +kernel
theorem dX8_kindAt_54 : decode cX8_kindAt 54 = .ok (.iconst 3, 1) := by decide +kernel
theorem dX8_kindAt_55 : decode cX8_kindAt 55 = .ok (.goto 4, 3) := by decide +kernel
theorem dX8_kindAt_58 : decode cX8_kindAt 58 = .ok (.iconst 5, 1) := by decide +kernel
theorem dX8_kindAt_59 : decode cX8_kindAt 59 = .ok (.ireturn, 1) := by decide +kernel
theorem dX8_isName_0 : decode cX8_isName 0 = .ok (.aload_n 0, 1) := by decide +kernel
theorem dX8_isName_1 : decode cX8_isName 1 = .ok (.getfield 17, 3) := by decide +kernel
theorem dX8_isName_4 : decode cX8_isName 4 = .ok (.iconst 1, 1) := by decide +kernel
theorem dX8_isName_5 : decode cX8_isName 5 = .ok (.if_icmp .ne 19, 3) := by decide +kernel
theorem dX8_isName_8 : decode cX8_isName 8 = .ok (.aload_n 0, 1) := by decide +kernel
theorem dX8_isName_9 : decode cX8_isName 9 = .ok (.getfield 23, 3) := by decide +kernel
theorem dX8_isName_12 : decode cX8_isName 12 = .ok (.aload_n 0, 1) := by decide +kernel
theorem dX8_isName_13 : decode cX8_isName 13 = .ok (.getfield 20, 3) := by decide +kernel
theorem dX8_isName_16 : decode cX8_isName 16 = .ok (.isub, 1) := by decide +kernel
theorem dX8_isName_17 : decode cX8_isName 17 = .ok (.aload_n 1, 1) := by decide +kernel
theorem dX8_isName_18 : decode cX8_isName 18 = .ok (.invokevirtual 57, 3) := by decide +kernel
theorem dX8_isName_21 : decode cX8_isName 21 = .ok (.if_icmp .eq 5, 3) := by decide +kernel
theorem dX8_isName_24 : decode cX8_isName 24 = .ok (.iconst 0, 1) := by decide +kernel
theorem dX8_isName_25 : decode cX8_isName 25 = .ok (.ireturn, 1) := by decide +kernel
theorem dX8_isName_26 : decode cX8_isName 26 = .ok (.iconst 0, 1) := by decide +kernel
theorem dX8_isName_27 : decode cX8_isName 27 = .ok (.istore_n 2, 1) := by decide +kernel
theorem dX8_isName_28 : decode cX8_isName 28 = .ok (.iload_n 2, 1) := by decide +kernel
theorem dX8_isName_29 : decode cX8_isName 29 = .ok (.aload_n 1, 1) := by decide +kernel
theorem dX8_isName_30 : decode cX8_isName 30 = .ok (.invokevirtual 57, 3) := by decide +kernel
theorem dX8_isName_33 : decode cX8_isName 33 = .ok (.if_icmp .ge 29, 3) := by decide +kernel
theorem dX8_isName_36 : decode cX8_isName 36 = .ok (.aload_n 0, 1) := by decide +kernel
theorem dX8_isName_37 : decode cX8_isName 37 = .ok (.aload_n 0, 1) := by decide +kernel
theorem dX8_isName_38 : decode cX8_isName 38 = .ok (.getfield 20, 3) := by decide +kernel
theorem dX8_isName_41 : decode cX8_isName 41 = .ok (.iload_n 2, 1) := by decide +kernel
theorem dX8_isName_42 : decode cX8_isName 42 = .ok (.iadd, 1) := by decide +kernel
theorem dX8_isName_43 : decode cX8_isName 43 = .ok (.invokevirtual 54, 3) := by decide +kernel
theorem dX8_isName_46 : decode cX8_isName 46 = .ok (.aload_n 1, 1) := by decide +kernel
theorem dX8_isName_47 : decode cX8_isName 47 = .ok (.iload_n 2, 1) := by decide +kernel
theorem dX8_isName_48 : decode cX8_isName 48 = .ok (.invokevirtual 62, 3) := by decide +kernel
theorem dX8_isName_51 : decode cX8_isName 51 = .ok (.if_icmp .eq 5, 3) := by decide +kernel
theorem dX8_isName_54 : decode cX8_isName 54 = .ok (.iconst 0, 1) := by decide +kernel
theorem dX8_isName_55 : decode cX8_isName 55 = .ok (.ireturn, 1) := by decide +kernel
theorem dX8_isName_56 : decode cX8_isName 56 = .ok (.iinc 2 1, 3) := by decide +kernel
theorem dX8_isName_59 : decode cX8_isName 59 = .ok (.goto (-31), 3) := by decide +kernel
theorem dX8_isName_62 : decode cX8_isName 62 = .ok (.iconst 1, 1) := by decide +kernel
theorem dX8_isName_63 : decode cX8_isName 63 = .ok (.ireturn, 1) := by decide +kernel
theorem dX8_takeNumber_0 : decode cX8_takeNumber 0 = .ok (.aload_n 0, 1) := by decide +kernel
theorem dX8_takeNumber_1 : decode cX8_takeNumber 1 = .ok (.invokevirtual 66, 3) := by decide +kernel
theorem dX8_takeNumber_4 : decode cX8_takeNumber 4 = .ok (.aload_n 0, 1) := by decide +kernel
theorem dX8_takeNumber_5 : decode cX8_takeNumber 5 = .ok (.invokevirtual 36, 3) := by decide +kernel
theorem dX8_takeNumber_8 : decode cX8_takeNumber 8 = .ok (.ifCond .eq 16, 3) := by decide +kernel
theorem dX8_takeNumber_11 : decode cX8_takeNumber 11 = .ok (.aload_n 0, 1) := by decide +kernel
theorem dX8_takeNumber_12 : decode cX8_takeNumber 12 = .ok (.getfield 17, 3) := by decide +kernel
theorem dX8_takeNumber_15 : decode cX8_takeNumber 15 = .ok (.iconst 2, 1) := by decide +kernel
theorem dX8_takeNumber_16 : decode cX8_takeNumber 16 = .ok (.if_icmp .eq 8, 3) := by decide +kernel
theorem dX8_takeNumber_19 : decode cX8_takeNumber 19 = .ok (.aload_n 0, 1) := by decide +kernel
theorem dX8_takeNumber_20 : decode cX8_takeNumber 20 = .ok (.iconst 2, 1) := by decide +kernel
theorem dX8_takeNumber_21 : decode cX8_takeNumber 21 = .ok (.invokevirtual 50, 3) := by decide +kernel
theorem dX8_takeNumber_24 : decode cX8_takeNumber 24 = .ok (.iconst 0, 1) := by decide +kernel
theorem dX8_takeNumber_25 : decode cX8_takeNumber 25 = .ok (.istore_n 3, 1) := by decide +kernel
theorem dX8_takeNumber_26 : decode cX8_takeNumber 26 = .ok (.aload_n 0, 1) := by decide +kernel
theorem dX8_takeNumber_27 : decode cX8_takeNumber 27 = .ok (.getfield 20, 3) := by decide +kernel
theorem dX8_takeNumber_30 : decode cX8_takeNumber 30 = .ok (.istore 4, 2) := by decide +kernel
theorem dX8_takeNumber_32 : decode cX8_takeNumber 32 = .ok (.iload 4, 2) := by decide +kernel
theorem dX8_takeNumber_34 : decode cX8_takeNumber 34 = .ok (.aload_n 0, 1) := by decide +kernel
theorem dX8_takeNumber_35 : decode cX8_takeNumber 35 = .ok (.getfield 23, 3) := by decide +kernel
theorem dX8_takeNumber_38 : decode cX8_takeNumber 38 = .ok (.if_icmp .ge 31, 3) := by decide +kernel
theorem dX8_takeNumber_41 : decode cX8_takeNumber 41 = .ok (.aload_n 0, 1) := by decide +kernel
theorem dX8_takeNumber_42 : decode cX8_takeNumber 42 = .ok (.invokevirtual 36, 3) := by decide +kernel
theorem dX8_takeNumber_45 : decode cX8_takeNumber 45 = .ok (.ifCond .eq 24, 3) := by decide +kernel
theorem dX8_takeNumber_48 : decode cX8_takeNumber 48 = .ok (.bipush 10, 2) := by decide +kernel
theorem dX8_takeNumber_50 : decode cX8_takeNumber 50 = .ok (.iload_n 3, 1) := by decide +kernel
theorem dX8_takeNumber_51 : decode cX8_takeNumber 51 = .ok (.imul, 1) := by decide +kernel
theorem dX8_takeNumber_52 : decode cX8_takeNumber 52 = .ok (.aload_n 0, 1) := by decide +kernel
theorem dX8_takeNumber_53 : decode cX8_takeNumber 53 = .ok (.iload 4, 2) := by decide +kernel
theorem dX8_takeNumber_55 : decode cX8_takeNumber 55 = .ok (.invokevirtual 54, 3) := by decide +kernel
theorem dX8_takeNumber_58 : decode cX8_takeNumber 58 = .ok (.iadd, 1) := by decide +kernel
theorem dX8_takeNumber_59 : decode cX8_takeNumber 59 = .ok (.bipush 48, 2) := by decide +kernel
theorem dX8_takeNumber_61 : decode cX8_takeNumber 61 = .ok (.isub, 1) := by decide +kernel
theorem dX8_takeNumber_62 : decode cX8_takeNumber 62 = .ok (.istore_n 3, 1) := by decide +kernel
theorem dX8_takeNumber_63 : decode cX8_takeNumber 63 = .ok (.iinc 4 1, 3) := by decide +kernel
theorem dX8_takeNumber_66 : decode cX8_takeNumber 66 = .ok (.goto (-34), 3) := by decide +kernel
theorem dX8_takeNumber_69 : decode cX8_takeNumber 69 = .ok (.aload_n 0, 1) := by decide +kernel
theorem dX8_takeNumber_70 : decode cX8_takeNumber 70 = .ok (.invokevirtual 36, 3) := by decide +kernel
theorem dX8_takeNumber_73 : decode cX8_takeNumber 73 = .ok (.ifCond .eq 18, 3) := by decide +kernel
theorem dX8_takeNumber_76 : decode cX8_takeNumber 76 = .ok (.iload_n 3, 1) := by decide +kernel
theorem dX8_takeNumber_77 : decode cX8_takeNumber 77 = .ok (.iload_n 1, 1) := by decide +kernel
theorem dX8_takeNumber_78 : decode cX8_takeNumber 78 = .ok (.if_icmp .lt 8, 3) := by decide +kernel
theorem dX8_takeNumber_81 : decode cX8_takeNumber 81 = .ok (.iload_n 3, 1) := by decide +kernel
theorem dX8_takeNumber_82 : decode cX8_takeNumber 82 = .ok (.iload_n 2, 1) := by decide +kernel
theorem dX8_takeNumber_83 : decode cX8_takeNumber 83 = .ok (.if_icmp .le 8, 3) := by decide +kernel
theorem dX8_takeNumber_86 : decode cX8_takeNumber 86 = .ok (.aload_n 0, 1) := by decide +kernel
theorem dX8_takeNumber_87 : decode cX8_takeNumber 87 = .ok (.iconst 3, 1) := by decide +kernel
theorem dX8_takeNumber_88 : decode cX8_takeNumber 88 = .ok (.invokevirtual 50, 3) := by decide +kernel
theorem dX8_takeNumber_91 : decode cX8_takeNumber 91 = .ok (.aload_n 0, 1) := by decide +kernel
theorem dX8_takeNumber_92 : decode cX8_takeNumber 92 = .ok (.invokevirtual 36, 3) := by decide +kernel
theorem dX8_takeNumber_95 : decode cX8_takeNumber 95 = .ok (.ifCond .eq 7, 3) := by decide +kernel
theorem dX8_takeNumber_98 : decode cX8_takeNumber 98 = .ok (.iload_n 3, 1) := by decide +kernel
theorem dX8_takeNumber_99 : decode cX8_takeNumber 99 = .ok (.goto 4, 3) := by decide +kernel
theorem dX8_takeNumber_102 : decode cX8_takeNumber 102 = .ok (.iload_n 1, 1) := by decide +kernel
theorem dX8_takeNumber_103 : decode cX8_takeNumber 103 = .ok (.ireturn, 1) := by decide +kernel
theorem dX8_takeWrap_0 : decode cX8_takeWrap 0 = .ok (.aload_n 0, 1) := by decide +kernel
theorem dX8_takeWrap_1 : decode cX8_takeWrap 1 = .ok (.invokevirtual 66, 3) := by decide +kernel
theorem dX8_takeWrap_4 : decode cX8_takeWrap 4 = .ok (.aload_n 0, 1) := by decide +kernel
theorem dX8_takeWrap_5 : decode cX8_takeWrap 5 = .ok (.ldc 69, 2) := by decide +kernel
theorem dX8_takeWrap_7 : decode cX8_takeWrap 7 = .ok (.invokevirtual 71, 3) := by decide +kernel
theorem dX8_takeWrap_10 : decode cX8_takeWrap 10 = .ok (.ifCond .eq 5, 3) := by decide +kernel
theorem dX8_takeWrap_13 : decode cX8_takeWrap 13 = .ok (.iconst 0, 1) := by decide +kernel
theorem dX8_takeWrap_14 : decode cX8_takeWrap 14 = .ok (.ireturn, 1) := by decide +kernel
theorem dX8_takeWrap_15 : decode cX8_takeWrap 15 = .ok (.aload_n 0, 1) := by decide +kernel
theorem dX8_takeWrap_16 : decode cX8_takeWrap 16 = .ok (.ldc 75, 2) := by decide +kernel
theorem dX8_takeWrap_18 : decode cX8_takeWrap 18 = .ok (.invokevirtual 71, 3) := by decide +kernel
theorem dX8_takeWrap_21 : decode cX8_takeWrap 21 = .ok (.ifCond .eq 5, 3) := by decide +kernel
theorem dX8_takeWrap_24 : decode cX8_takeWrap 24 = .ok (.iconst 1, 1) := by decide +kernel
theorem dX8_takeWrap_25 : decode cX8_takeWrap 25 = .ok (.ireturn, 1) := by decide +kernel
theorem dX8_takeWrap_26 : decode cX8_takeWrap 26 = .ok (.aload_n 0, 1) := by decide +kernel
theorem dX8_takeWrap_27 : decode cX8_takeWrap 27 = .ok (.ldc 77, 2) := by decide +kernel
theorem dX8_takeWrap_29 : decode cX8_takeWrap 29 = .ok (.invokevirtual 71, 3) := by decide +kernel
theorem dX8_takeWrap_32 : decode cX8_takeWrap 32 = .ok (.ifCond .eq 5, 3) := by decide +kernel
theorem dX8_takeWrap_35 : decode cX8_takeWrap 35 = .ok (.iconst 2, 1) := by decide +kernel
theorem dX8_takeWrap_36 : decode cX8_takeWrap 36 = .ok (.ireturn, 1) := by decide +kernel
theorem dX8_takeWrap_37 : decode cX8_takeWrap 37 = .ok (.aload_n 0, 1) := by decide +kernel
theorem dX8_takeWrap_38 : decode cX8_takeWrap 38 = .ok (.iconst 2, 1) := by decide +kernel
theorem dX8_takeWrap_39 : decode cX8_takeWrap 39 = .ok (.invokevirtual 50, 3) := by decide +kernel
theorem dX8_takeWrap_42 : decode cX8_takeWrap 42 = .ok (.iconst 0, 1) := by decide +kernel
theorem dX8_takeWrap_43 : decode cX8_takeWrap 43 = .ok (.ireturn, 1) := by decide +kernel
theorem dX8_takeMark_0 : decode cX8_takeMark 0 = .ok (.aload_n 0, 1) := by decide +kernel
theorem dX8_takeMark_1 : decode cX8_takeMark 1 = .ok (.invokevirtual 66, 3) := by decide +kernel
theorem dX8_takeMark_4 : decode cX8_takeMark 4 = .ok (.aload_n 0, 1) := by decide +kernel
theorem dX8_takeMark_5 : decode cX8_takeMark 5 = .ok (.getfield 17, 3) := by decide +kernel
theorem dX8_takeMark_8 : decode cX8_takeMark 8 = .ok (.iconst 3, 1) := by decide +kernel
theorem dX8_takeMark_9 : decode cX8_takeMark 9 = .ok (.if_icmp .eq 8, 3) := by decide +kernel
theorem dX8_takeMark_12 : decode cX8_takeMark 12 = .ok (.aload_n 0, 1) := by decide +kernel
theorem dX8_takeMark_13 : decode cX8_takeMark 13 = .ok (.iconst 2, 1) := by decide +kernel
theorem dX8_takeMark_14 : decode cX8_takeMark 14 = .ok (.invokevirtual 50, 3) := by decide +kernel
theorem dX8_takeMark_17 : decode cX8_takeMark 17 = .ok (.return_, 1) := by decide +kernel
theorem dX9_init_0 : decode cX9_init 0 = .ok (.aload_n 0, 1) := by decide +kernel
theorem dX9_init_1 : decode cX9_init 1 = .ok (.invokespecial 3, 3) := by decide +kernel
theorem dX9_init_4 : decode cX9_init 4 = .ok (.aload_n 0, 1) := by decide +kernel
theorem dX9_init_5 : decode cX9_init 5 = .ok (.bipush 21, 2) := by decide +kernel
theorem dX9_init_7 : decode cX9_init 7 = .ok (.newarray .int, 2) := by decide +kernel
theorem dX9_init_9 : decode cX9_init 9 = .ok (.putfield 9, 3) := by decide +kernel
theorem dX9_init_12 : decode cX9_init 12 = .ok (.aload_n 0, 1) := by decide +kernel
theorem dX9_init_13 : decode cX9_init 13 = .ok (.bipush 10, 2) := by decide +kernel
theorem dX9_init_15 : decode cX9_init 15 = .ok (.newarray .int, 2) := by decide +kernel
theorem dX9_init_17 : decode cX9_init 17 = .ok (.putfield 15, 3) := by decide +kernel
theorem dX9_init_20 : decode cX9_init 20 = .ok (.return_, 1) := by decide +kernel
theorem dX9_followFor_0 : decode cX9_followFor 0 = .ok (.iload_n 2, 1) := by decide +kernel
theorem dX9_followFor_1 : decode cX9_followFor 1 = .ok (.bipush (-4), 2) := by decide +kernel
theorem dX9_followFor_3 : decode cX9_followFor 3 = .ok (.if_icmp .ne 12, 3) := by decide +kernel
theorem dX9_followFor_6 : decode cX9_followFor 6 = .ok (.aload_n 0, 1) := by decide +kernel
theorem dX9_followFor_7 : decode cX9_followFor 7 = .ok (.getfield 9, 3) := by decide +kernel
theorem dX9_followFor_10 : decode cX9_followFor 10 = .ok (.iconst 0, 1) := by decide +kernel
theorem dX9_followFor_11 : decode cX9_followFor 11 = .ok (.invokestatic 18, 3) := by decide +kernel
theorem dX9_followFor_14 : decode cX9_followFor 14 = .ok (.return_, 1) := by decide +kernel
theorem dX9_followFor_15 : decode cX9_followFor 15 = .ok (.aload_n 0, 1) := by decide +kernel
theorem dX9_followFor_16 : decode cX9_followFor 16 = .ok (.aload_n 1, 1) := by decide +kernel
theorem dX9_followFor_17 : decode cX9_followFor 17 = .ok (.iload_n 2, 1) := by decide +kernel
theorem dX9_followFor_18 : decode cX9_followFor 18 = .ok (.invokevirtual 24, 3) := by decide +kernel
theorem dX9_followFor_21 : decode cX9_followFor 21 = .ok (.aload_n 0, 1) := by decide +kernel
theorem dX9_followFor_22 : decode cX9_followFor 22 = .ok (.aload_n 1, 1) := by decide +kernel
theorem dX9_followFor_23 : decode cX9_followFor 23 = .ok (.iload_n 2, 1) := by decide +kernel
theorem dX9_followFor_24 : decode cX9_followFor 24 = .ok (.invokevirtual 28, 3) := by decide +kernel
theorem dX9_followFor_27 : decode cX9_followFor 27 = .ok (.aload_n 1, 1) := by decide +kernel
theorem dX9_followFor_28 : decode cX9_followFor 28 = .ok (.iload_n 2, 1) := by decide +kernel
theorem dX9_followFor_29 : decode cX9_followFor 29 = .ok (.invokevirtual 34, 3) := by decide +kernel
theorem dX9_followFor_32 : decode cX9_followFor 32 = .ok (.iload_n 3, 1) := by decide +kernel
theorem dX9_followFor_33 : decode cX9_followFor 33 = .ok (.invokevirtual 37, 3) := by decide +kernel
theorem dX9_followFor_36 : decode cX9_followFor 36 = .ok (.return_, 1) := by decide +kernel
theorem dX9_gatherEmbers_0 : decode cX9_gatherEmbers 0 = .ok (.aload_n 0, 1) := by decide +kernel
theorem dX9_gatherEmbers_1 : decode cX9_gatherEmbers 1 = .ok (.getfield 15, 3) := by decide +kernel
theorem dX9_gatherEmbers_4 : decode cX9_gatherEmbers 4 = .ok (.iconst 0, 1) := by decide +kernel
theorem dX9_gatherEmbers_5 : decode cX9_gatherEmbers 5 = .ok (.invokestatic 18, 3) := by decide +kernel
theorem dX9_gatherEmbers_8 : decode cX9_gatherEmbers 8 = .ok (.iconst 0, 1) := by decide +kernel
theorem dX9_gatherEmbers_9 : decode cX9_gatherEmbers 9 = .ok (.istore_n 3, 1) := by decide +kernel
theorem dX9_gatherEmbers_10 : decode cX9_gatherEmbers 10 = .ok (.iload_n 3, 1) := by decide +kernel
theorem dX9_gatherEmbers_11 : decode cX9_gatherEmbers 11 = .ok (.aload_n 1, 1) := by decide +kernel
theorem dX9_gatherEmbers_12 : decode cX9_gatherEmbers 12 = .ok (.getfield 41, 3) := by decide +kernel
theorem dX9_gatherEmbers_15 : decode cX9_gatherEmbers 15 = .ok (.if_icmp .ge 38, 3) := by decide +kernel
theorem dX9_gatherEmbers_18 : decode cX9_gatherEmbers 18 = .ok (.aload_n 1, 1) := by decide +kernel
theorem dX9_gatherEmbers_19 : decode cX9_gatherEmbers 19 = .ok (.getfield 45, 3) := by decide +kernel
theorem dX9_gatherEmbers_22 : decode cX9_gatherEmbers 22 = .ok (.iload_n 3, 1) := by decide +kernel
theorem dX9_gatherEmbers_23 : decode cX9_gatherEmbers 23 = .ok (.iaload, 1) := by decide +kernel
theorem dX9_gatherEmbers_24 : decode cX9_gatherEmbers 24 = .ok (.iload_n 2, 1) := by decide +kernel
theorem dX9_gatherEmbers_25 : decode cX9_gatherEmbers 25 = .ok (.iconst 3, 1) := by decide +kernel
theorem dX9_gatherEmbers_26 : decode cX9_gatherEmbers 26 = .ok (.idiv, 1) := by decide +kernel
theorem dX9_gatherEmbers_27 : decode cX9_gatherEmbers 27 = .ok (.if_icmp .ne 20, 3) := by decide +kernel
theorem dX9_gatherEmbers_30 : decode cX9_gatherEmbers 30 = .ok (.aload_n 0, 1) := by decide +kernel
theorem dX9_gatherEmbers_31 : decode cX9_gatherEmbers 31 = .ok (.aload_n 1, 1) := by decide +kernel
theorem dX9_gatherEmbers_32 : decode cX9_gatherEmbers 32 = .ok (.getfield 48, 3) := by decide +kernel
theorem dX9_gatherEmbers_35 : decode cX9_gatherEmbers 35 = .ok (.iload_n 3, 1) := by decide +kernel
theorem dX9_gatherEmbers_36 : decode cX9_gatherEmbers 36 = .ok (.iaload, 1) := by decide +kernel
theorem dX9_gatherEmbers_37 : decode cX9_gatherEmbers 37 = .ok (.iload_n 2, 1) := by decide +kernel
theorem dX9_gatherEmbers_38 : decode cX9_gatherEmbers 38 = .ok (.aload_n 1, 1) := by decide +kernel
theorem dX9_gatherEmbers_39 : decode cX9_gatherEmbers 39 = .ok (.getfield 51, 3) := by decide +kernel
theorem dX9_gatherEmbers_42 : decode cX9_gatherEmbers 42 = .ok (.iload_n 3, 1) := by decide +kernel
theorem dX9_gatherEmbers_43 : decode cX9_gatherEmbers 43 = .ok (.iaload, 1) := by decide +kernel
theorem dX9_gatherEmbers_44 : decode cX9_gatherEmbers 44 = .ok (.invokevirtual 54, 3) := by decide +kernel
theorem dX9_gatherEmbers_47 : decode cX9_gatherEmbers 47 = .ok (.iinc 3 1, 3) := by decide +kernel
theorem dX9_gatherEmbers_50 : decode cX9_gatherEmbers 50 = .ok (.goto (-40), 3) := by decide +kernel
theorem dX9_gatherEmbers_53 : decode cX9_gatherEmbers 53 = .ok (.return_, 1) := by decide +kernel
theorem dX9_addEmber_0 : decode cX9_addEmber 0 = .ok (.iload_n 3, 1) := by decide +kernel
theorem dX9_addEmber_1 : decode cX9_addEmber 1 = .ok (.ifCond .lt 28, 3) := by decide +kernel
theorem dX9_addEmber_4 : decode cX9_addEmber 4 = .ok (.iload_n 3, 1) := by decide +kernel
theorem dX9_addEmber_5 : decode cX9_addEmber 5 = .ok (.aload_n 0, 1) := by decide +kernel
theorem dX9_addEmber_6 : decode cX9_addEmber 6 = .ok (.getfield 15, 3) := by decide +kernel
theorem dX9_addEmber_9 : decode cX9_addEmber 9 = .ok (.arraylength, 1) := by decide +kernel
theorem dX9_addEmber_10 : decode cX9_addEmber 10 = .ok (.if_icmp .ge 19, 3) := by decide +kernel
theorem dX9_addEmber_13 : decode cX9_addEmber 13 = .ok (.aload_n 0, 1) := by decide +kernel
theorem dX9_addEmber_14 : decode cX9_addEmber 14 = .ok (.getfield 15, 3) := by decide +kernel
theorem dX9_addEmber_17 : decode cX9_addEmber 17 = .ok (.iload_n 3, 1) := by decide +kernel
theorem dX9_addEmber_18 : decode cX9_addEmber 18 = .ok (.dup2, 1) := by decide +kernel
theorem dX9_addEmber_19 : decode cX9_addEmber 19 = .ok (.iaload, 1) := by decide +kernel
theorem dX9_addEmber_20 : decode cX9_addEmber 20 = .ok (.iload_n 1, 1) := by decide +kernel
theorem dX9_addEmber_21 : decode cX9_addEmber 21 = .ok (.iload_n 2, 1) := by decide +kernel
theorem dX9_addEmber_22 : decode cX9_addEmber 22 = .ok (.iconst 3, 1) := by decide +kernel
theorem dX9_addEmber_23 : decode cX9_addEmber 23 = .ok (.irem, 1) := by decide +kernel
theorem dX9_addEmber_24 : decode cX9_addEmber 24 = .ok (.invokestatic 57, 3) := by decide +kernel
theorem dX9_addEmber_27 : decode cX9_addEmber 27 = .ok (.iadd, 1) := by decide +kernel
theorem dX9_addEmber_28 : decode cX9_addEmber 28 = .ok (.iastore, 1) := by decide +kernel
theorem dX9_addEmber_29 : decode cX9_addEmber 29 = .ok (.return_, 1) := by decide +kernel
theorem dX9_follow_0 : decode cX9_follow 0 = .ok (.aload_n 0, 1) := by decide +kernel
theorem dX9_follow_1 : decode cX9_follow 1 = .ok (.getfield 9, 3) := by decide +kernel
theorem dX9_follow_4 : decode cX9_follow 4 = .ok (.iconst 0, 1) := by decide +kernel
theorem dX9_follow_5 : decode cX9_follow 5 = .ok (.iload_n 1, 1) := by decide +kernel
theorem dX9_follow_6 : decode cX9_follow 6 = .ok (.iastore, 1) := by decide +kernel
theorem dX9_follow_7 : decode cX9_follow 7 = .ok (.iconst 1, 1) := by decide +kernel
theorem dX9_follow_8 : decode cX9_follow 8 = .ok (.istore 4, 2) := by decide +kernel
theorem dX9_follow_10 : decode cX9_follow 10 = .ok (.iload 4, 2) := by decide +kernel
theorem dX9_follow_12 : decode cX9_follow 12 = .ok (.iload_n 3, 1) := by decide +kernel
theorem dX9_follow_13 : decode cX9_follow 13 = .ok (.if_icmp .gt 72, 3) := by decide +kernel
theorem dX9_follow_16 : decode cX9_follow 16 = .ok (.iload 4, 2) := by decide +kernel
theorem dX9_follow_18 : decode cX9_follow 18 = .ok (.aload_n 0, 1) := by decide +kernel
theorem dX9_follow_19 : decode cX9_follow 19 = .ok (.getfield 9, 3) := by decide +kernel
theorem dX9_follow_22 : decode cX9_follow 22 = .ok (.arraylength, 1) := by decide +kernel
theorem dX9_follow_23 : decode cX9_follow 23 = .ok (.if_icmp .ge 62, 3) := by decide +kernel
theorem dX9_follow_26 : decode cX9_follow 26 = .ok (.iload 4, 2) := by decide +kernel
theorem dX9_follow_28 : decode cX9_follow 28 = .ok (.aload_n 0, 1) := by decide +kernel
theorem dX9_follow_29 : decode cX9_follow 29 = .ok (.getfield 15, 3) := by decide +kernel
theorem dX9_follow_32 : decode cX9_follow 32 = .ok (.arraylength, 1) := by decide +kernel
theorem dX9_follow_33 : decode cX9_follow 33 = .ok (.if_icmp .ge 13, 3) := by decide +kernel
theorem dX9_follow_36 : decode cX9_follow 36 = .ok (.aload_n 0, 1) := by decide +kernel
theorem dX9_follow_37 : decode cX9_follow 37 = .ok (.getfield 15, 3) := by decide +kernel
theorem dX9_follow_40 : decode cX9_follow 40 = .ok (.iload 4, 2) := by decide +kernel
theorem dX9_follow_42 : decode cX9_follow 42 = .ok (.iaload, 1) := by decide +kernel
theorem dX9_follow_43 : decode cX9_follow 43 = .ok (.goto 4, 3) := by decide +kernel
theorem dX9_follow_46 : decode cX9_follow 46 = .ok (.iconst 0, 1) := by decide +kernel
theorem dX9_follow_47 : decode cX9_follow 47 = .ok (.istore 5, 2) := by decide +kernel
theorem dX9_follow_49 : decode cX9_follow 49 = .ok (.aload_n 0, 1) := by decide +kernel
theorem dX9_follow_50 : decode cX9_follow 50 = .ok (.getfield 9, 3) := by decide +kernel
theorem dX9_follow_53 : decode cX9_follow 53 = .ok (.iload 4, 2) := by decide +kernel
theorem dX9_follow_55 : decode cX9_follow 55 = .ok (.iconst 0, 1) := by decide +kernel
theorem dX9_follow_56 : decode cX9_follow 56 = .ok (.bipush 99, 2) := by decide +kernel
theorem dX9_follow_58 : decode cX9_follow 58 = .ok (.aload_n 0, 1) := by decide +kernel
theorem dX9_follow_59 : decode cX9_follow 59 = .ok (.getfield 9, 3) := by decide +kernel
theorem dX9_follow_62 : decode cX9_follow 62 = .ok (.iload 4, 2) := by decide +kernel
theorem dX9_follow_64 : decode cX9_follow 64 = .ok (.iconst 1, 1) := by decide +kernel
theorem dX9_follow_65 : decode cX9_follow 65 = .ok (.isub, 1) := by decide +kernel
theorem dX9_follow_66 : decode cX9_follow 66 = .ok (.iaload, 1) := by decide +kernel
theorem dX9_follow_67 : decode cX9_follow 67 = .ok (.iload 5, 2) := by decide +kernel
theorem dX9_follow_69 : decode cX9_follow 69 = .ok (.iadd, 1) := by decide +kernel
theorem dX9_follow_70 : decode cX9_follow 70 = .ok (.invokestatic 61, 3) := by decide +kernel
theorem dX9_follow_73 : decode cX9_follow 73 = .ok (.iload_n 2, 1) := by decide +kernel
theorem dX9_follow_74 : decode cX9_follow 74 = .ok (.isub, 1) := by decide +kernel
theorem dX9_follow_75 : decode cX9_follow 75 = .ok (.invokestatic 66, 3) := by decide +kernel
theorem dX9_follow_78 : decode cX9_follow 78 = .ok (.iastore, 1) := by decide +kernel
theorem dX9_follow_79 : decode cX9_follow 79 = .ok (.iinc 4 1, 3) := by decide +kernel
theorem dX9_follow_82 : decode cX9_follow 82 = .ok (.goto (-72), 3) := by decide +kernel
theorem dX9_follow_85 : decode cX9_follow 85 = .ok (.return_, 1) := by decide +kernel
theorem dX9_coreGain_0 : decode cX9_coreGain 0 = .ok (.iconst 0, 1) := by decide +kernel
theorem dX9_coreGain_1 : decode cX9_coreGain 1 = .ok (.istore_n 3, 1) := by decide +kernel
theorem dX9_coreGain_2 : decode cX9_coreGain 2 = .ok (.iconst 0, 1) := by decide +kernel
theorem dX9_coreGain_3 : decode cX9_coreGain 3 = .ok (.istore 4, 2) := by decide +kernel
theorem dX9_coreGain_5 : decode cX9_coreGain 5 = .ok (.iload 4, 2) := by decide +kernel
theorem dX9_coreGain_7 : decode cX9_coreGain 7 = .ok (.iload_n 2, 1) := by decide +kernel
theorem dX9_coreGain_8 : decode cX9_coreGain 8 = .ok (.if_icmp .ge 33, 3) := by decide +kernel
theorem dX9_coreGain_11 : decode cX9_coreGain 11 = .ok (.iload 4, 2) := by decide +kernel
theorem dX9_coreGain_13 : decode cX9_coreGain 13 = .ok (.aload_n 0, 1) := by decide +kernel
theorem dX9_coreGain_14 : decode cX9_coreGain 14 = .ok (.getfield 9, 3) := by decide +kernel
theorem dX9_coreGain_17 : decode cX9_coreGain 17 = .ok (.arraylength, 1) := by decide +kernel
theorem dX9_coreGain_18 : decode cX9_coreGain 18 = .ok (.if_icmp .ge 23, 3) := by decide +kernel
theorem dX9_coreGain_21 : decode cX9_coreGain 21 = .ok (.iload_n 3, 1) := by decide +kernel
theorem dX9_coreGain_22 : decode cX9_coreGain 22 = .ok (.aload_n 0, 1) := by decide +kernel
theorem dX9_coreGain_23 : decode cX9_coreGain 23 = .ok (.getfield 9, 3) := by decide +kernel
theorem dX9_coreGain_26 : decode cX9_coreGain 26 = .ok (.iload 4, 2) := by decide +kernel
theorem dX9_coreGain_28 : decode cX9_coreGain 28 = .ok (.iaload, 1) := by decide +kernel
theorem dX9_coreGain_29 : decode cX9_coreGain 29 = .ok (.iload_n 1, 1) := by decide +kernel
theorem dX9_coreGain_30 : decode cX9_coreGain 30 = .ok (.invokestatic 69, 3) := by decide +kernel
theorem dX9_coreGain_33 : decode cX9_coreGain 33 = .ok (.iadd, 1) := by decide +kernel
theorem dX9_coreGain_34 : decode cX9_coreGain 34 = .ok (.istore_n 3, 1) := by decide +kernel
theorem dX9_coreGain_35 : decode cX9_coreGain 35 = .ok (.iinc 4 1, 3) := by decide +kernel
theorem dX9_coreGain_38 : decode cX9_coreGain 38 = .ok (.goto (-33), 3) := by decide +kernel
theorem dX9_coreGain_41 : decode cX9_coreGain 41 = .ok (.iload_n 3, 1) := by decide +kernel
theorem dX9_coreGain_42 : decode cX9_coreGain 42 = .ok (.ireturn, 1) := by decide +kernel
theorem dX9_sideGain_0 : decode cX9_sideGain 0 = .ok (.iconst 0, 1) := by decide +kernel
theorem dX9_sideGain_1 : decode cX9_sideGain 1 = .ok (.istore 4, 2) := by decide +kernel
theorem dX9_sideGain_3 : decode cX9_sideGain 3 = .ok (.iload_n 2, 1) := by decide +kernel
theorem dX9_sideGain_4 : decode cX9_sideGain 4 = .ok (.istore 5, 2) := by decide +kernel
theorem dX9_sideGain_6 : decode cX9_sideGain 6 = .ok (.iload 5, 2) := by decide +kernel
theorem dX9_sideGain_8 : decode cX9_sideGain 8 = .ok (.iload_n 3, 1) := by decide +kernel
theorem dX9_sideGain_9 : decode cX9_sideGain 9 = .ok (.if_icmp .ge 35, 3) := by decide +kernel
theorem dX9_sideGain_12 : decode cX9_sideGain 12 = .ok (.iload 5, 2) := by decide +kernel
theorem dX9_sideGain_14 : decode cX9_sideGain 14 = .ok (.aload_n 0, 1) := by decide +kernel
theorem dX9_sideGain_15 : decode cX9_sideGain 15 = .ok (.getfield 9, 3) := by decide +kernel
theorem dX9_sideGain_18 : decode cX9_sideGain 18 = .ok (.arraylength, 1) := by decide +kernel
theorem dX9_sideGain_19 : decode cX9_sideGain 19 = .ok (.if_icmp .ge 25, 3) := by decide +kernel
theorem dX9_sideGain_22 : decode cX9_sideGain 22 = .ok (.iload 4, 2) := by decide +kernel
theorem dX9_sideGain_24 : decode cX9_sideGain 24 = .ok (.aload_n 0, 1) := by decide +kernel
theorem dX9_sideGain_25 : decode cX9_sideGain 25 = .ok (.getfield 9, 3) := by decide +kernel
theorem dX9_sideGain_28 : decode cX9_sideGain 28 = .ok (.iload 5, 2) := by decide +kernel
theorem dX9_sideGain_30 : decode cX9_sideGain 30 = .ok (.iaload, 1) := by decide +kernel
theorem dX9_sideGain_31 : decode cX9_sideGain 31 = .ok (.iload_n 1, 1) := by decide +kernel
theorem dX9_sideGain_32 : decode cX9_sideGain 32 = .ok (.invokestatic 74, 3) := by decide +kernel
theorem dX9_sideGain_35 : decode cX9_sideGain 35 = .ok (.iadd, 1) := by decide +kernel
theorem dX9_sideGain_36 : decode cX9_sideGain 36 = .ok (.istore 4, 2) := by decide +kernel
theorem dX9_sideGain_38 : decode cX9_sideGain 38 = .ok (.iinc 5 1, 3) := by decide +kernel
theorem dX9_sideGain_41 : decode cX9_sideGain 41 = .ok (.goto (-35), 3) := by decide +kernel
theorem dX9_sideGain_44 : decode cX9_sideGain 44 = .ok (.iload 4, 2) := by decide +kernel
theorem dX9_sideGain_46 : decode cX9_sideGain 46 = .ok (.ireturn, 1) := by decide +kernel
theorem dJ6_bitCount_0f7a4_0 : decode cJ6_bitCount_0f7a4 0 = .ok (.iload_n 0, 1) := by decide +kernel
theorem dJ6_bitCount_0f7a4_1 : decode cJ6_bitCount_0f7a4 1 = .ok (.iload_n 0, 1) := by decide +kernel
theorem dJ6_bitCount_0f7a4_2 : decode cJ6_bitCount_0f7a4 2 = .ok (.iconst 1, 1) := by decide +kernel
theorem dJ6_bitCount_0f7a4_3 : decode cJ6_bitCount_0f7a4 3 = .ok (.iushr, 1) := by decide +kernel
theorem dJ6_bitCount_0f7a4_4 : decode cJ6_bitCount_0f7a4 4 = .ok (.ldc_w 265, 3) := by decide +kernel
theorem dJ6_bitCount_0f7a4_7 : decode cJ6_bitCount_0f7a4 7 = .ok (.iand, 1) := by decide +kernel
theorem dJ6_bitCount_0f7a4_8 : decode cJ6_bitCount_0f7a4 8 = .ok (.isub, 1) := by decide +kernel
theorem dJ6_bitCount_0f7a4_9 : decode cJ6_bitCount_0f7a4 9 = .ok (.istore_n 0, 1) := by decide +kernel
theorem dJ6_bitCount_0f7a4_10 : decode cJ6_bitCount_0f7a4 10 = .ok (.iload_n 0, 1) := by decide +kernel
theorem dJ6_bitCount_0f7a4_11 : decode cJ6_bitCount_0f7a4 11 = .ok (.ldc_w 266, 3) := by decide +kernel
theorem dJ6_bitCount_0f7a4_14 : decode cJ6_bitCount_0f7a4 14 = .ok (.iand, 1) := by decide +kernel
theorem dJ6_bitCount_0f7a4_15 : decode cJ6_bitCount_0f7a4 15 = .ok (.iload_n 0, 1) := by decide +kernel
theorem dJ6_bitCount_0f7a4_16 : decode cJ6_bitCount_0f7a4 16 = .ok (.iconst 2, 1) := by decide +kernel
theorem dJ6_bitCount_0f7a4_17 : decode cJ6_bitCount_0f7a4 17 = .ok (.iushr, 1) := by decide +kernel
theorem dJ6_bitCount_0f7a4_18 : decode cJ6_bitCount_0f7a4 18 = .ok (.ldc_w 266, 3) := by decide +kernel
theorem dJ6_bitCount_0f7a4_21 : decode cJ6_bitCount_0f7a4 21 = .ok (.iand, 1) := by decide +kernel
theorem dJ6_bitCount_0f7a4_22 : decode cJ6_bitCount_0f7a4 22 = .ok (.iadd, 1) := by decide +kernel
theorem dJ6_bitCount_0f7a4_23 : decode cJ6_bitCount_0f7a4 23 = .ok (.istore_n 0, 1) := by decide +kernel
theorem dJ6_bitCount_0f7a4_24 : decode cJ6_bitCount_0f7a4 24 = .ok (.iload_n 0, 1) := by decide +kernel
theorem dJ6_bitCount_0f7a4_25 : decode cJ6_bitCount_0f7a4 25 = .ok (.iload_n 0, 1) := by decide +kernel
theorem dJ6_bitCount_0f7a4_26 : decode cJ6_bitCount_0f7a4 26 = .ok (.iconst 4, 1) := by decide +kernel
theorem dJ6_bitCount_0f7a4_27 : decode cJ6_bitCount_0f7a4 27 = .ok (.iushr, 1) := by decide +kernel
theorem dJ6_bitCount_0f7a4_28 : decode cJ6_bitCount_0f7a4 28 = .ok (.iadd, 1) := by decide +kernel
theorem dJ6_bitCount_0f7a4_29 : decode cJ6_bitCount_0f7a4 29 = .ok (.ldc_w 267, 3) := by decide +kernel
theorem dJ6_bitCount_0f7a4_32 : decode cJ6_bitCount_0f7a4 32 = .ok (.iand, 1) := by decide +kernel
theorem dJ6_bitCount_0f7a4_33 : decode cJ6_bitCount_0f7a4 33 = .ok (.istore_n 0, 1) := by decide +kernel
theorem dJ6_bitCount_0f7a4_34 : decode cJ6_bitCount_0f7a4 34 = .ok (.iload_n 0, 1) := by decide +kernel
theorem dJ6_bitCount_0f7a4_35 : decode cJ6_bitCount_0f7a4 35 = .ok (.iload_n 0, 1) := by decide +kernel
theorem dJ6_bitCount_0f7a4_36 : decode cJ6_bitCount_0f7a4 36 = .ok (.bipush 8, 2) := by decide +kernel
theorem dJ6_bitCount_0f7a4_38 : decode cJ6_bitCount_0f7a4 38 = .ok (.iushr, 1) := by decide +kernel
theorem dJ6_bitCount_0f7a4_39 : decode cJ6_bitCount_0f7a4 39 = .ok (.iadd, 1) := by decide +kernel
theorem dJ6_bitCount_0f7a4_40 : decode cJ6_bitCount_0f7a4 40 = .ok (.istore_n 0, 1) := by decide +kernel
theorem dJ6_bitCount_0f7a4_41 : decode cJ6_bitCount_0f7a4 41 = .ok (.iload_n 0, 1) := by decide +kernel
theorem dJ6_bitCount_0f7a4_42 : decode cJ6_bitCount_0f7a4 42 = .ok (.iload_n 0, 1) := by decide +kernel
theorem dJ6_bitCount_0f7a4_43 : decode cJ6_bitCount_0f7a4 43 = .ok (.bipush 16, 2) := by decide +kernel
theorem dJ6_bitCount_0f7a4_45 : decode cJ6_bitCount_0f7a4 45 = .ok (.iushr, 1) := by decide +kernel
theorem dJ6_bitCount_0f7a4_46 : decode cJ6_bitCount_0f7a4 46 = .ok (.iadd, 1) := by decide +kernel
theorem dJ6_bitCount_0f7a4_47 : decode cJ6_bitCount_0f7a4 47 = .ok (.istore_n 0, 1) := by decide +kernel
theorem dJ6_bitCount_0f7a4_48 : decode cJ6_bitCount_0f7a4 48 = .ok (.iload_n 0, 1) := by decide +kernel
theorem dJ6_bitCount_0f7a4_49 : decode cJ6_bitCount_0f7a4 49 = .ok (.bipush 63, 2) := by decide +kernel
theorem dJ6_bitCount_0f7a4_51 : decode cJ6_bitCount_0f7a4 51 = .ok (.iand, 1) := by decide +kernel
theorem dJ6_bitCount_0f7a4_52 : decode cJ6_bitCount_0f7a4 52 = .ok (.ireturn, 1) := by decide +kernel
theorem dJ9_abs_0f7a4_0 : decode cJ9_abs_0f7a4 0 = .ok (.iload_n 0, 1) := by decide +kernel
theorem dJ9_abs_0f7a4_1 : decode cJ9_abs_0f7a4 1 = .ok (.ifCond .ge 8, 3) := by decide +kernel
theorem dJ9_abs_0f7a4_4 : decode cJ9_abs_0f7a4 4 = .ok (.iload_n 0, 1) := by decide +kernel
theorem dJ9_abs_0f7a4_5 : decode cJ9_abs_0f7a4 5 = .ok (.ineg, 1) := by decide +kernel
theorem dJ9_abs_0f7a4_6 : decode cJ9_abs_0f7a4 6 = .ok (.goto 4, 3) := by decide +kernel
theorem dJ9_abs_0f7a4_9 : decode cJ9_abs_0f7a4 9 = .ok (.iload_n 0, 1) := by decide +kernel
theorem dJ9_abs_0f7a4_10 : decode cJ9_abs_0f7a4 10 = .ok (.ireturn, 1) := by decide +kernel
theorem dJ9_max_7cf53_0 : decode cJ9_max_7cf53 0 = .ok (.iload_n 0, 1) := by decide +kernel
theorem dJ9_max_7cf53_1 : decode cJ9_max_7cf53 1 = .ok (.iload_n 1, 1) := by decide +kernel
theorem dJ9_max_7cf53_2 : decode cJ9_max_7cf53 2 = .ok (.if_icmp .lt 7, 3) := by decide +kernel
theorem dJ9_max_7cf53_5 : decode cJ9_max_7cf53 5 = .ok (.iload_n 0, 1) := by decide +kernel
theorem dJ9_max_7cf53_6 : decode cJ9_max_7cf53 6 = .ok (.goto 4, 3) := by decide +kernel
theorem dJ9_max_7cf53_9 : decode cJ9_max_7cf53 9 = .ok (.iload_n 1, 1) := by decide +kernel
theorem dJ9_max_7cf53_10 : decode cJ9_max_7cf53 10 = .ok (.ireturn, 1) := by decide +kernel
theorem dJ9_min_7cf53_0 : decode cJ9_min_7cf53 0 = .ok (.iload_n 0, 1) := by decide +kernel
theorem dJ9_min_7cf53_1 : decode cJ9_min_7cf53 1 = .ok (.iload_n 1, 1) := by decide +kernel
theorem dJ9_min_7cf53_2 : decode cJ9_min_7cf53 2 = .ok (.if_icmp .gt 7, 3) := by decide +kernel
theorem dJ9_min_7cf53_5 : decode cJ9_min_7cf53 5 = .ok (.iload_n 0, 1) := by decide +kernel
theorem dJ9_min_7cf53_6 : decode cJ9_min_7cf53 6 = .ok (.goto 4, 3) := by decide +kernel
theorem dJ9_min_7cf53_9 : decode cJ9_min_7cf53 9 = .ok (.iload_n 1, 1) := by decide +kernel
theorem dJ9_min_7cf53_10 : decode cJ9_min_7cf53 10 = .ok (.ireturn, 1) := by decide +kernel
theorem dJ0_length_8abf5_0 : decode cJ0_length_8abf5 0 = .ok (.aload_n 0, 1) := by decide +kernel
theorem dJ0_length_8abf5_1 : decode cJ0_length_8abf5 1 = .ok (.getfield 9, 3) := by decide +kernel
theorem dJ0_length_8abf5_4 : decode cJ0_length_8abf5 4 = .ok (.arraylength, 1) := by decide +kernel
theorem dJ0_length_8abf5_5 : decode cJ0_length_8abf5 5 = .ok (.aload_n 0, 1) := by decide +kernel
theorem dJ0_length_8abf5_6 : decode cJ0_length_8abf5 6 = .ok (.invokevirtual 335, 3) := by decide +kernel
theorem dJ0_length_8abf5_9 : decode cJ0_length_8abf5 9 = .ok (.ishr, 1) := by decide +kernel
theorem dJ0_length_8abf5_10 : decode cJ0_length_8abf5 10 = .ok (.ireturn, 1) := by decide +kernel
theorem dJ0_charAt_5068e_0 : decode cJ0_charAt_5068e 0 = .ok (.aload_n 0, 1) := by decide +kernel
theorem dJ0_charAt_5068e_1 : decode cJ0_charAt_5068e 1 = .ok (.invokevirtual 492, 3) := by decide +kernel
theorem dJ0_charAt_5068e_4 : decode cJ0_charAt_5068e 4 = .ok (.ifCond .eq 12, 3) := by decide +kernel
theorem dJ0_charAt_5068e_7 : decode cJ0_charAt_5068e 7 = .ok (.aload_n 0, 1) := by decide +kernel
theorem dJ0_charAt_5068e_8 : decode cJ0_charAt_5068e 8 = .ok (.getfield 9, 3) := by decide +kernel
theorem dJ0_charAt_5068e_11 : decode cJ0_charAt_5068e 11 = .ok (.iload_n 1, 1) := by decide +kernel
theorem dJ0_charAt_5068e_12 : decode cJ0_charAt_5068e 12 = .ok (.invokestatic 495, 3) := by decide +kernel
theorem dJ0_charAt_5068e_15 : decode cJ0_charAt_5068e 15 = .ok (.ireturn, 1) := by decide +kernel
theorem dJ0_charAt_5068e_16 : decode cJ0_charAt_5068e 16 = .ok (.aload_n 0, 1) := by decide +kernel
theorem dJ0_charAt_5068e_17 : decode cJ0_charAt_5068e 17 = .ok (.getfield 9, 3) := by decide +kernel
theorem dJ0_charAt_5068e_20 : decode cJ0_charAt_5068e 20 = .ok (.iload_n 1, 1) := by decide +kernel
theorem dJ0_charAt_5068e_21 : decode cJ0_charAt_5068e 21 = .ok (.invokestatic 498, 3) := by decide +kernel
theorem dJ0_charAt_5068e_24 : decode cJ0_charAt_5068e 24 = .ok (.ireturn, 1) := by decide +kernel
theorem dJ0_coder_7d493_0 : decode cJ0_coder_7d493 0 = .ok (.getstatic 38, 3) := by decide +kernel
theorem dJ0_coder_7d493_3 : decode cJ0_coder_7d493 3 = .ok (.ifCond .eq 10, 3) := by decide +kernel
theorem dJ0_coder_7d493_6 : decode cJ0_coder_7d493 6 = .ok (.aload_n 0, 1) := by decide +kernel
theorem dJ0_coder_7d493_7 : decode cJ0_coder_7d493 7 = .ok (.getfield 15, 3) := by decide +kernel
theorem dJ0_coder_7d493_10 : decode cJ0_coder_7d493 10 = .ok (.goto 4, 3) := by decide +kernel
theorem dJ0_coder_7d493_13 : decode cJ0_coder_7d493 13 = .ok (.iconst 1, 1) := by decide +kernel
theorem dJ0_coder_7d493_14 : decode cJ0_coder_7d493 14 = .ok (.ireturn, 1) := by decide +kernel
theorem dJ0_isLatin1_aae02_0 : decode cJ0_isLatin1_aae02 0 = .ok (.getstatic 38, 3) := by decide +kernel
theorem dJ0_isLatin1_aae02_3 : decode cJ0_isLatin1_aae02 3 = .ok (.ifCond .eq 14, 3) := by decide +kernel
theorem dJ0_isLatin1_aae02_6 : decode cJ0_isLatin1_aae02 6 = .ok (.aload_n 0, 1) := by decide +kernel
theorem dJ0_isLatin1_aae02_7 : decode cJ0_isLatin1_aae02 7 = .ok (.getfield 15, 3) := by decide +kernel
theorem dJ0_isLatin1_aae02_10 : decode cJ0_isLatin1_aae02 10 = .ok (.ifCond .ne 7, 3) := by decide +kernel
theorem dJ0_isLatin1_aae02_13 : decode cJ0_isLatin1_aae02 13 = .ok (.iconst 1, 1) := by decide +kernel
theorem dJ0_isLatin1_aae02_14 : decode cJ0_isLatin1_aae02 14 = .ok (.goto 4, 3) := by decide +kernel
theorem dJ0_isLatin1_aae02_17 : decode cJ0_isLatin1_aae02 17 = .ok (.iconst 0, 1) := by decide +kernel
theorem dJ0_isLatin1_aae02_18 : decode cJ0_isLatin1_aae02 18 = .ok (.ireturn, 1) := by decide +kernel
theorem dJ0_checkIndex_df160_0 : decode cJ0_checkIndex_df160 0 = .ok (.iload_n 0, 1) := by decide +kernel
theorem dJ0_checkIndex_df160_1 : decode cJ0_checkIndex_df160 1 = .ok (.iload_n 1, 1) := by decide +kernel
theorem dJ0_checkIndex_df160_2 : decode cJ0_checkIndex_df160 2 = .ok (.getstatic 1053, 3) := by decide +kernel
theorem dJ0_checkIndex_df160_5 : decode cJ0_checkIndex_df160 5 = .ok (.invokestatic 1059, 3) := by decide +kernel
theorem dJ0_checkIndex_df160_8 : decode cJ0_checkIndex_df160 8 = .ok (.pop, 1) := by decide +kernel
theorem dJ0_checkIndex_df160_9 : decode cJ0_checkIndex_df160 9 = .ok (.return_, 1) := by decide +kernel
theorem dJ1_charAt_3b067_0 : decode cJ1_charAt_3b067 0 = .ok (.iload_n 1, 1) := by decide +kernel
theorem dJ1_charAt_3b067_1 : decode cJ1_charAt_3b067 1 = .ok (.aload_n 0, 1) := by decide +kernel
theorem dJ1_charAt_3b067_2 : decode cJ1_charAt_3b067 2 = .ok (.arraylength, 1) := by decide +kernel
theorem dJ1_charAt_3b067_3 : decode cJ1_charAt_3b067 3 = .ok (.invokestatic 9, 3) := by decide +kernel
theorem dJ1_charAt_3b067_6 : decode cJ1_charAt_3b067 6 = .ok (.aload_n 0, 1) := by decide +kernel
theorem dJ1_charAt_3b067_7 : decode cJ1_charAt_3b067 7 = .ok (.iload_n 1, 1) := by decide +kernel
theorem dJ1_charAt_3b067_8 : decode cJ1_charAt_3b067 8 = .ok (.baload, 1) := by decide +kernel
theorem dJ1_charAt_3b067_9 : decode cJ1_charAt_3b067 9 = .ok (.sipush 255, 3) := by decide +kernel
theorem dJ1_charAt_3b067_12 : decode cJ1_charAt_3b067 12 = .ok (.iand, 1) := by decide +kernel
theorem dJ1_charAt_3b067_13 : decode cJ1_charAt_3b067 13 = .ok (.i2c, 1) := by decide +kernel
theorem dJ1_charAt_3b067_14 : decode cJ1_charAt_3b067 14 = .ok (.ireturn, 1) := by decide +kernel
theorem dJ2_getChar_3b067_0 : decode cJ2_getChar_3b067 0 = .ok (.getstatic 44, 3) := by decide +kernel
theorem dJ2_getChar_3b067_3 : decode cJ2_getChar_3b067 3 = .ok (.ifCond .ne 25, 3) := by decide +kernel
theorem dJ2_getChar_3b067_6 : decode cJ2_getChar_3b067 6 = .ok (.iload_n 1, 1) := by decide +kernel
theorem dJ2_getChar_3b067_7 : decode cJ2_getChar_3b067 7 = .ok (.ifCond .lt 11, 3) := by decide +kernel
theorem dJ2_getChar_3b067_10 : decode cJ2_getChar_3b067 10 = .ok (.iload_n 1, 1) := by decide +kernel
theorem dJ2_getChar_3b067_11 : decode cJ2_getChar_3b067 11 = .ok (.aload_n 0, 1) := by decide +kernel
theorem dJ2_getChar_3b067_12 : decode cJ2_getChar_3b067 12 = .ok (.invokestatic 48, 3) := by decide +kernel
theorem dJ2_getChar_3b067_15 : decode cJ2_getChar_3b067 15 = .ok (.if_icmp .lt 13, 3) := by decide +kernel
theorem dJ2_getChar_3b067_18 : decode cJ2_getChar_3b067 18 = .ok (.new 52, 3) := by decide +kernel
theorem dJ2_getChar_3b067_21 : decode cJ2_getChar_3b067 21 = .ok (.dup, 1) := by decide +kernel
theorem dJ2_getChar_3b067_22 : decode cJ2_getChar_3b067 22 = .ok (.ldc 54, 2) := by decide +kernel
theorem dJ2_getChar_3b067_24 : decode cJ2_getChar_3b067 24 = .ok (.invokespecial 56, 3) := by decide +kernel
theorem dJ2_getChar_3b067_27 : decode cJ2_getChar_3b067 27 = .ok (.athrow, 1) := by decide +kernel
theorem dJ2_getChar_3b067_28 : decode cJ2_getChar_3b067 28 = .ok (.iload_n 1, 1) := by decide +kernel
theorem dJ2_getChar_3b067_29 : decode cJ2_getChar_3b067 29 = .ok (.iconst 1, 1) := by decide +kernel
theorem dJ2_getChar_3b067_30 : decode cJ2_getChar_3b067 30 = .ok (.ishl, 1) := by decide +kernel
theorem dJ2_getChar_3b067_31 : decode cJ2_getChar_3b067 31 = .ok (.istore_n 1, 1) := by decide +kernel
theorem dJ2_getChar_3b067_32 : decode cJ2_getChar_3b067 32 = .ok (.aload_n 0, 1) := by decide +kernel
theorem dJ2_getChar_3b067_33 : decode cJ2_getChar_3b067 33 = .ok (.iload_n 1, 1) := by decide +kernel
theorem dJ2_getChar_3b067_34 : decode cJ2_getChar_3b067 34 = .ok (.iinc 1 1, 3) := by decide +kernel
theorem dJ2_getChar_3b067_37 : decode cJ2_getChar_3b067 37 = .ok (.baload, 1) := by decide +kernel
theorem dJ2_getChar_3b067_38 : decode cJ2_getChar_3b067 38 = .ok (.sipush 255, 3) := by decide +kernel
theorem dJ2_getChar_3b067_41 : decode cJ2_getChar_3b067 41 = .ok (.iand, 1) := by decide +kernel
theorem dJ2_getChar_3b067_42 : decode cJ2_getChar_3b067 42 = .ok (.getstatic 59, 3) := by decide +kernel
theorem dJ2_getChar_3b067_45 : decode cJ2_getChar_3b067 45 = .ok (.ishl, 1) := by decide +kernel
theorem dJ2_getChar_3b067_46 : decode cJ2_getChar_3b067 46 = .ok (.aload_n 0, 1) := by decide +kernel
theorem dJ2_getChar_3b067_47 : decode cJ2_getChar_3b067 47 = .ok (.iload_n 1, 1) := by decide +kernel
theorem dJ2_getChar_3b067_48 : decode cJ2_getChar_3b067 48 = .ok (.baload, 1) := by decide +kernel
theorem dJ2_getChar_3b067_49 : decode cJ2_getChar_3b067 49 = .ok (.sipush 255, 3) := by decide +kernel
theorem dJ2_getChar_3b067_52 : decode cJ2_getChar_3b067 52 = .ok (.iand, 1) := by decide +kernel
theorem dJ2_getChar_3b067_53 : decode cJ2_getChar_3b067 53 = .ok (.getstatic 63, 3) := by decide +kernel
theorem dJ2_getChar_3b067_56 : decode cJ2_getChar_3b067 56 = .ok (.ishl, 1) := by decide +kernel
theorem dJ2_getChar_3b067_57 : decode cJ2_getChar_3b067 57 = .ok (.ior, 1) := by decide +kernel
theorem dJ2_getChar_3b067_58 : decode cJ2_getChar_3b067 58 = .ok (.i2c, 1) := by decide +kernel
theorem dJ2_getChar_3b067_59 : decode cJ2_getChar_3b067 59 = .ok (.ireturn, 1) := by decide +kernel
theorem dJ2_length_9d52b_0 : decode cJ2_length_9d52b 0 = .ok (.aload_n 0, 1) := by decide +kernel
theorem dJ2_length_9d52b_1 : decode cJ2_length_9d52b 1 = .ok (.arraylength, 1) := by decide +kernel
theorem dJ2_length_9d52b_2 : decode cJ2_length_9d52b 2 = .ok (.iconst 1, 1) := by decide +kernel
theorem dJ2_length_9d52b_3 : decode cJ2_length_9d52b 3 = .ok (.ishr, 1) := by decide +kernel
theorem dJ2_length_9d52b_4 : decode cJ2_length_9d52b 4 = .ok (.ireturn, 1) := by decide +kernel
theorem dJ2_charAt_3b067_0 : decode cJ2_charAt_3b067 0 = .ok (.iload_n 1, 1) := by decide +kernel
theorem dJ2_charAt_3b067_1 : decode cJ2_charAt_3b067 1 = .ok (.aload_n 0, 1) := by decide +kernel
theorem dJ2_charAt_3b067_2 : decode cJ2_charAt_3b067 2 = .ok (.invokestatic 67, 3) := by decide +kernel
theorem dJ2_charAt_3b067_5 : decode cJ2_charAt_3b067 5 = .ok (.aload_n 0, 1) := by decide +kernel
theorem dJ2_charAt_3b067_6 : decode cJ2_charAt_3b067 6 = .ok (.iload_n 1, 1) := by decide +kernel
theorem dJ2_charAt_3b067_7 : decode cJ2_charAt_3b067 7 = .ok (.invokestatic 71, 3) := by decide +kernel
theorem dJ2_charAt_3b067_10 : decode cJ2_charAt_3b067 10 = .ok (.ireturn, 1) := by decide +kernel
theorem dJ2_checkIndex_2214a_0 : decode cJ2_checkIndex_2214a 0 = .ok (.iload_n 0, 1) := by decide +kernel
theorem dJ2_checkIndex_2214a_1 : decode cJ2_checkIndex_2214a 1 = .ok (.aload_n 1, 1) := by decide +kernel
theorem dJ2_checkIndex_2214a_2 : decode cJ2_checkIndex_2214a 2 = .ok (.invokestatic 48, 3) := by decide +kernel
theorem dJ2_checkIndex_2214a_5 : decode cJ2_checkIndex_2214a 5 = .ok (.invokestatic 414, 3) := by decide +kernel
theorem dJ2_checkIndex_2214a_8 : decode cJ2_checkIndex_2214a 8 = .ok (.return_, 1) := by decide +kernel
theorem dJ7_fill_53178_0 : decode cJ7_fill_53178 0 = .ok (.iconst 0, 1) := by decide +kernel
theorem dJ7_fill_53178_1 : decode cJ7_fill_53178 1 = .ok (.istore_n 2, 1) := by decide +kernel
theorem dJ7_fill_53178_2 : decode cJ7_fill_53178 2 = .ok (.aload_n 0, 1) := by decide +kernel
theorem dJ7_fill_53178_3 : decode cJ7_fill_53178 3 = .ok (.arraylength, 1) := by decide +kernel
theorem dJ7_fill_53178_4 : decode cJ7_fill_53178 4 = .ok (.istore_n 3, 1) := by decide +kernel
theorem dJ7_fill_53178_5 : decode cJ7_fill_53178 5 = .ok (.iload_n 2, 1) := by decide +kernel
theorem dJ7_fill_53178_6 : decode cJ7_fill_53178 6 = .ok (.iload_n 3, 1) := by decide +kernel
theorem dJ7_fill_53178_7 : decode cJ7_fill_53178 7 = .ok (.if_icmp .ge 13, 3) := by decide +kernel
theorem dJ7_fill_53178_10 : decode cJ7_fill_53178 10 = .ok (.aload_n 0, 1) := by decide +kernel
theorem dJ7_fill_53178_11 : decode cJ7_fill_53178 11 = .ok (.iload_n 2, 1) := by decide +kernel
theorem dJ7_fill_53178_12 : decode cJ7_fill_53178 12 = .ok (.iload_n 1, 1) := by decide +kernel
theorem dJ7_fill_53178_13 : decode cJ7_fill_53178 13 = .ok (.iastore, 1) := by decide +kernel
theorem dJ7_fill_53178_14 : decode cJ7_fill_53178 14 = .ok (.iinc 2 1, 3) := by decide +kernel
theorem dJ7_fill_53178_17 : decode cJ7_fill_53178 17 = .ok (.goto (-12), 3) := by decide +kernel
theorem dJ7_fill_53178_20 : decode cJ7_fill_53178 20 = .ok (.return_, 1) := by decide +kernel
theorem dJ3_checkIndex_8e157_0 : decode cJ3_checkIndex_8e157 0 = .ok (.iload_n 0, 1) := by decide +kernel
theorem dJ3_checkIndex_8e157_1 : decode cJ3_checkIndex_8e157 1 = .ok (.ifCond .lt 8, 3) := by decide +kernel
theorem dJ3_checkIndex_8e157_4 : decode cJ3_checkIndex_8e157 4 = .ok (.iload_n 0, 1) := by decide +kernel
theorem dJ3_checkIndex_8e157_5 : decode cJ3_checkIndex_8e157 5 = .ok (.iload_n 1, 1) := by decide +kernel
theorem dJ3_checkIndex_8e157_6 : decode cJ3_checkIndex_8e157 6 = .ok (.if_icmp .lt 10, 3) := by decide +kernel
theorem dJ3_checkIndex_8e157_9 : decode cJ3_checkIndex_8e157 9 = .ok (.aload_n 2, 1) := by decide +kernel
theorem dJ3_checkIndex_8e157_10 : decode cJ3_checkIndex_8e157 10 = .ok (.iload_n 0, 1) := by decide +kernel
theorem dJ3_checkIndex_8e157_11 : decode cJ3_checkIndex_8e157 11 = .ok (.iload_n 1, 1) := by decide +kernel
theorem dJ3_checkIndex_8e157_12 : decode cJ3_checkIndex_8e157 12 = .ok (.invokestatic 95, 3) := by decide +kernel
theorem dJ3_checkIndex_8e157_15 : decode cJ3_checkIndex_8e157 15 = .ok (.athrow, 1) := by decide +kernel
theorem dJ3_checkIndex_8e157_16 : decode cJ3_checkIndex_8e157 16 = .ok (.iload_n 0, 1) := by decide +kernel
theorem dJ3_checkIndex_8e157_17 : decode cJ3_checkIndex_8e157 17 = .ok (.ireturn, 1) := by decide +kernel
