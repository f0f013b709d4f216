theorem dX11_init_0 : decode cX11_init 0 = .ok (.aload_n 0, 1) := by decide +kernel
theorem dX11_init_1 : decode cX11_init 1 = .ok (.invokespecial 1, 3) := by decide +kernel
theorem dX11_init_4 : decode cX11_init 4 = .ok (.aload_n 0, 1) := by decide +kernel
theorem dX11_init_5 : decode cX11_init 5 = .ok (.sipush 345, 3) := by decide +kernel
theorem dX11_init_8 : decode cX11_init 8 = .ok (.newarray .int, 2) := by decide +kernel
theorem dX11_init_10 : decode cX11_init 10 = .ok (.putfield 7, 3) := by decide +kernel
theorem dX11_init_13 : decode cX11_init 13 = .ok (.aload_n 0, 1) := by decide +kernel
theorem dX11_init_14 : decode cX11_init 14 = .ok (.bipush 115, 2) := by decide +kernel
theorem dX11_init_16 : decode cX11_init 16 = .ok (.newarray .int, 2) := by decide +kernel
theorem dX11_init_18 : decode cX11_init 18 = .ok (.putfield 13, 3) := by decide +kernel
theorem dX11_init_21 : decode cX11_init 21 = .ok (.aload_n 0, 1) := by decide +kernel
theorem dX11_init_22 : decode cX11_init 22 = .ok (.iconst 2, 1) := by decide +kernel
theorem dX11_init_23 : decode cX11_init 23 = .ok (.newarray .boolean, 2) := by decide +kernel
theorem dX11_init_25 : decode cX11_init 25 = .ok (.putfield 16, 3) := by decide +kernel
theorem dX11_init_28 : decode cX11_init 28 = .ok (.aload_n 0, 1) := by decide +kernel
theorem dX11_init_29 : decode cX11_init 29 = .ok (.bipush 115, 2) := by decide +kernel
theorem dX11_init_31 : decode cX11_init 31 = .ok (.newarray .int, 2) := by decide +kernel
theorem dX11_init_33 : decode cX11_init 33 = .ok (.putfield 20, 3) := by decide +kernel
theorem dX11_init_36 : decode cX11_init 36 = .ok (.aload_n 0, 1) := by decide +kernel
theorem dX11_init_37 : decode cX11_init 37 = .ok (.sipush 160, 3) := by decide +kernel
theorem dX11_init_40 : decode cX11_init 40 = .ok (.newarray .int, 2) := by decide +kernel
theorem dX11_init_42 : decode cX11_init 42 = .ok (.putfield 23, 3) := by decide +kernel
theorem dX11_init_45 : decode cX11_init 45 = .ok (.aload_n 0, 1) := by decide +kernel
theorem dX11_init_46 : decode cX11_init 46 = .ok (.bipush 6, 2) := by decide +kernel
theorem dX11_init_48 : decode cX11_init 48 = .ok (.newarray .int, 2) := by decide +kernel
theorem dX11_init_50 : decode cX11_init 50 = .ok (.putfield 26, 3) := by decide +kernel
theorem dX11_init_53 : decode cX11_init 53 = .ok (.aload_n 0, 1) := by decide +kernel
theorem dX11_init_54 : decode cX11_init 54 = .ok (.bipush 6, 2) := by decide +kernel
theorem dX11_init_56 : decode cX11_init 56 = .ok (.newarray .boolean, 2) := by decide +kernel
theorem dX11_init_58 : decode cX11_init 58 = .ok (.putfield 29, 3) := by decide +kernel
theorem dX11_init_61 : decode cX11_init 61 = .ok (.aload_n 0, 1) := by decide +kernel
theorem dX11_init_62 : decode cX11_init 62 = .ok (.bipush 64, 2) := by decide +kernel
theorem dX11_init_64 : decode cX11_init 64 = .ok (.newarray .boolean, 2) := by decide +kernel
theorem dX11_init_66 : decode cX11_init 66 = .ok (.putfield 32, 3) := by decide +kernel
theorem dX11_init_69 : decode cX11_init 69 = .ok (.aload_n 0, 1) := by decide +kernel
theorem dX11_init_70 : decode cX11_init 70 = .ok (.iconst 4, 1) := by decide +kernel
theorem dX11_init_71 : decode cX11_init 71 = .ok (.newarray .int, 2) := by decide +kernel
theorem dX11_init_73 : decode cX11_init 73 = .ok (.putfield 35, 3) := by decide +kernel
theorem dX11_init_76 : decode cX11_init 76 = .ok (.aload_n 0, 1) := by decide +kernel
theorem dX11_init_77 : decode cX11_init 77 = .ok (.iconst 4, 1) := by decide +kernel
theorem dX11_init_78 : decode cX11_init 78 = .ok (.newarray .int, 2) := by decide +kernel
theorem dX11_init_80 : decode cX11_init 80 = .ok (.putfield 38, 3) := by decide +kernel
theorem dX11_init_83 : decode cX11_init 83 = .ok (.aload_n 0, 1) := by decide +kernel
theorem dX11_init_84 : decode cX11_init 84 = .ok (.sipush 160, 3) := by decide +kernel
theorem dX11_init_87 : decode cX11_init 87 = .ok (.newarray .int, 2) := by decide +kernel
theorem dX11_init_89 : decode cX11_init 89 = .ok (.putfield 41, 3) := by decide +kernel
theorem dX11_init_92 : decode cX11_init 92 = .ok (.iconst 0, 1) := by decide +kernel
theorem dX11_init_93 : decode cX11_init 93 = .ok (.istore_n 1, 1) := by decide +kernel
theorem dX11_init_94 : decode cX11_init 94 = .ok (.iload_n 1, 1) := by decide +kernel
theorem dX11_init_95 : decode cX11_init 95 = .ok (.iconst 4, 1) := by decide +kernel
theorem dX11_init_96 : decode cX11_init 96 = .ok (.if_icmp .ge 17, 3) := by decide +kernel
theorem dX11_init_99 : decode cX11_init 99 = .ok (.aload_n 0, 1) := by decide +kernel
theorem dX11_init_100 : decode cX11_init 100 = .ok (.getfield 35, 3) := by decide +kernel
theorem dX11_init_103 : decode cX11_init 103 = .ok (.iload_n 1, 1) := by decide +kernel
theorem dX11_init_104 : decode cX11_init 104 = .ok (.bipush (-4), 2) := by decide +kernel
theorem dX11_init_106 : decode cX11_init 106 = .ok (.iastore, 1) := by decide +kernel
theorem dX11_init_107 : decode cX11_init 107 = .ok (.iinc 1 1, 3) := by decide +kernel
theorem dX11_init_110 : decode cX11_init 110 = .ok (.goto (-16), 3) := by decide +kernel
theorem dX11_init_113 : decode cX11_init 113 = .ok (.aload_n 0, 1) := by decide +kernel
theorem dX11_init_114 : decode cX11_init 114 = .ok (.invokevirtual 44, 3) := by decide +kernel
theorem dX11_init_117 : decode cX11_init 117 = .ok (.aload_n 0, 1) := by decide +kernel
theorem dX11_init_118 : decode cX11_init 118 = .ok (.invokevirtual 47, 3) := by decide +kernel
theorem dX11_init_121 : decode cX11_init 121 = .ok (.return_, 1) := by decide +kernel
theorem dX11_in_0 : decode cX11_in 0 = .ok (.lload_n 0, 1) := by decide +kernel
theorem dX11_in_1 : decode cX11_in 1 = .ok (.lload_n 2, 1) := by decide +kernel
theorem dX11_in_2 : decode cX11_in 2 = .ok (.lcmp, 1) := by decide +kernel
theorem dX11_in_3 : decode cX11_in 3 = .ok (.ifCond .lt 14, 3) := by decide +kernel
theorem dX11_in_6 : decode cX11_in 6 = .ok (.lload_n 0, 1) := by decide +kernel
theorem dX11_in_7 : decode cX11_in 7 = .ok (.lload 4, 2) := by decide +kernel
theorem dX11_in_9 : decode cX11_in 9 = .ok (.lcmp, 1) := by decide +kernel
theorem dX11_in_10 : decode cX11_in 10 = .ok (.ifCond .gt 7, 3) := by decide +kernel
theorem dX11_in_13 : decode cX11_in 13 = .ok (.iconst 1, 1) := by decide +kernel
theorem dX11_in_14 : decode cX11_in 14 = .ok (.goto 4, 3) := by decide +kernel
theorem dX11_in_17 : decode cX11_in 17 = .ok (.iconst 0, 1) := by decide +kernel
theorem dX11_in_18 : decode cX11_in 18 = .ok (.ireturn, 1) := by decide +kernel
theorem dX11_flag_0 : decode cX11_flag 0 = .ok (.iload_n 0, 1) := by decide +kernel
theorem dX11_flag_1 : decode cX11_flag 1 = .ok (.ifCond .eq 7, 3) := by decide +kernel
theorem dX11_flag_4 : decode cX11_flag 4 = .ok (.iconst 1, 1) := by decide +kernel
theorem dX11_flag_5 : decode cX11_flag 5 = .ok (.goto 4, 3) := by decide +kernel
theorem dX11_flag_8 : decode cX11_flag 8 = .ok (.iconst 0, 1) := by decide +kernel
theorem dX11_flag_9 : decode cX11_flag 9 = .ok (.ireturn, 1) := by decide +kernel
theorem dX11_firstDraft_0 : decode cX11_firstDraft 0 = .ok (.iconst 0, 1) := by decide +kernel
theorem dX11_firstDraft_1 : decode cX11_firstDraft 1 = .ok (.istore_n 1, 1) := by decide +kernel
theorem dX11_firstDraft_2 : decode cX11_firstDraft 2 = .ok (.iload_n 1, 1) := by decide +kernel
theorem dX11_firstDraft_3 : decode cX11_firstDraft 3 = .ok (.bipush 115, 2) := by decide +kernel
theorem dX11_firstDraft_5 : decode cX11_firstDraft 5 = .ok (.if_icmp .ge 16, 3) := by decide +kernel
theorem dX11_firstDraft_8 : decode cX11_firstDraft 8 = .ok (.aload_n 0, 1) := by decide +kernel
theorem dX11_firstDraft_9 : decode cX11_firstDraft 9 = .ok (.getfield 20, 3) := by decide +kernel
theorem dX11_firstDraft_12 : decode cX11_firstDraft 12 = .ok (.iload_n 1, 1) := by decide +kernel
theorem dX11_firstDraft_13 : decode cX11_firstDraft 13 = .ok (.iconst 0, 1) := by decide +kernel
theorem dX11_firstDraft_14 : decode cX11_firstDraft 14 = .ok (.iastore, 1) := by decide +kernel
theorem dX11_firstDraft_15 : decode cX11_firstDraft 15 = .ok (.iinc 1 1, 3) := by decide +kernel
theorem dX11_firstDraft_18 : decode cX11_firstDraft 18 = .ok (.goto (-16), 3) := by decide +kernel
theorem dX11_firstDraft_21 : decode cX11_firstDraft 21 = .ok (.iconst 0, 1) := by decide +kernel
theorem dX11_firstDraft_22 : decode cX11_firstDraft 22 = .ok (.istore_n 1, 1) := by decide +kernel
theorem dX11_firstDraft_23 : decode cX11_firstDraft 23 = .ok (.iload_n 1, 1) := by decide +kernel
theorem dX11_firstDraft_24 : decode cX11_firstDraft 24 = .ok (.bipush 6, 2) := by decide +kernel
theorem dX11_firstDraft_26 : decode cX11_firstDraft 26 = .ok (.if_icmp .ge 42, 3) := by decide +kernel
theorem dX11_firstDraft_29 : decode cX11_firstDraft 29 = .ok (.aload_n 0, 1) := by decide +kernel
theorem dX11_firstDraft_30 : decode cX11_firstDraft 30 = .ok (.getfield 20, 3) := by decide +kernel
theorem dX11_firstDraft_33 : decode cX11_firstDraft 33 = .ok (.bipush 47, 2) := by decide +kernel
theorem dX11_firstDraft_35 : decode cX11_firstDraft 35 = .ok (.bipush 8, 2) := by decide +kernel
theorem dX11_firstDraft_37 : decode cX11_firstDraft 37 = .ok (.iload_n 1, 1) := by decide +kernel
theorem dX11_firstDraft_38 : decode cX11_firstDraft 38 = .ok (.imul, 1) := by decide +kernel
theorem dX11_firstDraft_39 : decode cX11_firstDraft 39 = .ok (.iadd, 1) := by decide +kernel
theorem dX11_firstDraft_40 : decode cX11_firstDraft 40 = .ok (.iconst 2, 1) := by decide +kernel
theorem dX11_firstDraft_41 : decode cX11_firstDraft 41 = .ok (.iadd, 1) := by decide +kernel
theorem dX11_firstDraft_42 : decode cX11_firstDraft 42 = .ok (.bipush (-4), 2) := by decide +kernel
theorem dX11_firstDraft_44 : decode cX11_firstDraft 44 = .ok (.iastore, 1) := by decide +kernel
theorem dX11_firstDraft_45 : decode cX11_firstDraft 45 = .ok (.aload_n 0, 1) := by decide +kernel
theorem dX11_firstDraft_46 : decode cX11_firstDraft 46 = .ok (.getfield 20, 3) := by decide +kernel
theorem dX11_firstDraft_49 : decode cX11_firstDraft 49 = .ok (.bipush 47, 2) := by decide +kernel
theorem dX11_firstDraft_51 : decode cX11_firstDraft 51 = .ok (.bipush 8, 2) := by decide +kernel
theorem dX11_firstDraft_53 : decode cX11_firstDraft 53 = .ok (.iload_n 1, 1) := by decide +kernel
theorem dX11_firstDraft_54 : decode cX11_firstDraft 54 = .ok (.imul, 1) := by decide +kernel
theorem dX11_firstDraft_55 : decode cX11_firstDraft 55 = .ok (.iadd, 1) := by decide +kernel
theorem dX11_firstDraft_56 : decode cX11_firstDraft 56 = .ok (.bipush 7, 2) := by decide +kernel
theorem dX11_firstDraft_58 : decode cX11_firstDraft 58 = .ok (.iadd, 1) := by decide +kernel
theorem dX11_firstDraft_59 : decode cX11_firstDraft 59 = .ok (.bipush (-4), 2) := by decide +kernel
theorem dX11_firstDraft_61 : decode cX11_firstDraft 61 = .ok (.iastore, 1) := by decide +kernel
theorem dX11_firstDraft_62 : decode cX11_firstDraft 62 = .ok (.iinc 1 1, 3) := by decide +kernel
theorem dX11_firstDraft_65 : decode cX11_firstDraft 65 = .ok (.goto (-42), 3) := by decide +kernel
theorem dX11_firstDraft_68 : decode cX11_firstDraft 68 = .ok (.aload_n 0, 1) := by decide +kernel
theorem dX11_firstDraft_69 : decode cX11_firstDraft 69 = .ok (.getfield 20, 3) := by decide +kernel
theorem dX11_firstDraft_72 : decode cX11_firstDraft 72 = .ok (.bipush 24, 2) := by decide +kernel
theorem dX11_firstDraft_74 : decode cX11_firstDraft 74 = .ok (.iconst 1, 1) := by decide +kernel
theorem dX11_firstDraft_75 : decode cX11_firstDraft 75 = .ok (.iastore, 1) := by decide +kernel
theorem dX11_firstDraft_76 : decode cX11_firstDraft 76 = .ok (.aload_n 0, 1) := by decide +kernel
theorem dX11_firstDraft_77 : decode cX11_firstDraft 77 = .ok (.getfield 20, 3) := by decide +kernel
theorem dX11_firstDraft_80 : decode cX11_firstDraft 80 = .ok (.bipush 25, 2) := by decide +kernel
theorem dX11_firstDraft_82 : decode cX11_firstDraft 82 = .ok (.iconst 1, 1) := by decide +kernel
theorem dX11_firstDraft_83 : decode cX11_firstDraft 83 = .ok (.iastore, 1) := by decide +kernel
theorem dX11_firstDraft_84 : decode cX11_firstDraft 84 = .ok (.aload_n 0, 1) := by decide +kernel
theorem dX11_firstDraft_85 : decode cX11_firstDraft 85 = .ok (.iconst 3, 1) := by decide +kernel
theorem dX11_firstDraft_86 : decode cX11_firstDraft 86 = .ok (.putfield 50, 3) := by decide +kernel
theorem dX11_firstDraft_89 : decode cX11_firstDraft 89 = .ok (.aload_n 0, 1) := by decide +kernel
theorem dX11_firstDraft_90 : decode cX11_firstDraft 90 = .ok (.iconst 0, 1) := by decide +kernel
theorem dX11_firstDraft_91 : decode cX11_firstDraft 91 = .ok (.putfield 54, 3) := by decide +kernel
theorem dX11_firstDraft_94 : decode cX11_firstDraft 94 = .ok (.aload_n 0, 1) := by decide +kernel
theorem dX11_firstDraft_95 : decode cX11_firstDraft 95 = .ok (.iconst 0, 1) := by decide +kernel
theorem dX11_firstDraft_96 : decode cX11_firstDraft 96 = .ok (.putfield 58, 3) := by decide +kernel
theorem dX11_firstDraft_99 : decode cX11_firstDraft 99 = .ok (.aload_n 0, 1) := by decide +kernel
theorem dX11_firstDraft_100 : decode cX11_firstDraft 100 = .ok (.iconst 0, 1) := by decide +kernel
theorem dX11_firstDraft_101 : decode cX11_firstDraft 101 = .ok (.putfield 61, 3) := by decide +kernel
theorem dX11_firstDraft_104 : decode cX11_firstDraft 104 = .ok (.aload_n 0, 1) := by decide +kernel
theorem dX11_firstDraft_105 : decode cX11_firstDraft 105 = .ok (.bipush (-4), 2) := by decide +kernel
theorem dX11_firstDraft_107 : decode cX11_firstDraft 107 = .ok (.putfield 64, 3) := by decide +kernel
theorem dX11_firstDraft_110 : decode cX11_firstDraft 110 = .ok (.aload_n 0, 1) := by decide +kernel
theorem dX11_firstDraft_111 : decode cX11_firstDraft 111 = .ok (.bipush (-4), 2) := by decide +kernel
theorem dX11_firstDraft_113 : decode cX11_firstDraft 113 = .ok (.putfield 67, 3) := by decide +kernel
theorem dX11_firstDraft_116 : decode cX11_firstDraft 116 = .ok (.aload_n 0, 1) := by decide +kernel
theorem dX11_firstDraft_117 : decode cX11_firstDraft 117 = .ok (.bipush (-4), 2) := by decide +kernel
theorem dX11_firstDraft_119 : decode cX11_firstDraft 119 = .ok (.putfield 70, 3) := by decide +kernel
theorem dX11_firstDraft_122 : decode cX11_firstDraft 122 = .ok (.return_, 1) := by decide +kernel
theorem dX11_keepDraft_0 : decode cX11_keepDraft 0 = .ok (.iconst 0, 1) := by decide +kernel
theorem dX11_keepDraft_1 : decode cX11_keepDraft 1 = .ok (.istore_n 1, 1) := by decide +kernel
theorem dX11_keepDraft_2 : decode cX11_keepDraft 2 = .ok (.iload_n 1, 1) := by decide +kernel
theorem dX11_keepDraft_3 : decode cX11_keepDraft 3 = .ok (.bipush 115, 2) := by decide +kernel
theorem dX11_keepDraft_5 : decode cX11_keepDraft 5 = .ok (.if_icmp .ge 21, 3) := by decide +kernel
theorem dX11_keepDraft_8 : decode cX11_keepDraft 8 = .ok (.aload_n 0, 1) := by decide +kernel
theorem dX11_keepDraft_9 : decode cX11_keepDraft 9 = .ok (.getfield 7, 3) := by decide +kernel
theorem dX11_keepDraft_12 : decode cX11_keepDraft 12 = .ok (.iload_n 1, 1) := by decide +kernel
theorem dX11_keepDraft_13 : decode cX11_keepDraft 13 = .ok (.aload_n 0, 1) := by decide +kernel
theorem dX11_keepDraft_14 : decode cX11_keepDraft 14 = .ok (.getfield 20, 3) := by decide +kernel
theorem dX11_keepDraft_17 : decode cX11_keepDraft 17 = .ok (.iload_n 1, 1) := by decide +kernel
theorem dX11_keepDraft_18 : decode cX11_keepDraft 18 = .ok (.iaload, 1) := by decide +kernel
theorem dX11_keepDraft_19 : decode cX11_keepDraft 19 = .ok (.iastore, 1) := by decide +kernel
theorem dX11_keepDraft_20 : decode cX11_keepDraft 20 = .ok (.iinc 1 1, 3) := by decide +kernel
theorem dX11_keepDraft_23 : decode cX11_keepDraft 23 = .ok (.goto (-21), 3) := by decide +kernel
theorem dX11_keepDraft_26 : decode cX11_keepDraft 26 = .ok (.aload_n 0, 1) := by decide +kernel
theorem dX11_keepDraft_27 : decode cX11_keepDraft 27 = .ok (.aload_n 0, 1) := by decide +kernel
theorem dX11_keepDraft_28 : decode cX11_keepDraft 28 = .ok (.getfield 50, 3) := by decide +kernel
theorem dX11_keepDraft_31 : decode cX11_keepDraft 31 = .ok (.putfield 73, 3) := by decide +kernel
theorem dX11_keepDraft_34 : decode cX11_keepDraft 34 = .ok (.aload_n 0, 1) := by decide +kernel
theorem dX11_keepDraft_35 : decode cX11_keepDraft 35 = .ok (.getfield 16, 3) := by decide +kernel
theorem dX11_keepDraft_38 : decode cX11_keepDraft 38 = .ok (.iconst 0, 1) := by decide +kernel
theorem dX11_keepDraft_39 : decode cX11_keepDraft 39 = .ok (.iconst 0, 1) := by decide +kernel
theorem dX11_keepDraft_40 : decode cX11_keepDraft 40 = .ok (.bastore, 1) := by decide +kernel
theorem dX11_keepDraft_41 : decode cX11_keepDraft 41 = .ok (.aload_n 0, 1) := by decide +kernel
theorem dX11_keepDraft_42 : decode cX11_keepDraft 42 = .ok (.getfield 16, 3) := by decide +kernel
theorem dX11_keepDraft_45 : decode cX11_keepDraft 45 = .ok (.iconst 1, 1) := by decide +kernel
theorem dX11_keepDraft_46 : decode cX11_keepDraft 46 = .ok (.iconst 0, 1) := by decide +kernel
theorem dX11_keepDraft_47 : decode cX11_keepDraft 47 = .ok (.bastore, 1) := by decide +kernel
theorem dX11_keepDraft_48 : decode cX11_keepDraft 48 = .ok (.return_, 1) := by decide +kernel
theorem dX11_feed_0 : decode cX11_feed 0 = .ok (.iload_n 1, 1) := by decide +kernel
theorem dX11_feed_1 : decode cX11_feed 1 = .ok (.i2l, 1) := by decide +kernel
theorem dX11_feed_2 : decode cX11_feed 2 = .ok (.lconst 0, 1) := by decide +kernel
theorem dX11_feed_3 : decode cX11_feed 3 = .ok (.ldc2_w 76, 3) := by decide +kernel
theorem dX11_feed_6 : decode cX11_feed 6 = .ok (.invokestatic 78, 3) := by decide +kernel
theorem dX11_feed_9 : decode cX11_feed 9 = .ok (.ifCond .ne 5, 3) := by decide +kernel
theorem dX11_feed_12 : decode cX11_feed 12 = .ok (.iconst (-1), 1) := by decide +kernel
theorem dX11_feed_13 : decode cX11_feed 13 = .ok (.ireturn, 1) := by decide +kernel
theorem dX11_feed_14 : decode cX11_feed 14 = .ok (.aload_n 0, 1) := by decide +kernel
theorem dX11_feed_15 : decode cX11_feed 15 = .ok (.getfield 82, 3) := by decide +kernel
theorem dX11_feed_18 : decode cX11_feed 18 = .ok (.sipush 160, 3) := by decide +kernel
theorem dX11_feed_21 : decode cX11_feed 21 = .ok (.if_icmp .ne 6, 3) := by decide +kernel
theorem dX11_feed_24 : decode cX11_feed 24 = .ok (.bipush (-3), 2) := by decide +kernel
theorem dX11_feed_26 : decode cX11_feed 26 = .ok (.ireturn, 1) := by decide +kernel
theorem dX11_feed_27 : decode cX11_feed 27 = .ok (.aload_n 0, 1) := by decide +kernel
theorem dX11_feed_28 : decode cX11_feed 28 = .ok (.getfield 23, 3) := by decide +kernel
theorem dX11_feed_31 : decode cX11_feed 31 = .ok (.aload_n 0, 1) := by decide +kernel
theorem dX11_feed_32 : decode cX11_feed 32 = .ok (.getfield 82, 3) := by decide +kernel
theorem dX11_feed_35 : decode cX11_feed 35 = .ok (.iload_n 1, 1) := by decide +kernel
theorem dX11_feed_36 : decode cX11_feed 36 = .ok (.iastore, 1) := by decide +kernel
theorem dX11_feed_37 : decode cX11_feed 37 = .ok (.aload_n 0, 1) := by decide +kernel
theorem dX11_feed_38 : decode cX11_feed 38 = .ok (.dup, 1) := by decide +kernel
theorem dX11_feed_39 : decode cX11_feed 39 = .ok (.getfield 82, 3) := by decide +kernel
theorem dX11_feed_42 : decode cX11_feed 42 = .ok (.iconst 1, 1) := by decide +kernel
theorem dX11_feed_43 : decode cX11_feed 43 = .ok (.iadd, 1) := by decide +kernel
theorem dX11_feed_44 : decode cX11_feed 44 = .ok (.putfield 82, 3) := by decide +kernel
theorem dX11_feed_47 : decode cX11_feed 47 = .ok (.aload_n 0, 1) := by decide +kernel
theorem dX11_feed_48 : decode cX11_feed 48 = .ok (.getfield 82, 3) := by decide +kernel
theorem dX11_feed_51 : decode cX11_feed 51 = .ok (.ireturn, 1) := by decide +kernel
theorem dX11_end_0 : decode cX11_end 0 = .ok (.iload_n 1, 1) := by decide +kernel
theorem dX11_end_1 : decode cX11_end 1 = .ok (.i2l, 1) := by decide +kernel
theorem dX11_end_2 : decode cX11_end 2 = .ok (.lconst 0, 1) := by decide +kernel
theorem dX11_end_3 : decode cX11_end 3 = .ok (.aload_n 0, 1) := by decide +kernel
theorem dX11_end_4 : decode cX11_end 4 = .ok (.getfield 82, 3) := by decide +kernel
theorem dX11_end_7 : decode cX11_end 7 = .ok (.i2l, 1) := by decide +kernel
theorem dX11_end_8 : decode cX11_end 8 = .ok (.invokestatic 78, 3) := by decide +kernel
theorem dX11_end_11 : decode cX11_end 11 = .ok (.ifCond .ne 5, 3) := by decide +kernel
theorem dX11_end_14 : decode cX11_end 14 = .ok (.iconst (-1), 1) := by decide +kernel
theorem dX11_end_15 : decode cX11_end 15 = .ok (.ireturn, 1) := by decide +kernel
theorem dX11_end_16 : decode cX11_end 16 = .ok (.aload_n 0, 1) := by decide +kernel
theorem dX11_end_17 : decode cX11_end 17 = .ok (.getfield 82, 3) := by decide +kernel
theorem dX11_end_20 : decode cX11_end 20 = .ok (.istore_n 2, 1) := by decide +kernel
theorem dX11_end_21 : decode cX11_end 21 = .ok (.aload_n 0, 1) := by decide +kernel
theorem dX11_end_22 : decode cX11_end 22 = .ok (.iload_n 1, 1) := by decide +kernel
theorem dX11_end_23 : decode cX11_end 23 = .ok (.putfield 82, 3) := by decide +kernel
theorem dX11_end_26 : decode cX11_end 26 = .ok (.iload_n 2, 1) := by decide +kernel
theorem dX11_end_27 : decode cX11_end 27 = .ok (.ireturn, 1) := by decide +kernel
theorem dX11_needs_0 : decode cX11_needs 0 = .ok (.iload_n 1, 1) := by decide +kernel
theorem dX11_needs_1 : decode cX11_needs 1 = .ok (.ifCond .ne 23, 3) := by decide +kernel
theorem dX11_needs_4 : decode cX11_needs 4 = .ok (.aload_n 0, 1) := by decide +kernel
theorem dX11_needs_5 : decode cX11_needs 5 = .ok (.getfield 85, 3) := by decide +kernel
theorem dX11_needs_8 : decode cX11_needs 8 = .ok (.ifCond .ne 16, 3) := by decide +kernel
theorem dX11_needs_11 : decode cX11_needs 11 = .ok (.aload_n 0, 1) := by decide +kernel
theorem dX11_needs_12 : decode cX11_needs 12 = .ok (.iload_n 2, 1) := by decide +kernel
theorem dX11_needs_13 : decode cX11_needs 13 = .ok (.putfield 85, 3) := by decide +kernel
theorem dX11_needs_16 : decode cX11_needs 16 = .ok (.aload_n 0, 1) := by decide +kernel
theorem dX11_needs_17 : decode cX11_needs 17 = .ok (.aload_n 0, 1) := by decide +kernel
theorem dX11_needs_18 : decode cX11_needs 18 = .ok (.getfield 88, 3) := by decide +kernel
theorem dX11_needs_21 : decode cX11_needs 21 = .ok (.putfield 91, 3) := by decide +kernel
theorem dX11_needs_24 : decode cX11_needs 24 = .ok (.return_, 1) := by decide +kernel
theorem dX11_look_0 : decode cX11_look 0 = .ok (.iload_n 1, 1) := by decide +kernel
theorem dX11_look_1 : decode cX11_look 1 = .ok (.aload_n 0, 1) := by decide +kernel
theorem dX11_look_2 : decode cX11_look 2 = .ok (.getfield 82, 3) := by decide +kernel
theorem dX11_look_5 : decode cX11_look 5 = .ok (.if_icmp .ge 12, 3) := by decide +kernel
theorem dX11_look_8 : decode cX11_look 8 = .ok (.aload_n 0, 1) := by decide +kernel
theorem dX11_look_9 : decode cX11_look 9 = .ok (.getfield 23, 3) := by decide +kernel
theorem dX11_look_12 : decode cX11_look 12 = .ok (.iload_n 1, 1) := by decide +kernel
theorem dX11_look_13 : decode cX11_look 13 = .ok (.iaload, 1) := by decide +kernel
theorem dX11_look_14 : decode cX11_look 14 = .ok (.goto 4, 3) := by decide +kernel
theorem dX11_look_17 : decode cX11_look 17 = .ok (.iconst (-1), 1) := by decide +kernel
theorem dX11_look_18 : decode cX11_look 18 = .ok (.ireturn, 1) := by decide +kernel
theorem dX11_is_0 : decode cX11_is 0 = .ok (.aload_n 0, 1) := by decide +kernel
theorem dX11_is_1 : decode cX11_is 1 = .ok (.getfield 94, 3) := by decide +kernel
theorem dX11_is_4 : decode cX11_is 4 = .ok (.aload_n 0, 1) := by decide +kernel
theorem dX11_is_5 : decode cX11_is 5 = .ok (.getfield 88, 3) := by decide +kernel
theorem dX11_is_8 : decode cX11_is 8 = .ok (.isub, 1) := by decide +kernel
theorem dX11_is_9 : decode cX11_is 9 = .ok (.iload_n 1, 1) := by decide +kernel
theorem dX11_is_10 : decode cX11_is 10 = .ok (.if_icmp .ne 48, 3) := by decide +kernel
theorem dX11_is_13 : decode cX11_is 13 = .ok (.aload_n 0, 1) := by decide +kernel
theorem dX11_is_14 : decode cX11_is 14 = .ok (.aload_n 0, 1) := by decide +kernel
theorem dX11_is_15 : decode cX11_is 15 = .ok (.getfield 88, 3) := by decide +kernel
theorem dX11_is_18 : decode cX11_is 18 = .ok (.invokevirtual 97, 3) := by decide +kernel
theorem dX11_is_21 : decode cX11_is 21 = .ok (.iload_n 2, 1) := by decide +kernel
theorem dX11_is_22 : decode cX11_is 22 = .ok (.if_icmp .ne 36, 3) := by decide +kernel
theorem dX11_is_25 : decode cX11_is 25 = .ok (.aload_n 0, 1) := by decide +kernel
theorem dX11_is_26 : decode cX11_is 26 = .ok (.aload_n 0, 1) := by decide +kernel
theorem dX11_is_27 : decode cX11_is 27 = .ok (.getfield 88, 3) := by decide +kernel
theorem dX11_is_30 : decode cX11_is 30 = .ok (.iconst 1, 1) := by decide +kernel
theorem dX11_is_31 : decode cX11_is 31 = .ok (.iadd, 1) := by decide +kernel
theorem dX11_is_32 : decode cX11_is 32 = .ok (.invokevirtual 97, 3) := by decide +kernel
theorem dX11_is_35 : decode cX11_is 35 = .ok (.iload_n 3, 1) := by decide +kernel
theorem dX11_is_36 : decode cX11_is 36 = .ok (.if_icmp .ne 22, 3) := by decide +kernel
theorem dX11_is_39 : decode cX11_is 39 = .ok (.aload_n 0, 1) := by decide +kernel
theorem dX11_is_40 : decode cX11_is 40 = .ok (.aload_n 0, 1) := by decide +kernel
theorem dX11_is_41 : decode cX11_is 41 = .ok (.getfield 88, 3) := by decide +kernel
theorem dX11_is_44 : decode cX11_is 44 = .ok (.iconst 2, 1) := by decide +kernel
theorem dX11_is_45 : decode cX11_is 45 = .ok (.iadd, 1) := by decide +kernel
theorem dX11_is_46 : decode cX11_is 46 = .ok (.invokevirtual 97, 3) := by decide +kernel
theorem dX11_is_49 : decode cX11_is 49 = .ok (.iload 4, 2) := by decide +kernel
theorem dX11_is_51 : decode cX11_is 51 = .ok (.if_icmp .ne 7, 3) := by decide +kernel
theorem dX11_is_54 : decode cX11_is 54 = .ok (.iconst 1, 1) := by decide +kernel
theorem dX11_is_55 : decode cX11_is 55 = .ok (.goto 4, 3) := by decide +kernel
theorem dX11_is_58 : decode cX11_is 58 = .ok (.iconst 0, 1) := by decide +kernel
theorem dX11_is_59 : decode cX11_is 59 = .ok (.ireturn, 1) := by decide +kernel
theorem dX11_ends_0 : decode cX11_ends 0 = .ok (.aload_n 0, 1) := by decide +kernel
theorem dX11_ends_1 : decode cX11_ends 1 = .ok (.aload_n 0, 1) := by decide +kernel
theorem dX11_ends_2 : decode cX11_ends 2 = .ok (.getfield 88, 3) := by decide +kernel
theorem dX11_ends_5 : decode cX11_ends 5 = .ok (.iconst 3, 1) := by decide +kernel
theorem dX11_ends_6 : decode cX11_ends 6 = .ok (.iadd, 1) := by decide +kernel
theorem dX11_ends_7 : decode cX11_ends 7 = .ok (.invokevirtual 97, 3) := by decide +kernel
theorem dX11_ends_10 : decode cX11_ends 10 = .ok (.iload_n 1, 1) := by decide +kernel
theorem dX11_ends_11 : decode cX11_ends 11 = .ok (.if_icmp .ne 7, 3) := by decide +kernel
theorem dX11_ends_14 : decode cX11_ends 14 = .ok (.iconst 1, 1) := by decide +kernel
theorem dX11_ends_15 : decode cX11_ends 15 = .ok (.goto 4, 3) := by decide +kernel
theorem dX11_ends_18 : decode cX11_ends 18 = .ok (.iconst 0, 1) := by decide +kernel
theorem dX11_ends_19 : decode cX11_ends 19 = .ok (.ireturn, 1) := by decide +kernel
theorem dX11_lineNow_0 : decode cX11_lineNow 0 = .ok (.aload_n 0, 1) := by decide +kernel
theorem dX11_lineNow_1 : decode cX11_lineNow 1 = .ok (.iconst 4, 1) := by decide +kernel
theorem dX11_lineNow_2 : decode cX11_lineNow 2 = .ok (.bipush 102, 2) := by decide +kernel
theorem dX11_lineNow_4 : decode cX11_lineNow 4 = .ok (.bipush 105, 2) := by decide +kernel
theorem dX11_lineNow_6 : decode cX11_lineNow 6 = .ok (.bipush 114, 2) := by decide +kernel
theorem dX11_lineNow_8 : decode cX11_lineNow 8 = .ok (.invokevirtual 101, 3) := by decide +kernel
theorem dX11_lineNow_11 : decode cX11_lineNow 11 = .ok (.ifCond .eq 14, 3) := by decide +kernel
theorem dX11_lineNow_14 : decode cX11_lineNow 14 = .ok (.aload_n 0, 1) := by decide +kernel
theorem dX11_lineNow_15 : decode cX11_lineNow 15 = .ok (.bipush 101, 2) := by decide +kernel
theorem dX11_lineNow_17 : decode cX11_lineNow 17 = .ok (.invokevirtual 105, 3) := by decide +kernel
theorem dX11_lineNow_20 : decode cX11_lineNow 20 = .ok (.ifCond .eq 5, 3) := by decide +kernel
theorem dX11_lineNow_23 : decode cX11_lineNow 23 = .ok (.iconst 0, 1) := by decide +kernel
theorem dX11_lineNow_24 : decode cX11_lineNow 24 = .ok (.ireturn, 1) := by decide +kernel
theorem dX11_lineNow_25 : decode cX11_lineNow 25 = .ok (.aload_n 0, 1) := by decide +kernel
theorem dX11_lineNow_26 : decode cX11_lineNow 26 = .ok (.iconst 4, 1) := by decide +kernel
theorem dX11_lineNow_27 : decode cX11_lineNow 27 = .ok (.bipush 104, 2) := by decide +kernel
theorem dX11_lineNow_29 : decode cX11_lineNow 29 = .ok (.bipush 101, 2) := by decide +kernel
theorem dX11_lineNow_31 : decode cX11_lineNow 31 = .ok (.bipush 97, 2) := by decide +kernel
theorem dX11_lineNow_33 : decode cX11_lineNow 33 = .ok (.invokevirtual 101, 3) := by decide +kernel
theorem dX11_lineNow_36 : decode cX11_lineNow 36 = .ok (.ifCond .eq 14, 3) := by decide +kernel
theorem dX11_lineNow_39 : decode cX11_lineNow 39 = .ok (.aload_n 0, 1) := by decide +kernel
theorem dX11_lineNow_40 : decode cX11_lineNow 40 = .ok (.bipush 116, 2) := by decide +kernel
theorem dX11_lineNow_42 : decode cX11_lineNow 42 = .ok (.invokevirtual 105, 3) := by decide +kernel
theorem dX11_lineNow_45 : decode cX11_lineNow 45 = .ok (.ifCond .eq 5, 3) := by decide +kernel
theorem dX11_lineNow_48 : decode cX11_lineNow 48 = .ok (.iconst 1, 1) := by decide +kernel
theorem dX11_lineNow_49 : decode cX11_lineNow 49 = .ok (.ireturn, 1) := by decide +kernel
theorem dX11_lineNow_50 : decode cX11_lineNow 50 = .ok (.aload_n 0, 1) := by decide +kernel
theorem dX11_lineNow_51 : decode cX11_lineNow 51 = .ok (.iconst 4, 1) := by decide +kernel
theorem dX11_lineNow_52 : decode cX11_lineNow 52 = .ok (.bipush 119, 2) := by decide +kernel
theorem dX11_lineNow_54 : decode cX11_lineNow 54 = .ok (.bipush 111, 2) := by decide +kernel
theorem dX11_lineNow_56 : decode cX11_lineNow 56 = .ok (.bipush 111, 2) := by decide +kernel
theorem dX11_lineNow_58 : decode cX11_lineNow 58 = .ok (.invokevirtual 101, 3) := by decide +kernel
theorem dX11_lineNow_61 : decode cX11_lineNow 61 = .ok (.ifCond .eq 14, 3) := by decide +kernel
theorem dX11_lineNow_64 : decode cX11_lineNow 64 = .ok (.aload_n 0, 1) := by decide +kernel
theorem dX11_lineNow_65 : decode cX11_lineNow 65 = .ok (.bipush 100, 2) := by decide +kernel
theorem dX11_lineNow_67 : decode cX11_lineNow 67 = .ok (.invokevirtual 105, 3) := by decide +kernel
theorem dX11_lineNow_70 : decode cX11_lineNow 70 = .ok (.ifCond .eq 5, 3) := by decide +kernel
theorem dX11_lineNow_73 : decode cX11_lineNow 73 = .ok (.iconst 2, 1) := by decide +kernel
theorem dX11_lineNow_74 : decode cX11_lineNow 74 = .ok (.ireturn, 1) := by decide +kernel
theorem dX11_lineNow_75 : decode cX11_lineNow 75 = .ok (.aload_n 0, 1) := by decide +kernel
theorem dX11_lineNow_76 : decode cX11_lineNow 76 = .ok (.iconst 4, 1) := by decide +kernel
theorem dX11_lineNow_77 : decode cX11_lineNow 77 = .ok (.bipush 115, 2) := by decide +kernel
theorem dX11_lineNow_79 : decode cX11_lineNow 79 = .ok (.bipush 112, 2) := by decide +kernel
theorem dX11_lineNow_81 : decode cX11_lineNow 81 = .ok (.bipush 117, 2) := by decide +kernel
theorem dX11_lineNow_83 : decode cX11_lineNow 83 = .ok (.invokevirtual 101, 3) := by decide +kernel
theorem dX11_lineNow_86 : decode cX11_lineNow 86 = .ok (.ifCond .eq 14, 3) := by decide +kernel
theorem dX11_lineNow_89 : decode cX11_lineNow 89 = .ok (.aload_n 0, 1) := by decide +kernel
theorem dX11_lineNow_90 : decode cX11_lineNow 90 = .ok (.bipush 100, 2) := by decide +kernel
theorem dX11_lineNow_92 : decode cX11_lineNow 92 = .ok (.invokevirtual 105, 3) := by decide +kernel
theorem dX11_lineNow_95 : decode cX11_lineNow 95 = .ok (.ifCond .eq 5, 3) := by decide +kernel
theorem dX11_lineNow_98 : decode cX11_lineNow 98 = .ok (.iconst 3, 1) := by decide +kernel
theorem dX11_lineNow_99 : decode cX11_lineNow 99 = .ok (.ireturn, 1) := by decide +kernel
theorem dX11_lineNow_100 : decode cX11_lineNow 100 = .ok (.aload_n 0, 1) := by decide +kernel
theorem dX11_lineNow_101 : decode cX11_lineNow 101 = .ok (.iconst 3, 1) := by decide +kernel
theorem dX11_lineNow_102 : decode cX11_lineNow 102 = .ok (.bipush 111, 2) := by decide +kernel
theorem dX11_lineNow_104 : decode cX11_lineNow 104 = .ok (.bipush 117, 2) := by decide +kernel
theorem dX11_lineNow_106 : decode cX11_lineNow 106 = .ok (.bipush 116, 2) := by decide +kernel
theorem dX11_lineNow_108 : decode cX11_lineNow 108 = .ok (.invokevirtual 101, 3) := by decide +kernel
theorem dX11_lineNow_111 : decode cX11_lineNow 111 = .ok (.ifCond .eq 7, 3) := by decide +kernel
theorem dX11_lineNow_114 : decode cX11_lineNow 114 = .ok (.iconst 4, 1) := by decide +kernel
theorem dX11_lineNow_115 : decode cX11_lineNow 115 = .ok (.goto 32, 3) := by decide +kernel
theorem dX11_lineNow_118 : decode cX11_lineNow 118 = .ok (.aload_n 0, 1) := by decide +kernel
theorem dX11_lineNow_119 : decode cX11_lineNow 119 = .ok (.iconst 4, 1) := by decide +kernel
theorem dX11_lineNow_120 : decode cX11_lineNow 120 = .ok (.bipush 109, 2) := by decide +kernel
theorem dX11_lineNow_122 : decode cX11_lineNow 122 = .ok (.bipush 101, 2) := by decide +kernel
theorem dX11_lineNow_124 : decode cX11_lineNow 124 = .ok (.bipush 109, 2) := by decide +kernel
theorem dX11_lineNow_126 : decode cX11_lineNow 126 = .ok (.invokevirtual 101, 3) := by decide +kernel
theorem dX11_lineNow_129 : decode cX11_lineNow 129 = .ok (.ifCond .eq 16, 3) := by decide +kernel
theorem dX11_lineNow_132 : decode cX11_lineNow 132 = .ok (.aload_n 0, 1) := by decide +kernel
theorem dX11_lineNow_133 : decode cX11_lineNow 133 = .ok (.bipush 111, 2) := by decide +kernel
theorem dX11_lineNow_135 : decode cX11_lineNow 135 = .ok (.invokevirtual 105, 3) := by decide +kernel
theorem dX11_lineNow_138 : decode cX11_lineNow 138 = .ok (.ifCond .eq 7, 3) := by decide +kernel
theorem dX11_lineNow_141 : decode cX11_lineNow 141 = .ok (.iconst 5, 1) := by decide +kernel
theorem dX11_lineNow_142 : decode cX11_lineNow 142 = .ok (.goto 5, 3) := by decide +kernel
theorem dX11_lineNow_145 : decode cX11_lineNow 145 = .ok (.bipush (-4), 2) := by decide +kernel
theorem dX11_lineNow_147 : decode cX11_lineNow 147 = .ok (.ireturn, 1) := by decide +kernel
theorem dX11_wrapNow_0 : decode cX11_wrapNow 0 = .ok (.aload_n 0, 1) := by decide +kernel
theorem dX11_wrapNow_1 : decode cX11_wrapNow 1 = .ok (.iconst 4, 1) := by decide +kernel
theorem dX11_wrapNow_2 : decode cX11_wrapNow 2 = .ok (.bipush 98, 2) := by decide +kernel
theorem dX11_wrapNow_4 : decode cX11_wrapNow 4 = .ok (.bipush 97, 2) := by decide +kernel
theorem dX11_wrapNow_6 : decode cX11_wrapNow 6 = .ok (.bipush 114, 2) := by decide +kernel
theorem dX11_wrapNow_8 : decode cX11_wrapNow 8 = .ok (.invokevirtual 101, 3) := by decide +kernel
theorem dX11_wrapNow_11 : decode cX11_wrapNow 11 = .ok (.ifCond .eq 14, 3) := by decide +kernel
theorem dX11_wrapNow_14 : decode cX11_wrapNow 14 = .ok (.aload_n 0, 1) := by decide +kernel
theorem dX11_wrapNow_15 : decode cX11_wrapNow 15 = .ok (.bipush 101, 2) := by decide +kernel
theorem dX11_wrapNow_17 : decode cX11_wrapNow 17 = .ok (.invokevirtual 105, 3) := by decide +kernel
theorem dX11_wrapNow_20 : decode cX11_wrapNow 20 = .ok (.ifCond .eq 5, 3) := by decide +kernel
theorem dX11_wrapNow_23 : decode cX11_wrapNow 23 = .ok (.iconst 0, 1) := by decide +kernel
theorem dX11_wrapNow_24 : decode cX11_wrapNow 24 = .ok (.ireturn, 1) := by decide +kernel
theorem dX11_wrapNow_25 : decode cX11_wrapNow 25 = .ok (.aload_n 0, 1) := by decide +kernel
theorem dX11_wrapNow_26 : decode cX11_wrapNow 26 = .ok (.iconst 4, 1) := by decide +kernel
theorem dX11_wrapNow_27 : decode cX11_wrapNow 27 = .ok (.bipush 99, 2) := by decide +kernel
theorem dX11_wrapNow_29 : decode cX11_wrapNow 29 = .ok (.bipush 108, 2) := by decide +kernel
theorem dX11_wrapNow_31 : decode cX11_wrapNow 31 = .ok (.bipush 97, 2) := by decide +kernel
theorem dX11_wrapNow_33 : decode cX11_wrapNow 33 = .ok (.invokevirtual 101, 3) := by decide +kernel
theorem dX11_wrapNow_36 : decode cX11_wrapNow 36 = .ok (.ifCond .eq 16, 3) := by decide +kernel
theorem dX11_wrapNow_39 : decode cX11_wrapNow 39 = .ok (.aload_n 0, 1) := by decide +kernel
theorem dX11_wrapNow_40 : decode cX11_wrapNow 40 = .ok (.bipush 121, 2) := by decide +kernel
theorem dX11_wrapNow_42 : decode cX11_wrapNow 42 = .ok (.invokevirtual 105, 3) := by decide +kernel
theorem dX11_wrapNow_45 : decode cX11_wrapNow 45 = .ok (.ifCond .eq 7, 3) := by decide +kernel
theorem dX11_wrapNow_48 : decode cX11_wrapNow 48 = .ok (.iconst 1, 1) := by decide +kernel
theorem dX11_wrapNow_49 : decode cX11_wrapNow 49 = .ok (.goto 32, 3) := by decide +kernel
theorem dX11_wrapNow_52 : decode cX11_wrapNow 52 = .ok (.aload_n 0, 1) := by decide +kernel
theorem dX11_wrapNow_53 : decode cX11_wrapNow 53 = .ok (.iconst 4, 1) := by decide +kernel
theorem dX11_wrapNow_54 : decode cX11_wrapNow 54 = .ok (.bipush 102, 2) := by decide +kernel
theorem dX11_wrapNow_56 : decode cX11_wrapNow 56 = .ok (.bipush 111, 2) := by decide +kernel
theorem dX11_wrapNow_58 : decode cX11_wrapNow 58 = .ok (.bipush 105, 2) := by decide +kernel
theorem dX11_wrapNow_60 : decode cX11_wrapNow 60 = .ok (.invokevirtual 101, 3) := by decide +kernel
theorem dX11_wrapNow_63 : decode cX11_wrapNow 63 = .ok (.ifCond .eq 16, 3) := by decide +kernel
theorem dX11_wrapNow_66 : decode cX11_wrapNow 66 = .ok (.aload_n 0, 1) := by decide +kernel
theorem dX11_wrapNow_67 : decode cX11_wrapNow 67 = .ok (.bipush 108, 2) := by decide +kernel
theorem dX11_wrapNow_69 : decode cX11_wrapNow 69 = .ok (.invokevirtual 105, 3) := by decide +kernel
theorem dX11_wrapNow_72 : decode cX11_wrapNow 72 = .ok (.ifCond .eq 7, 3) := by decide +kernel
theorem dX11_wrapNow_75 : decode cX11_wrapNow 75 = .ok (.iconst 2, 1) := by decide +kernel
theorem dX11_wrapNow_76 : decode cX11_wrapNow 76 = .ok (.goto 5, 3) := by decide +kernel
theorem dX11_wrapNow_79 : decode cX11_wrapNow 79 = .ok (.bipush (-4), 2) := by decide +kernel
theorem dX11_wrapNow_81 : decode cX11_wrapNow 81 = .ok (.ireturn, 1) := by decide +kernel
theorem dX11_next_0 : decode cX11_next 0 = .ok (.aload_n 0, 1) := by decide +kernel
theorem dX11_next_1 : decode cX11_next 1 = .ok (.getfield 85, 3) := by decide +kernel
theorem dX11_next_4 : decode cX11_next 4 = .ok (.ifCond .le 4, 3) := by decide +kernel
theorem dX11_next_7 : decode cX11_next 7 = .ok (.return_, 1) := by decide +kernel
theorem dX11_next_8 : decode cX11_next 8 = .ok (.aload_n 0, 1) := by decide +kernel
theorem dX11_next_9 : decode cX11_next 9 = .ok (.aload_n 0, 1) := by decide +kernel
theorem dX11_next_10 : decode cX11_next 10 = .ok (.getfield 94, 3) := by decide +kernel
theorem dX11_next_13 : decode cX11_next 13 = .ok (.invokevirtual 97, 3) := by decide +kernel
theorem dX11_next_16 : decode cX11_next 16 = .ok (.bipush 32, 2) := by decide +kernel
theorem dX11_next_18 : decode cX11_next 18 = .ok (.if_icmp .ne 16, 3) := by decide +kernel
theorem dX11_next_21 : decode cX11_next 21 = .ok (.aload_n 0, 1) := by decide +kernel
theorem dX11_next_22 : decode cX11_next 22 = .ok (.dup, 1) := by decide +kernel
theorem dX11_next_23 : decode cX11_next 23 = .ok (.getfield 94, 3) := by decide +kernel
theorem dX11_next_26 : decode cX11_next 26 = .ok (.iconst 1, 1) := by decide +kernel
theorem dX11_next_27 : decode cX11_next 27 = .ok (.iadd, 1) := by decide +kernel
theorem dX11_next_28 : decode cX11_next 28 = .ok (.putfield 94, 3) := by decide +kernel
theorem dX11_next_31 : decode cX11_next 31 = .ok (.goto (-23), 3) := by decide +kernel
theorem dX11_next_34 : decode cX11_next 34 = .ok (.aload_n 0, 1) := by decide +kernel
theorem dX11_next_35 : decode cX11_next 35 = .ok (.aload_n 0, 1) := by decide +kernel
theorem dX11_next_36 : decode cX11_next 36 = .ok (.getfield 94, 3) := by decide +kernel
theorem dX11_next_39 : decode cX11_next 39 = .ok (.putfield 88, 3) := by decide +kernel
theorem dX11_next_42 : decode cX11_next 42 = .ok (.aload_n 0, 1) := by decide +kernel
theorem dX11_next_43 : decode cX11_next 43 = .ok (.aload_n 0, 1) := by decide +kernel
theorem dX11_next_44 : decode cX11_next 44 = .ok (.getfield 94, 3) := by decide +kernel
theorem dX11_next_47 : decode cX11_next 47 = .ok (.invokevirtual 97, 3) := by decide +kernel
theorem dX11_next_50 : decode cX11_next 50 = .ok (.istore_n 1, 1) := by decide +kernel
theorem dX11_next_51 : decode cX11_next 51 = .ok (.iload_n 1, 1) := by decide +kernel
theorem dX11_next_52 : decode cX11_next 52 = .ok (.ifCond .ge 11, 3) := by decide +kernel
theorem dX11_next_55 : decode cX11_next 55 = .ok (.aload_n 0, 1) := by decide +kernel
theorem dX11_next_56 : decode cX11_next 56 = .ok (.iconst 0, 1) := by decide +kernel
theorem dX11_next_57 : decode cX11_next 57 = .ok (.putfield 109, 3) := by decide +kernel
theorem dX11_next_60 : decode cX11_next 60 = .ok (.goto 214, 3) := by decide +kernel
theorem dX11_next_63 : decode cX11_next 63 = .ok (.iload_n 1, 1) := by decide +kernel
theorem dX11_next_64 : decode cX11_next 64 = .ok (.i2l, 1) := by decide +kernel
theorem dX11_next_65 : decode cX11_next 65 = .ok (.ldc2_w 112, 3) := by decide +kernel
theorem dX11_next_68 : decode cX11_next 68 = .ok (.ldc2_w 114, 3) := by decide +kernel
theorem dX11_next_71 : decode cX11_next 71 = .ok (.invokestatic 78, 3) := by decide +kernel
theorem dX11_next_74 : decode cX11_next 74 = .ok (.ifCond .eq 42, 3) := by decide +kernel
theorem dX11_next_77 : decode cX11_next 77 = .ok (.aload_n 0, 1) := by decide +kernel
theorem dX11_next_78 : decode cX11_next 78 = .ok (.iconst 1, 1) := by decide +kernel
theorem dX11_next_79 : decode cX11_next 79 = .ok (.putfield 109, 3) := by decide +kernel
theorem dX11_next_82 : decode cX11_next 82 = .ok (.aload_n 0, 1) := by decide +kernel
theorem dX11_next_83 : decode cX11_next 83 = .ok (.aload_n 0, 1) := by decide +kernel
theorem dX11_next_84 : decode cX11_next 84 = .ok (.getfield 94, 3) := by decide +kernel
theorem dX11_next_87 : decode cX11_next 87 = .ok (.invokevirtual 97, 3) := by decide +kernel
theorem dX11_next_90 : decode cX11_next 90 = .ok (.i2l, 1) := by decide +kernel
theorem dX11_next_91 : decode cX11_next 91 = .ok (.ldc2_w 112, 3) := by decide +kernel
theorem dX11_next_94 : decode cX11_next 94 = .ok (.ldc2_w 114, 3) := by decide +kernel
theorem dX11_next_97 : decode cX11_next 97 = .ok (.invokestatic 78, 3) := by decide +kernel
theorem dX11_next_100 : decode cX11_next 100 = .ok (.ifCond .eq 174, 3) := by decide +kernel
theorem dX11_next_103 : decode cX11_next 103 = .ok (.aload_n 0, 1) := by decide +kernel
theorem dX11_next_104 : decode cX11_next 104 = .ok (.dup, 1) := by decide +kernel
theorem dX11_next_105 : decode cX11_next 105 = .ok (.getfield 94, 3) := by decide +kernel
theorem dX11_next_108 : decode cX11_next 108 = .ok (.iconst 1, 1) := by decide +kernel
theorem dX11_next_109 : decode cX11_next 109 = .ok (.iadd, 1) := by decide +kernel
theorem dX11_next_110 : decode cX11_next 110 = .ok (.putfield 94, 3) := by decide +kernel
theorem dX11_next_113 : decode cX11_next 113 = .ok (.goto (-31), 3) := by decide +kernel
theorem dX11_next_116 : decode cX11_next 116 = .ok (.iload_n 1, 1) := by decide +kernel
theorem dX11_next_117 : decode cX11_next 117 = .ok (.i2l, 1) := by decide +kernel
theorem dX11_next_118 : decode cX11_next 118 = .ok (.ldc2_w 116, 3) := by decide +kernel
theorem dX11_next_121 : decode cX11_next 121 = .ok (.ldc2_w 118, 3) := by decide +kernel
theorem dX11_next_124 : decode cX11_next 124 = .ok (.invokestatic 78, 3) := by decide +kernel
theorem dX11_next_127 : decode cX11_next 127 = .ok (.ifCond .eq 116, 3) := by decide +kernel
theorem dX11_next_130 : decode cX11_next 130 = .ok (.aload_n 0, 1) := by decide +kernel
theorem dX11_next_131 : decode cX11_next 131 = .ok (.iconst 2, 1) := by decide +kernel
theorem dX11_next_132 : decode cX11_next 132 = .ok (.putfield 109, 3) := by decide +kernel
theorem dX11_next_135 : decode cX11_next 135 = .ok (.aload_n 0, 1) := by decide +kernel
theorem dX11_next_136 : decode cX11_next 136 = .ok (.iconst 0, 1) := by decide +kernel
theorem dX11_next_137 : decode cX11_next 137 = .ok (.putfield 120, 3) := by decide +kernel
theorem dX11_next_140 : decode cX11_next 140 = .ok (.aload_n 0, 1) := by decide +kernel
theorem dX11_next_141 : decode cX11_next 141 = .ok (.aload_n 0, 1) := by decide +kernel
theorem dX11_next_142 : decode cX11_next 142 = .ok (.getfield 94, 3) := by decide +kernel
theorem dX11_next_145 : decode cX11_next 145 = .ok (.invokevirtual 97, 3) := by decide +kernel
theorem dX11_next_148 : decode cX11_next 148 = .ok (.i2l, 1) := by decide +kernel
theorem dX11_next_149 : decode cX11_next 149 = .ok (.ldc2_w 116, 3) := by decide +kernel
theorem dX11_next_152 : decode cX11_next 152 = .ok (.ldc2_w 118, 3) := by decide +kernel
theorem dX11_next_155 : decode cX11_next 155 = .ok (.invokestatic 78, 3) := by decide +kernel
theorem dX11_next_158 : decode cX11_next 158 = .ok (.ifCond .eq 59, 3) := by decide +kernel
theorem dX11_next_161 : decode cX11_next 161 = .ok (.aload_n 0, 1) := by decide +kernel
theorem dX11_next_162 : decode cX11_next 162 = .ok (.aload_n 0, 1) := by decide +kernel
theorem dX11_next_163 : decode cX11_next 163 = .ok (.getfield 94, 3) := by decide +kernel
theorem dX11_next_166 : decode cX11_next 166 = .ok (.aload_n 0, 1) := by decide +kernel
theorem dX11_next_167 : decode cX11_next 167 = .ok (.getfield 88, 3) := by decide +kernel
theorem dX11_next_170 : decode cX11_next 170 = .ok (.isub, 1) := by decide +kernel
theorem dX11_next_171 : decode cX11_next 171 = .ok (.iconst 2, 1) := by decide +kernel
theorem dX11_next_172 : decode cX11_next 172 = .ok (.if_icmp .ge 25, 3) := by decide +kernel
theorem dX11_next_175 : decode cX11_next 175 = .ok (.bipush 10, 2) := by decide +kernel
theorem dX11_next_177 : decode cX11_next 177 = .ok (.aload_n 0, 1) := by decide +kernel
theorem dX11_next_178 : decode cX11_next 178 = .ok (.getfield 120, 3) := by decide +kernel
theorem dX11_next_181 : decode cX11_next 181 = .ok (.imul, 1) := by decide +kernel
theorem dX11_next_182 : decode cX11_next 182 = .ok (.aload_n 0, 1) := by decide +kernel
theorem dX11_next_183 : decode cX11_next 183 = .ok (.aload_n 0, 1) := by decide +kernel
theorem dX11_next_184 : decode cX11_next 184 = .ok (.getfield 94, 3) := by decide +kernel
theorem dX11_next_187 : decode cX11_next 187 = .ok (.invokevirtual 97, 3) := by decide +kernel
theorem dX11_next_190 : decode cX11_next 190 = .ok (.iadd, 1) := by decide +kernel
theorem dX11_next_191 : decode cX11_next 191 = .ok (.bipush 48, 2) := by decide +kernel
theorem dX11_next_193 : decode cX11_next 193 = .ok (.isub, 1) := by decide +kernel
theorem dX11_next_194 : decode cX11_next 194 = .ok (.goto 7, 3) := by decide +kernel
theorem dX11_next_197 : decode cX11_next 197 = .ok (.aload_n 0, 1) := by decide +kernel
theorem dX11_next_198 : decode cX11_next 198 = .ok (.getfield 120, 3) := by decide +kernel
theorem dX11_next_201 : decode cX11_next 201 = .ok (.putfield 120, 3) := by decide +kernel
theorem dX11_next_204 : decode cX11_next 204 = .ok (.aload_n 0, 1) := by decide +kernel
theorem dX11_next_205 : decode cX11_next 205 = .ok (.dup, 1) := by decide +kernel
theorem dX11_next_206 : decode cX11_next 206 = .ok (.getfield 94, 3) := by decide +kernel
theorem dX11_next_209 : decode cX11_next 209 = .ok (.iconst 1, 1) := by decide +kernel
theorem dX11_next_210 : decode cX11_next 210 = .ok (.iadd, 1) := by decide +kernel
theorem dX11_next_211 : decode cX11_next 211 = .ok (.putfield 94, 3) := by decide +kernel
theorem dX11_next_214 : decode cX11_next 214 = .ok (.goto (-74), 3) := by decide +kernel
theorem dX11_next_217 : decode cX11_next 217 = .ok (.aload_n 0, 1) := by decide +kernel
theorem dX11_next_218 : decode cX11_next 218 = .ok (.aload_n 0, 1) := by decide +kernel
theorem dX11_next_219 : decode cX11_next 219 = .ok (.getfield 94, 3) := by decide +kernel
theorem dX11_next_222 : decode cX11_next 222 = .ok (.aload_n 0, 1) := by decide +kernel
theorem dX11_next_223 : decode cX11_next 223 = .ok (.getfield 88, 3) := by decide +kernel
theorem dX11_next_226 : decode cX11_next 226 = .ok (.isub, 1) := by decide +kernel
theorem dX11_next_227 : decode cX11_next 227 = .ok (.iconst 2, 1) := by decide +kernel
theorem dX11_next_228 : decode cX11_next 228 = .ok (.if_icmp .gt 7, 3) := by decide +kernel
theorem dX11_next_231 : decode cX11_next 231 = .ok (.iconst 1, 1) := by decide +kernel
theorem dX11_next_232 : decode cX11_next 232 = .ok (.goto 4, 3) := by decide +kernel
theorem dX11_next_235 : decode cX11_next 235 = .ok (.iconst 0, 1) := by decide +kernel
theorem dX11_next_236 : decode cX11_next 236 = .ok (.iconst 1, 1) := by decide +kernel
theorem dX11_next_237 : decode cX11_next 237 = .ok (.invokevirtual 123, 3) := by decide +kernel
theorem dX11_next_240 : decode cX11_next 240 = .ok (.goto 34, 3) := by decide +kernel
theorem dX11_next_243 : decode cX11_next 243 = .ok (.aload_n 0, 1) := by decide +kernel
theorem dX11_next_244 : decode cX11_next 244 = .ok (.iconst 3, 1) := by decide +kernel
theorem dX11_next_245 : decode cX11_next 245 = .ok (.putfield 109, 3) := by decide +kernel
theorem dX11_next_248 : decode cX11_next 248 = .ok (.aload_n 0, 1) := by decide +kernel
theorem dX11_next_249 : decode cX11_next 249 = .ok (.iload_n 1, 1) := by decide +kernel
theorem dX11_next_250 : decode cX11_next 250 = .ok (.bipush 59, 2) := by decide +kernel
theorem dX11_next_252 : decode cX11_next 252 = .ok (.if_icmp .ne 7, 3) := by decide +kernel
theorem dX11_next_255 : decode cX11_next 255 = .ok (.iconst 1, 1) := by decide +kernel
theorem dX11_next_256 : decode cX11_next 256 = .ok (.goto 4, 3) := by decide +kernel
theorem dX11_next_259 : decode cX11_next 259 = .ok (.iconst 0, 1) := by decide +kernel
theorem dX11_next_260 : decode cX11_next 260 = .ok (.iconst 1, 1) := by decide +kernel
theorem dX11_next_261 : decode cX11_next 261 = .ok (.invokevirtual 123, 3) := by decide +kernel
theorem dX11_next_264 : decode cX11_next 264 = .ok (.aload_n 0, 1) := by decide +kernel
theorem dX11_next_265 : decode cX11_next 265 = .ok (.dup, 1) := by decide +kernel
theorem dX11_next_266 : decode cX11_next 266 = .ok (.getfield 94, 3) := by decide +kernel
theorem dX11_next_269 : decode cX11_next 269 = .ok (.iconst 1, 1) := by decide +kernel
theorem dX11_next_270 : decode cX11_next 270 = .ok (.iadd, 1) := by decide +kernel
theorem dX11_next_271 : decode cX11_next 271 = .ok (.putfield 94, 3) := by decide +kernel
theorem dX11_next_274 : decode cX11_next 274 = .ok (.return_, 1) := by decide +kernel
theorem dX11_looked_0 : decode cX11_looked 0 = .ok (.aload_n 0, 1) := by decide +kernel
theorem dX11_looked_1 : decode cX11_looked 1 = .ok (.getfield 85, 3) := by decide +kernel
theorem dX11_looked_4 : decode cX11_looked 4 = .ok (.ifCond .ne 21, 3) := by decide +kernel
theorem dX11_looked_7 : decode cX11_looked 7 = .ok (.aload_n 0, 1) := by decide +kernel
theorem dX11_looked_8 : decode cX11_looked 8 = .ok (.aload_n 0, 1) := by decide +kernel
theorem dX11_looked_9 : decode cX11_looked 9 = .ok (.getfield 109, 3) := by decide +kernel
theorem dX11_looked_12 : decode cX11_looked 12 = .ok (.iconst 2, 1) := by decide +kernel
theorem dX11_looked_13 : decode cX11_looked 13 = .ok (.if_icmp .ne 7, 3) := by decide +kernel
theorem dX11_looked_16 : decode cX11_looked 16 = .ok (.iconst 1, 1) := by decide +kernel
theorem dX11_looked_17 : decode cX11_looked 17 = .ok (.goto 4, 3) := by decide +kernel
theorem dX11_looked_20 : decode cX11_looked 20 = .ok (.iconst 0, 1) := by decide +kernel
theorem dX11_looked_21 : decode cX11_looked 21 = .ok (.iconst 2, 1) := by decide +kernel
theorem dX11_looked_22 : decode cX11_looked 22 = .ok (.invokevirtual 123, 3) := by decide +kernel
theorem dX11_looked_25 : decode cX11_looked 25 = .ok (.aload_n 0, 1) := by decide +kernel
theorem dX11_looked_26 : decode cX11_looked 26 = .ok (.getfield 85, 3) := by decide +kernel
theorem dX11_looked_29 : decode cX11_looked 29 = .ok (.ifCond .ne 20, 3) := by decide +kernel
theorem dX11_looked_32 : decode cX11_looked 32 = .ok (.aload_n 0, 1) := by decide +kernel
theorem dX11_looked_33 : decode cX11_looked 33 = .ok (.aload_n 0, 1) := by decide +kernel
theorem dX11_looked_34 : decode cX11_looked 34 = .ok (.getfield 120, 3) := by decide +kernel
theorem dX11_looked_37 : decode cX11_looked 37 = .ok (.i2l, 1) := by decide +kernel
theorem dX11_looked_38 : decode cX11_looked 38 = .ok (.iload_n 1, 1) := by decide +kernel
theorem dX11_looked_39 : decode cX11_looked 39 = .ok (.i2l, 1) := by decide +kernel
theorem dX11_looked_40 : decode cX11_looked 40 = .ok (.iload_n 2, 1) := by decide +kernel
theorem dX11_looked_41 : decode cX11_looked 41 = .ok (.i2l, 1) := by decide +kernel
theorem dX11_looked_42 : decode cX11_looked 42 = .ok (.invokestatic 78, 3) := by decide +kernel
theorem dX11_looked_45 : decode cX11_looked 45 = .ok (.iconst 3, 1) := by decide +kernel
theorem dX11_looked_46 : decode cX11_looked 46 = .ok (.invokevirtual 123, 3) := by decide +kernel
theorem dX11_looked_49 : decode cX11_looked 49 = .ok (.aload_n 0, 1) := by decide +kernel
theorem dX11_looked_50 : decode cX11_looked 50 = .ok (.getfield 85, 3) := by decide +kernel
theorem dX11_looked_53 : decode cX11_looked 53 = .ok (.ifCond .ne 10, 3) := by decide +kernel
theorem dX11_looked_56 : decode cX11_looked 56 = .ok (.aload_n 0, 1) := by decide +kernel
theorem dX11_looked_57 : decode cX11_looked 57 = .ok (.getfield 120, 3) := by decide +kernel
theorem dX11_looked_60 : decode cX11_looked 60 = .ok (.goto 4, 3) := by decide +kernel
theorem dX11_looked_63 : decode cX11_looked 63 = .ok (.iconst 0, 1) := by decide +kernel
theorem dX11_looked_64 : decode cX11_looked 64 = .ok (.ireturn, 1) := by decide +kernel
theorem dX11_readNumber_0 : decode cX11_readNumber 0 = .ok (.aload_n 0, 1) := by decide +kernel
theorem dX11_readNumber_1 : decode cX11_readNumber 1 = .ok (.iload_n 1, 1) := by decide +kernel
theorem dX11_readNumber_2 : decode cX11_readNumber 2 = .ok (.iload_n 2, 1) := by decide +kernel
theorem dX11_readNumber_3 : decode cX11_readNumber 3 = .ok (.invokevirtual 127, 3) := by decide +kernel
theorem dX11_readNumber_6 : decode cX11_readNumber 6 = .ok (.istore_n 3, 1) := by decide +kernel
theorem dX11_readNumber_7 : decode cX11_readNumber 7 = .ok (.aload_n 0, 1) := by decide +kernel
theorem dX11_readNumber_8 : decode cX11_readNumber 8 = .ok (.invokevirtual 131, 3) := by decide +kernel
theorem dX11_readNumber_11 : decode cX11_readNumber 11 = .ok (.iload_n 3, 1) := by decide +kernel
theorem dX11_readNumber_12 : decode cX11_readNumber 12 = .ok (.ireturn, 1) := by decide +kernel
theorem dX11_lookedCell_0 : decode cX11_lookedCell 0 = .ok (.aload_n 0, 1) := by decide +kernel
theorem dX11_lookedCell_1 : decode cX11_lookedCell 1 = .ok (.iconst 0, 1) := by decide +kernel
theorem dX11_lookedCell_2 : decode cX11_lookedCell 2 = .ok (.bipush 7, 2) := by decide +kernel
theorem dX11_lookedCell_4 : decode cX11_lookedCell 4 = .ok (.invokevirtual 127, 3) := by decide +kernel
theorem dX11_lookedCell_7 : decode cX11_lookedCell 7 = .ok (.istore_n 1, 1) := by decide +kernel
theorem dX11_lookedCell_8 : decode cX11_lookedCell 8 = .ok (.aload_n 0, 1) := by decide +kernel
theorem dX11_lookedCell_9 : decode cX11_lookedCell 9 = .ok (.aload_n 0, 1) := by decide +kernel
theorem dX11_lookedCell_10 : decode cX11_lookedCell 10 = .ok (.getfield 85, 3) := by decide +kernel
theorem dX11_lookedCell_13 : decode cX11_lookedCell 13 = .ok (.ifCond .ne 15, 3) := by decide +kernel
theorem dX11_lookedCell_16 : decode cX11_lookedCell 16 = .ok (.iload_n 1, 1) := by decide +kernel
theorem dX11_lookedCell_17 : decode cX11_lookedCell 17 = .ok (.aload_n 0, 1) := by decide +kernel
theorem dX11_lookedCell_18 : decode cX11_lookedCell 18 = .ok (.getfield 64, 3) := by decide +kernel
theorem dX11_lookedCell_21 : decode cX11_lookedCell 21 = .ok (.if_icmp .le 7, 3) := by decide +kernel
theorem dX11_lookedCell_24 : decode cX11_lookedCell 24 = .ok (.iload_n 1, 1) := by decide +kernel
theorem dX11_lookedCell_25 : decode cX11_lookedCell 25 = .ok (.goto 7, 3) := by decide +kernel
theorem dX11_lookedCell_28 : decode cX11_lookedCell 28 = .ok (.aload_n 0, 1) := by decide +kernel
theorem dX11_lookedCell_29 : decode cX11_lookedCell 29 = .ok (.getfield 64, 3) := by decide +kernel
theorem dX11_lookedCell_32 : decode cX11_lookedCell 32 = .ok (.putfield 64, 3) := by decide +kernel
theorem dX11_lookedCell_35 : decode cX11_lookedCell 35 = .ok (.iload_n 1, 1) := by decide +kernel
theorem dX11_lookedCell_36 : decode cX11_lookedCell 36 = .ok (.ireturn, 1) := by decide +kernel
theorem dX11_readCell_0 : decode cX11_readCell 0 = .ok (.aload_n 0, 1) := by decide +kernel
theorem dX11_readCell_1 : decode cX11_readCell 1 = .ok (.invokevirtual 134, 3) := by decide +kernel
theorem dX11_readCell_4 : decode cX11_readCell 4 = .ok (.istore_n 1, 1) := by decide +kernel
theorem dX11_readCell_5 : decode cX11_readCell 5 = .ok (.aload_n 0, 1) := by decide +kernel
theorem dX11_readCell_6 : decode cX11_readCell 6 = .ok (.invokevirtual 131, 3) := by decide +kernel
theorem dX11_readCell_9 : decode cX11_readCell 9 = .ok (.iload_n 1, 1) := by decide +kernel
theorem dX11_readCell_10 : decode cX11_readCell 10 = .ok (.ireturn, 1) := by decide +kernel
theorem dX11_readWrap_0 : decode cX11_readWrap 0 = .ok (.aload_n 0, 1) := by decide +kernel
theorem dX11_readWrap_1 : decode cX11_readWrap 1 = .ok (.getfield 85, 3) := by decide +kernel
theorem dX11_readWrap_4 : decode cX11_readWrap 4 = .ok (.ifCond .ne 18, 3) := by decide +kernel
theorem dX11_readWrap_7 : decode cX11_readWrap 7 = .ok (.aload_n 0, 1) := by decide +kernel
theorem dX11_readWrap_8 : decode cX11_readWrap 8 = .ok (.getfield 109, 3) := by decide +kernel
theorem dX11_readWrap_11 : decode cX11_readWrap 11 = .ok (.iconst 1, 1) := by decide +kernel
theorem dX11_readWrap_12 : decode cX11_readWrap 12 = .ok (.if_icmp .ne 10, 3) := by decide +kernel
theorem dX11_readWrap_15 : decode cX11_readWrap 15 = .ok (.aload_n 0, 1) := by decide +kernel
theorem dX11_readWrap_16 : decode cX11_readWrap 16 = .ok (.invokevirtual 138, 3) := by decide +kernel
theorem dX11_readWrap_19 : decode cX11_readWrap 19 = .ok (.goto 5, 3) := by decide +kernel
theorem dX11_readWrap_22 : decode cX11_readWrap 22 = .ok (.bipush (-4), 2) := by decide +kernel
theorem dX11_readWrap_24 : decode cX11_readWrap 24 = .ok (.istore_n 1, 1) := by decide +kernel
theorem dX11_readWrap_25 : decode cX11_readWrap 25 = .ok (.aload_n 0, 1) := by decide +kernel
theorem dX11_readWrap_26 : decode cX11_readWrap 26 = .ok (.iload_n 1, 1) := by decide +kernel
theorem dX11_readWrap_27 : decode cX11_readWrap 27 = .ok (.bipush (-4), 2) := by decide +kernel
theorem dX11_readWrap_29 : decode cX11_readWrap 29 = .ok (.if_icmp .eq 7, 3) := by decide +kernel
theorem dX11_readWrap_32 : decode cX11_readWrap 32 = .ok (.iconst 1, 1) := by decide +kernel
theorem dX11_readWrap_33 : decode cX11_readWrap 33 = .ok (.goto 4, 3) := by decide +kernel
theorem dX11_readWrap_36 : decode cX11_readWrap 36 = .ok (.iconst 0, 1) := by decide +kernel
theorem dX11_readWrap_37 : decode cX11_readWrap 37 = .ok (.iconst 2, 1) := by decide +kernel
theorem dX11_readWrap_38 : decode cX11_readWrap 38 = .ok (.invokevirtual 123, 3) := by decide +kernel
theorem dX11_readWrap_41 : decode cX11_readWrap 41 = .ok (.aload_n 0, 1) := by decide +kernel
theorem dX11_readWrap_42 : decode cX11_readWrap 42 = .ok (.invokevirtual 131, 3) := by decide +kernel
theorem dX11_readWrap_45 : decode cX11_readWrap 45 = .ok (.iload_n 1, 1) := by decide +kernel
theorem dX11_readWrap_46 : decode cX11_readWrap 46 = .ok (.ireturn, 1) := by decide +kernel
theorem dX11_readHeat_0 : decode cX11_readHeat 0 = .ok (.aload_n 0, 1) := by decide +kernel
theorem dX11_readHeat_1 : decode cX11_readHeat 1 = .ok (.invokevirtual 134, 3) := by decide +kernel
theorem dX11_readHeat_4 : decode cX11_readHeat 4 = .ok (.istore_n 1, 1) := by decide +kernel
theorem dX11_readHeat_5 : decode cX11_readHeat 5 = .ok (.aload_n 0, 1) := by decide +kernel
theorem dX11_readHeat_6 : decode cX11_readHeat 6 = .ok (.getfield 85, 3) := by decide +kernel
theorem dX11_readHeat_9 : decode cX11_readHeat 9 = .ok (.ifCond .ne 36, 3) := by decide +kernel
theorem dX11_readHeat_12 : decode cX11_readHeat 12 = .ok (.aload_n 0, 1) := by decide +kernel
theorem dX11_readHeat_13 : decode cX11_readHeat 13 = .ok (.aload_n 0, 1) := by decide +kernel
theorem dX11_readHeat_14 : decode cX11_readHeat 14 = .ok (.getfield 58, 3) := by decide +kernel
theorem dX11_readHeat_17 : decode cX11_readHeat 17 = .ok (.iload_n 1, 1) := by decide +kernel
theorem dX11_readHeat_18 : decode cX11_readHeat 18 = .ok (.ishr, 1) := by decide +kernel
theorem dX11_readHeat_19 : decode cX11_readHeat 19 = .ok (.iconst 1, 1) := by decide +kernel
theorem dX11_readHeat_20 : decode cX11_readHeat 20 = .ok (.iand, 1) := by decide +kernel
theorem dX11_readHeat_21 : decode cX11_readHeat 21 = .ok (.ifCond .ne 7, 3) := by decide +kernel
theorem dX11_readHeat_24 : decode cX11_readHeat 24 = .ok (.iconst 1, 1) := by decide +kernel
theorem dX11_readHeat_25 : decode cX11_readHeat 25 = .ok (.goto 4, 3) := by decide +kernel
theorem dX11_readHeat_28 : decode cX11_readHeat 28 = .ok (.iconst 0, 1) := by decide +kernel
theorem dX11_readHeat_29 : decode cX11_readHeat 29 = .ok (.iconst 4, 1) := by decide +kernel
theorem dX11_readHeat_30 : decode cX11_readHeat 30 = .ok (.invokevirtual 123, 3) := by decide +kernel
theorem dX11_readHeat_33 : decode cX11_readHeat 33 = .ok (.aload_n 0, 1) := by decide +kernel
theorem dX11_readHeat_34 : decode cX11_readHeat 34 = .ok (.dup, 1) := by decide +kernel
theorem dX11_readHeat_35 : decode cX11_readHeat 35 = .ok (.getfield 58, 3) := by decide +kernel
theorem dX11_readHeat_38 : decode cX11_readHeat 38 = .ok (.iconst 1, 1) := by decide +kernel
theorem dX11_readHeat_39 : decode cX11_readHeat 39 = .ok (.iload_n 1, 1) := by decide +kernel
theorem dX11_readHeat_40 : decode cX11_readHeat 40 = .ok (.ishl, 1) := by decide +kernel
theorem dX11_readHeat_41 : decode cX11_readHeat 41 = .ok (.ior, 1) := by decide +kernel
theorem dX11_readHeat_42 : decode cX11_readHeat 42 = .ok (.putfield 58, 3) := by decide +kernel
theorem dX11_readHeat_45 : decode cX11_readHeat 45 = .ok (.aload_n 0, 1) := by decide +kernel
theorem dX11_readHeat_46 : decode cX11_readHeat 46 = .ok (.invokevirtual 131, 3) := by decide +kernel
theorem dX11_readHeat_49 : decode cX11_readHeat 49 = .ok (.iconst 0, 1) := by decide +kernel
theorem dX11_readHeat_50 : decode cX11_readHeat 50 = .ok (.istore_n 2, 1) := by decide +kernel
theorem dX11_readHeat_51 : decode cX11_readHeat 51 = .ok (.iload_n 2, 1) := by decide +kernel
theorem dX11_readHeat_52 : decode cX11_readHeat 52 = .ok (.iconst 3, 1) := by decide +kernel
theorem dX11_readHeat_53 : decode cX11_readHeat 53 = .ok (.if_icmp .ge 28, 3) := by decide +kernel
theorem dX11_readHeat_56 : decode cX11_readHeat 56 = .ok (.aload_n 0, 1) := by decide +kernel
theorem dX11_readHeat_57 : decode cX11_readHeat 57 = .ok (.getfield 20, 3) := by decide +kernel
theorem dX11_readHeat_60 : decode cX11_readHeat 60 = .ok (.iconst 0, 1) := by decide +kernel
theorem dX11_readHeat_61 : decode cX11_readHeat 61 = .ok (.iconst 3, 1) := by decide +kernel
theorem dX11_readHeat_62 : decode cX11_readHeat 62 = .ok (.iload_n 1, 1) := by decide +kernel
theorem dX11_readHeat_63 : decode cX11_readHeat 63 = .ok (.imul, 1) := by decide +kernel
theorem dX11_readHeat_64 : decode cX11_readHeat 64 = .ok (.iadd, 1) := by decide +kernel
theorem dX11_readHeat_65 : decode cX11_readHeat 65 = .ok (.iload_n 2, 1) := by decide +kernel
theorem dX11_readHeat_66 : decode cX11_readHeat 66 = .ok (.iadd, 1) := by decide +kernel
theorem dX11_readHeat_67 : decode cX11_readHeat 67 = .ok (.aload_n 0, 1) := by decide +kernel
theorem dX11_readHeat_68 : decode cX11_readHeat 68 = .ok (.iconst 0, 1) := by decide +kernel
theorem dX11_readHeat_69 : decode cX11_readHeat 69 = .ok (.bipush 99, 2) := by decide +kernel
theorem dX11_readHeat_71 : decode cX11_readHeat 71 = .ok (.invokevirtual 141, 3) := by decide +kernel
theorem dX11_readHeat_74 : decode cX11_readHeat 74 = .ok (.iastore, 1) := by decide +kernel
theorem dX11_readHeat_75 : decode cX11_readHeat 75 = .ok (.iinc 2 1, 3) := by decide +kernel
theorem dX11_readHeat_78 : decode cX11_readHeat 78 = .ok (.goto (-27), 3) := by decide +kernel
theorem dX11_readHeat_81 : decode cX11_readHeat 81 = .ok (.return_, 1) := by decide +kernel
theorem dX11_readWood_0 : decode cX11_readWood 0 = .ok (.bipush 27, 2) := by decide +kernel
theorem dX11_readWood_2 : decode cX11_readWood 2 = .ok (.iconst 3, 1) := by decide +kernel
theorem dX11_readWood_3 : decode cX11_readWood 3 = .ok (.aload_n 0, 1) := by decide +kernel
theorem dX11_readWood_4 : decode cX11_readWood 4 = .ok (.getfield 20, 3) := by decide +kernel
theorem dX11_readWood_7 : decode cX11_readWood 7 = .ok (.bipush 26, 2) := by decide +kernel
theorem dX11_readWood_9 : decode cX11_readWood 9 = .ok (.iaload, 1) := by decide +kernel
theorem dX11_readWood_10 : decode cX11_readWood 10 = .ok (.imul, 1) := by decide +kernel
theorem dX11_readWood_11 : decode cX11_readWood 11 = .ok (.iadd, 1) := by decide +kernel
theorem dX11_readWood_12 : decode cX11_readWood 12 = .ok (.istore_n 1, 1) := by decide +kernel
theorem dX11_readWood_13 : decode cX11_readWood 13 = .ok (.aload_n 0, 1) := by decide +kernel
theorem dX11_readWood_14 : decode cX11_readWood 14 = .ok (.getfield 20, 3) := by decide +kernel
theorem dX11_readWood_17 : decode cX11_readWood 17 = .ok (.iload_n 1, 1) := by decide +kernel
theorem dX11_readWood_18 : decode cX11_readWood 18 = .ok (.aload_n 0, 1) := by decide +kernel
theorem dX11_readWood_19 : decode cX11_readWood 19 = .ok (.invokevirtual 144, 3) := by decide +kernel
theorem dX11_readWood_22 : decode cX11_readWood 22 = .ok (.iastore, 1) := by decide +kernel
theorem dX11_readWood_23 : decode cX11_readWood 23 = .ok (.aload_n 0, 1) := by decide +kernel
theorem dX11_readWood_24 : decode cX11_readWood 24 = .ok (.getfield 20, 3) := by decide +kernel
theorem dX11_readWood_27 : decode cX11_readWood 27 = .ok (.iload_n 1, 1) := by decide +kernel
theorem dX11_readWood_28 : decode cX11_readWood 28 = .ok (.iconst 1, 1) := by decide +kernel
theorem dX11_readWood_29 : decode cX11_readWood 29 = .ok (.iadd, 1) := by decide +kernel
theorem dX11_readWood_30 : decode cX11_readWood 30 = .ok (.aload_n 0, 1) := by decide +kernel
theorem dX11_readWood_31 : decode cX11_readWood 31 = .ok (.iconst 1, 1) := by decide +kernel
theorem dX11_readWood_32 : decode cX11_readWood 32 = .ok (.bipush 99, 2) := by decide +kernel
theorem dX11_readWood_34 : decode cX11_readWood 34 = .ok (.invokevirtual 141, 3) := by decide +kernel
theorem dX11_readWood_37 : decode cX11_readWood 37 = .ok (.iastore, 1) := by decide +kernel
theorem dX11_readWood_38 : decode cX11_readWood 38 = .ok (.aload_n 0, 1) := by decide +kernel
theorem dX11_readWood_39 : decode cX11_readWood 39 = .ok (.getfield 20, 3) := by decide +kernel
theorem dX11_readWood_42 : decode cX11_readWood 42 = .ok (.iload_n 1, 1) := by decide +kernel
theorem dX11_readWood_43 : decode cX11_readWood 43 = .ok (.iconst 2, 1) := by decide +kernel
theorem dX11_readWood_44 : decode cX11_readWood 44 = .ok (.iadd, 1) := by decide +kernel
theorem dX11_readWood_45 : decode cX11_readWood 45 = .ok (.aload_n 0, 1) := by decide +kernel
theorem dX11_readWood_46 : decode cX11_readWood 46 = .ok (.iconst 1, 1) := by decide +kernel
theorem dX11_readWood_47 : decode cX11_readWood 47 = .ok (.bipush 9, 2) := by decide +kernel
theorem dX11_readWood_49 : decode cX11_readWood 49 = .ok (.invokevirtual 141, 3) := by decide +kernel
theorem dX11_readWood_52 : decode cX11_readWood 52 = .ok (.iastore, 1) := by decide +kernel
theorem dX11_readWood_53 : decode cX11_readWood 53 = .ok (.aload_n 0, 1) := by decide +kernel
theorem dX11_readWood_54 : decode cX11_readWood 54 = .ok (.getfield 20, 3) := by decide +kernel
theorem dX11_readWood_57 : decode cX11_readWood 57 = .ok (.bipush 26, 2) := by decide +kernel
theorem dX11_readWood_59 : decode cX11_readWood 59 = .ok (.dup2, 1) := by decide +kernel
theorem dX11_readWood_60 : decode cX11_readWood 60 = .ok (.iaload, 1) := by decide +kernel
theorem dX11_readWood_61 : decode cX11_readWood 61 = .ok (.iconst 1, 1) := by decide +kernel
theorem dX11_readWood_62 : decode cX11_readWood 62 = .ok (.iadd, 1) := by decide +kernel
theorem dX11_readWood_63 : decode cX11_readWood 63 = .ok (.iastore, 1) := by decide +kernel
theorem dX11_readWood_64 : decode cX11_readWood 64 = .ok (.return_, 1) := by decide +kernel
theorem dX11_readSpud_0 : decode cX11_readSpud 0 = .ok (.bipush 47, 2) := by decide +kernel
theorem dX11_readSpud_2 : decode cX11_readSpud 2 = .ok (.bipush 8, 2) := by decide +kernel
theorem dX11_readSpud_4 : decode cX11_readSpud 4 = .ok (.aload_n 0, 1) := by decide +kernel
theorem dX11_readSpud_5 : decode cX11_readSpud 5 = .ok (.getfield 20, 3) := by decide +kernel
theorem dX11_readSpud_8 : decode cX11_readSpud 8 = .ok (.bipush 46, 2) := by decide +kernel
theorem dX11_readSpud_10 : decode cX11_readSpud 10 = .ok (.iaload, 1) := by decide +kernel
theorem dX11_readSpud_11 : decode cX11_readSpud 11 = .ok (.imul, 1) := by decide +kernel
theorem dX11_readSpud_12 : decode cX11_readSpud 12 = .ok (.iadd, 1) := by decide +kernel
theorem dX11_readSpud_13 : decode cX11_readSpud 13 = .ok (.istore_n 2, 1) := by decide +kernel
theorem dX11_readSpud_14 : decode cX11_readSpud 14 = .ok (.aload_n 0, 1) := by decide +kernel
theorem dX11_readSpud_15 : decode cX11_readSpud 15 = .ok (.getfield 20, 3) := by decide +kernel
theorem dX11_readSpud_18 : decode cX11_readSpud 18 = .ok (.iload_n 2, 1) := by decide +kernel
theorem dX11_readSpud_19 : decode cX11_readSpud 19 = .ok (.iconst 0, 1) := by decide +kernel
theorem dX11_readSpud_20 : decode cX11_readSpud 20 = .ok (.iadd, 1) := by decide +kernel
theorem dX11_readSpud_21 : decode cX11_readSpud 21 = .ok (.aload_n 0, 1) := by decide +kernel
theorem dX11_readSpud_22 : decode cX11_readSpud 22 = .ok (.iconst 1, 1) := by decide +kernel
theorem dX11_readSpud_23 : decode cX11_readSpud 23 = .ok (.bipush 9, 2) := by decide +kernel
theorem dX11_readSpud_25 : decode cX11_readSpud 25 = .ok (.invokevirtual 141, 3) := by decide +kernel
theorem dX11_readSpud_28 : decode cX11_readSpud 28 = .ok (.iastore, 1) := by decide +kernel
theorem dX11_readSpud_29 : decode cX11_readSpud 29 = .ok (.aload_n 0, 1) := by decide +kernel
theorem dX11_readSpud_30 : decode cX11_readSpud 30 = .ok (.getfield 20, 3) := by decide +kernel
theorem dX11_readSpud_33 : decode cX11_readSpud 33 = .ok (.iload_n 2, 1) := by decide +kernel
theorem dX11_readSpud_34 : decode cX11_readSpud 34 = .ok (.iconst 1, 1) := by decide +kernel
theorem dX11_readSpud_35 : decode cX11_readSpud 35 = .ok (.iadd, 1) := by decide +kernel
theorem dX11_readSpud_36 : decode cX11_readSpud 36 = .ok (.aload_n 0, 1) := by decide +kernel
theorem dX11_readSpud_37 : decode cX11_readSpud 37 = .ok (.invokevirtual 147, 3) := by decide +kernel
theorem dX11_readSpud_40 : decode cX11_readSpud 40 = .ok (.iastore, 1) := by decide +kernel
theorem dX11_readSpud_41 : decode cX11_readSpud 41 = .ok (.iload_n 1, 1) := by decide +kernel
theorem dX11_readSpud_42 : decode cX11_readSpud 42 = .ok (.ifCond .ne 113, 3) := by decide +kernel
theorem dX11_readSpud_45 : decode cX11_readSpud 45 = .ok (.aload_n 0, 1) := by decide +kernel
theorem dX11_readSpud_46 : decode cX11_readSpud 46 = .ok (.iconst 0, 1) := by decide +kernel
theorem dX11_readSpud_47 : decode cX11_readSpud 47 = .ok (.bipush 23, 2) := by decide +kernel
theorem dX11_readSpud_49 : decode cX11_readSpud 49 = .ok (.invokevirtual 127, 3) := by decide +kernel
theorem dX11_readSpud_52 : decode cX11_readSpud 52 = .ok (.istore_n 3, 1) := by decide +kernel
theorem dX11_readSpud_53 : decode cX11_readSpud 53 = .ok (.aload_n 0, 1) := by decide +kernel
theorem dX11_readSpud_54 : decode cX11_readSpud 54 = .ok (.getfield 85, 3) := by decide +kernel
theorem dX11_readSpud_57 : decode cX11_readSpud 57 = .ok (.ifCond .ne 94, 3) := by decide +kernel
theorem dX11_readSpud_60 : decode cX11_readSpud 60 = .ok (.iconst 1, 1) := by decide +kernel
theorem dX11_readSpud_61 : decode cX11_readSpud 61 = .ok (.istore 4, 2) := by decide +kernel
theorem dX11_readSpud_63 : decode cX11_readSpud 63 = .ok (.iconst 0, 1) := by decide +kernel
theorem dX11_readSpud_64 : decode cX11_readSpud 64 = .ok (.istore 5, 2) := by decide +kernel
theorem dX11_readSpud_66 : decode cX11_readSpud 66 = .ok (.iload 5, 2) := by decide +kernel
theorem dX11_readSpud_68 : decode cX11_readSpud 68 = .ok (.aload_n 0, 1) := by decide +kernel
theorem dX11_readSpud_69 : decode cX11_readSpud 69 = .ok (.getfield 20, 3) := by decide +kernel
theorem dX11_readSpud_72 : decode cX11_readSpud 72 = .ok (.bipush 46, 2) := by decide +kernel
theorem dX11_readSpud_74 : decode cX11_readSpud 74 = .ok (.iaload, 1) := by decide +kernel
theorem dX11_readSpud_75 : decode cX11_readSpud 75 = .ok (.if_icmp .ge 40, 3) := by decide +kernel
theorem dX11_readSpud_78 : decode cX11_readSpud 78 = .ok (.iload 4, 2) := by decide +kernel
theorem dX11_readSpud_80 : decode cX11_readSpud 80 = .ok (.ifCond .eq 26, 3) := by decide +kernel
theorem dX11_readSpud_83 : decode cX11_readSpud 83 = .ok (.aload_n 0, 1) := by decide +kernel
theorem dX11_readSpud_84 : decode cX11_readSpud 84 = .ok (.getfield 20, 3) := by decide +kernel
theorem dX11_readSpud_87 : decode cX11_readSpud 87 = .ok (.bipush 47, 2) := by decide +kernel
theorem dX11_readSpud_89 : decode cX11_readSpud 89 = .ok (.bipush 8, 2) := by decide +kernel
theorem dX11_readSpud_91 : decode cX11_readSpud 91 = .ok (.iload 5, 2) := by decide +kernel
theorem dX11_readSpud_93 : decode cX11_readSpud 93 = .ok (.imul, 1) := by decide +kernel
theorem dX11_readSpud_94 : decode cX11_readSpud 94 = .ok (.iadd, 1) := by decide +kernel
theorem dX11_readSpud_95 : decode cX11_readSpud 95 = .ok (.iconst 2, 1) := by decide +kernel
theorem dX11_readSpud_96 : decode cX11_readSpud 96 = .ok (.iadd, 1) := by decide +kernel
theorem dX11_readSpud_97 : decode cX11_readSpud 97 = .ok (.iaload, 1) := by decide +kernel
theorem dX11_readSpud_98 : decode cX11_readSpud 98 = .ok (.iload_n 3, 1) := by decide +kernel
theorem dX11_readSpud_99 : decode cX11_readSpud 99 = .ok (.if_icmp .eq 7, 3) := by decide +kernel
theorem dX11_readSpud_102 : decode cX11_readSpud 102 = .ok (.iconst 1, 1) := by decide +kernel
theorem dX11_readSpud_103 : decode cX11_readSpud 103 = .ok (.goto 4, 3) := by decide +kernel
theorem dX11_readSpud_106 : decode cX11_readSpud 106 = .ok (.iconst 0, 1) := by decide +kernel
theorem dX11_readSpud_107 : decode cX11_readSpud 107 = .ok (.istore 4, 2) := by decide +kernel
theorem dX11_readSpud_109 : decode cX11_readSpud 109 = .ok (.iinc 5 1, 3) := by decide +kernel
theorem dX11_readSpud_112 : decode cX11_readSpud 112 = .ok (.goto (-46), 3) := by decide +kernel
theorem dX11_readSpud_115 : decode cX11_readSpud 115 = .ok (.aload_n 0, 1) := by decide +kernel
theorem dX11_readSpud_116 : decode cX11_readSpud 116 = .ok (.iload 4, 2) := by decide +kernel
theorem dX11_readSpud_118 : decode cX11_readSpud 118 = .ok (.iconst 4, 1) := by decide +kernel
theorem dX11_readSpud_119 : decode cX11_readSpud 119 = .ok (.invokevirtual 123, 3) := by decide +kernel
theorem dX11_readSpud_122 : decode cX11_readSpud 122 = .ok (.aload_n 0, 1) := by decide +kernel
theorem dX11_readSpud_123 : decode cX11_readSpud 123 = .ok (.iload_n 3, 1) := by decide +kernel
theorem dX11_readSpud_124 : decode cX11_readSpud 124 = .ok (.aload_n 0, 1) := by decide +kernel
theorem dX11_readSpud_125 : decode cX11_readSpud 125 = .ok (.getfield 67, 3) := by decide +kernel
theorem dX11_readSpud_128 : decode cX11_readSpud 128 = .ok (.if_icmp .le 7, 3) := by decide +kernel
theorem dX11_readSpud_131 : decode cX11_readSpud 131 = .ok (.iload_n 3, 1) := by decide +kernel
theorem dX11_readSpud_132 : decode cX11_readSpud 132 = .ok (.goto 7, 3) := by decide +kernel
theorem dX11_readSpud_135 : decode cX11_readSpud 135 = .ok (.aload_n 0, 1) := by decide +kernel
theorem dX11_readSpud_136 : decode cX11_readSpud 136 = .ok (.getfield 67, 3) := by decide +kernel
theorem dX11_readSpud_139 : decode cX11_readSpud 139 = .ok (.putfield 67, 3) := by decide +kernel
theorem dX11_readSpud_142 : decode cX11_readSpud 142 = .ok (.aload_n 0, 1) := by decide +kernel
theorem dX11_readSpud_143 : decode cX11_readSpud 143 = .ok (.getfield 20, 3) := by decide +kernel
theorem dX11_readSpud_146 : decode cX11_readSpud 146 = .ok (.iload_n 2, 1) := by decide +kernel
theorem dX11_readSpud_147 : decode cX11_readSpud 147 = .ok (.iconst 2, 1) := by decide +kernel
theorem dX11_readSpud_148 : decode cX11_readSpud 148 = .ok (.iadd, 1) := by decide +kernel
theorem dX11_readSpud_149 : decode cX11_readSpud 149 = .ok (.iload_n 3, 1) := by decide +kernel
theorem dX11_readSpud_150 : decode cX11_readSpud 150 = .ok (.iastore, 1) := by decide +kernel
theorem dX11_readSpud_151 : decode cX11_readSpud 151 = .ok (.aload_n 0, 1) := by decide +kernel
theorem dX11_readSpud_152 : decode cX11_readSpud 152 = .ok (.invokevirtual 131, 3) := by decide +kernel
theorem dX11_readSpud_155 : decode cX11_readSpud 155 = .ok (.aload_n 0, 1) := by decide +kernel
theorem dX11_readSpud_156 : decode cX11_readSpud 156 = .ok (.getfield 20, 3) := by decide +kernel
theorem dX11_readSpud_159 : decode cX11_readSpud 159 = .ok (.bipush 46, 2) := by decide +kernel
theorem dX11_readSpud_161 : decode cX11_readSpud 161 = .ok (.dup2, 1) := by decide +kernel
theorem dX11_readSpud_162 : decode cX11_readSpud 162 = .ok (.iaload, 1) := by decide +kernel
theorem dX11_readSpud_163 : decode cX11_readSpud 163 = .ok (.iconst 1, 1) := by decide +kernel
theorem dX11_readSpud_164 : decode cX11_readSpud 164 = .ok (.iadd, 1) := by decide +kernel
theorem dX11_readSpud_165 : decode cX11_readSpud 165 = .ok (.iastore, 1) := by decide +kernel
theorem dX11_readSpud_166 : decode cX11_readSpud 166 = .ok (.return_, 1) := by decide +kernel
theorem dX11_readMemo_0 : decode cX11_readMemo 0 = .ok (.aload_n 0, 1) := by decide +kernel
theorem dX11_readMemo_1 : decode cX11_readMemo 1 = .ok (.iconst 0, 1) := by decide +kernel
theorem dX11_readMemo_2 : decode cX11_readMemo 2 = .ok (.iconst 5, 1) := by decide +kernel
theorem dX11_readMemo_3 : decode cX11_readMemo 3 = .ok (.invokevirtual 127, 3) := by decide +kernel
theorem dX11_readMemo_6 : decode cX11_readMemo 6 = .ok (.istore_n 1, 1) := by decide +kernel
theorem dX11_readMemo_7 : decode cX11_readMemo 7 = .ok (.aload_n 0, 1) := by decide +kernel
theorem dX11_readMemo_8 : decode cX11_readMemo 8 = .ok (.getfield 85, 3) := by decide +kernel
theorem dX11_readMemo_11 : decode cX11_readMemo 11 = .ok (.ifCond .ne 56, 3) := by decide +kernel
theorem dX11_readMemo_14 : decode cX11_readMemo 14 = .ok (.aload_n 0, 1) := by decide +kernel
theorem dX11_readMemo_15 : decode cX11_readMemo 15 = .ok (.aload_n 0, 1) := by decide +kernel
theorem dX11_readMemo_16 : decode cX11_readMemo 16 = .ok (.getfield 61, 3) := by decide +kernel
theorem dX11_readMemo_19 : decode cX11_readMemo 19 = .ok (.iload_n 1, 1) := by decide +kernel
theorem dX11_readMemo_20 : decode cX11_readMemo 20 = .ok (.ishr, 1) := by decide +kernel
theorem dX11_readMemo_21 : decode cX11_readMemo 21 = .ok (.iconst 1, 1) := by decide +kernel
theorem dX11_readMemo_22 : decode cX11_readMemo 22 = .ok (.iand, 1) := by decide +kernel
theorem dX11_readMemo_23 : decode cX11_readMemo 23 = .ok (.ifCond .ne 7, 3) := by decide +kernel
theorem dX11_readMemo_26 : decode cX11_readMemo 26 = .ok (.iconst 1, 1) := by decide +kernel
theorem dX11_readMemo_27 : decode cX11_readMemo 27 = .ok (.goto 4, 3) := by decide +kernel
theorem dX11_readMemo_30 : decode cX11_readMemo 30 = .ok (.iconst 0, 1) := by decide +kernel
theorem dX11_readMemo_31 : decode cX11_readMemo 31 = .ok (.iconst 4, 1) := by decide +kernel
theorem dX11_readMemo_32 : decode cX11_readMemo 32 = .ok (.invokevirtual 123, 3) := by decide +kernel
theorem dX11_readMemo_35 : decode cX11_readMemo 35 = .ok (.aload_n 0, 1) := by decide +kernel
theorem dX11_readMemo_36 : decode cX11_readMemo 36 = .ok (.dup, 1) := by decide +kernel
theorem dX11_readMemo_37 : decode cX11_readMemo 37 = .ok (.getfield 61, 3) := by decide +kernel
theorem dX11_readMemo_40 : decode cX11_readMemo 40 = .ok (.iconst 1, 1) := by decide +kernel
theorem dX11_readMemo_41 : decode cX11_readMemo 41 = .ok (.iload_n 1, 1) := by decide +kernel
theorem dX11_readMemo_42 : decode cX11_readMemo 42 = .ok (.ishl, 1) := by decide +kernel
theorem dX11_readMemo_43 : decode cX11_readMemo 43 = .ok (.ior, 1) := by decide +kernel
theorem dX11_readMemo_44 : decode cX11_readMemo 44 = .ok (.putfield 61, 3) := by decide +kernel
theorem dX11_readMemo_47 : decode cX11_readMemo 47 = .ok (.aload_n 0, 1) := by decide +kernel
theorem dX11_readMemo_48 : decode cX11_readMemo 48 = .ok (.iload_n 1, 1) := by decide +kernel
theorem dX11_readMemo_49 : decode cX11_readMemo 49 = .ok (.aload_n 0, 1) := by decide +kernel
theorem dX11_readMemo_50 : decode cX11_readMemo 50 = .ok (.getfield 70, 3) := by decide +kernel
theorem dX11_readMemo_53 : decode cX11_readMemo 53 = .ok (.if_icmp .le 7, 3) := by decide +kernel
theorem dX11_readMemo_56 : decode cX11_readMemo 56 = .ok (.iload_n 1, 1) := by decide +kernel
theorem dX11_readMemo_57 : decode cX11_readMemo 57 = .ok (.goto 7, 3) := by decide +kernel
theorem dX11_readMemo_60 : decode cX11_readMemo 60 = .ok (.aload_n 0, 1) := by decide +kernel
theorem dX11_readMemo_61 : decode cX11_readMemo 61 = .ok (.getfield 70, 3) := by decide +kernel
theorem dX11_readMemo_64 : decode cX11_readMemo 64 = .ok (.putfield 70, 3) := by decide +kernel
theorem dX11_readMemo_67 : decode cX11_readMemo 67 = .ok (.aload_n 0, 1) := by decide +kernel
theorem dX11_readMemo_68 : decode cX11_readMemo 68 = .ok (.invokevirtual 131, 3) := by decide +kernel
theorem dX11_readMemo_71 : decode cX11_readMemo 71 = .ok (.aload_n 0, 1) := by decide +kernel
theorem dX11_readMemo_72 : decode cX11_readMemo 72 = .ok (.invokevirtual 144, 3) := by decide +kernel
theorem dX11_readMemo_75 : decode cX11_readMemo 75 = .ok (.istore_n 2, 1) := by decide +kernel
theorem dX11_readMemo_76 : decode cX11_readMemo 76 = .ok (.aload_n 0, 1) := by decide +kernel
theorem dX11_readMemo_77 : decode cX11_readMemo 77 = .ok (.getfield 20, 3) := by decide +kernel
theorem dX11_readMemo_80 : decode cX11_readMemo 80 = .ok (.bipush 47, 2) := by decide +kernel
theorem dX11_readMemo_82 : decode cX11_readMemo 82 = .ok (.bipush 8, 2) := by decide +kernel
theorem dX11_readMemo_84 : decode cX11_readMemo 84 = .ok (.iload_n 1, 1) := by decide +kernel
theorem dX11_readMemo_85 : decode cX11_readMemo 85 = .ok (.imul, 1) := by decide +kernel
theorem dX11_readMemo_86 : decode cX11_readMemo 86 = .ok (.iadd, 1) := by decide +kernel
theorem dX11_readMemo_87 : decode cX11_readMemo 87 = .ok (.bipush 7, 2) := by decide +kernel
theorem dX11_readMemo_89 : decode cX11_readMemo 89 = .ok (.iadd, 1) := by decide +kernel
theorem dX11_readMemo_90 : decode cX11_readMemo 90 = .ok (.iload_n 2, 1) := by decide +kernel
theorem dX11_readMemo_91 : decode cX11_readMemo 91 = .ok (.iastore, 1) := by decide +kernel
theorem dX11_readMemo_92 : decode cX11_readMemo 92 = .ok (.return_, 1) := by decide +kernel
theorem dX11_readLineOf_0 : decode cX11_readLineOf 0 = .ok (.iload_n 1, 1) := by decide +kernel
theorem dX11_readLineOf_1 : decode cX11_readLineOf 1 = .ok (.tableswitch 102 0 5 #[39, 81, 88, 102, 102, 95], 39) := by decide +kernel
theorem dX11_readLineOf_40 : decode cX11_readLineOf 40 = .ok (.aload_n 0, 1) := by decide +kernel
theorem dX11_readLineOf_41 : decode cX11_readLineOf 41 = .ok (.aload_n 0, 1) := by decide +kernel
theorem dX11_readLineOf_42 : decode cX11_readLineOf 42 = .ok (.iconst 3, 1) := by decide +kernel
theorem dX11_readLineOf_43 : decode cX11_readLineOf 43 = .ok (.bipush 8, 2) := by decide +kernel
theorem dX11_readLineOf_45 : decode cX11_readLineOf 45 = .ok (.invokevirtual 141, 3) := by decide +kernel
theorem dX11_readLineOf_48 : decode cX11_readLineOf 48 = .ok (.putfield 50, 3) := by decide +kernel
theorem dX11_readLineOf_51 : decode cX11_readLineOf 51 = .ok (.aload_n 0, 1) := by decide +kernel
theorem dX11_readLineOf_52 : decode cX11_readLineOf 52 = .ok (.getfield 20, 3) := by decide +kernel
theorem dX11_readLineOf_55 : decode cX11_readLineOf 55 = .ok (.bipush 24, 2) := by decide +kernel
theorem dX11_readLineOf_57 : decode cX11_readLineOf 57 = .ok (.aload_n 0, 1) := by decide +kernel
theorem dX11_readLineOf_58 : decode cX11_readLineOf 58 = .ok (.iconst 0, 1) := by decide +kernel
theorem dX11_readLineOf_59 : decode cX11_readLineOf 59 = .ok (.bipush 9, 2) := by decide +kernel
theorem dX11_readLineOf_61 : decode cX11_readLineOf 61 = .ok (.invokevirtual 141, 3) := by decide +kernel
theorem dX11_readLineOf_64 : decode cX11_readLineOf 64 = .ok (.iastore, 1) := by decide +kernel
theorem dX11_readLineOf_65 : decode cX11_readLineOf 65 = .ok (.aload_n 0, 1) := by decide +kernel
theorem dX11_readLineOf_66 : decode cX11_readLineOf 66 = .ok (.getfield 20, 3) := by decide +kernel
theorem dX11_readLineOf_69 : decode cX11_readLineOf 69 = .ok (.bipush 25, 2) := by decide +kernel
theorem dX11_readLineOf_71 : decode cX11_readLineOf 71 = .ok (.aload_n 0, 1) := by decide +kernel
theorem dX11_readLineOf_72 : decode cX11_readLineOf 72 = .ok (.iconst 0, 1) := by decide +kernel
theorem dX11_readLineOf_73 : decode cX11_readLineOf 73 = .ok (.bipush 9, 2) := by decide +kernel
theorem dX11_readLineOf_75 : decode cX11_readLineOf 75 = .ok (.invokevirtual 141, 3) := by decide +kernel
theorem dX11_readLineOf_78 : decode cX11_readLineOf 78 = .ok (.iastore, 1) := by decide +kernel
theorem dX11_readLineOf_79 : decode cX11_readLineOf 79 = .ok (.goto 38, 3) := by decide +kernel
theorem dX11_readLineOf_82 : decode cX11_readLineOf 82 = .ok (.aload_n 0, 1) := by decide +kernel
theorem dX11_readLineOf_83 : decode cX11_readLineOf 83 = .ok (.invokevirtual 150, 3) := by decide +kernel
theorem dX11_readLineOf_86 : decode cX11_readLineOf 86 = .ok (.goto 31, 3) := by decide +kernel
theorem dX11_readLineOf_89 : decode cX11_readLineOf 89 = .ok (.aload_n 0, 1) := by decide +kernel
theorem dX11_readLineOf_90 : decode cX11_readLineOf 90 = .ok (.invokevirtual 153, 3) := by decide +kernel
theorem dX11_readLineOf_93 : decode cX11_readLineOf 93 = .ok (.goto 24, 3) := by decide +kernel
theorem dX11_readLineOf_96 : decode cX11_readLineOf 96 = .ok (.aload_n 0, 1) := by decide +kernel
theorem dX11_readLineOf_97 : decode cX11_readLineOf 97 = .ok (.invokevirtual 156, 3) := by decide +kernel
theorem dX11_readLineOf_100 : decode cX11_readLineOf 100 = .ok (.goto 17, 3) := by decide +kernel
theorem dX11_readLineOf_103 : decode cX11_readLineOf 103 = .ok (.aload_n 0, 1) := by decide +kernel
theorem dX11_readLineOf_104 : decode cX11_readLineOf 104 = .ok (.iload_n 1, 1) := by decide +kernel
theorem dX11_readLineOf_105 : decode cX11_readLineOf 105 = .ok (.iconst 4, 1) := by decide +kernel
theorem dX11_readLineOf_106 : decode cX11_readLineOf 106 = .ok (.if_icmp .ne 7, 3) := by decide +kernel
theorem dX11_readLineOf_109 : decode cX11_readLineOf 109 = .ok (.iconst 1, 1) := by decide +kernel
theorem dX11_readLineOf_110 : decode cX11_readLineOf 110 = .ok (.goto 4, 3) := by decide +kernel
theorem dX11_readLineOf_113 : decode cX11_readLineOf 113 = .ok (.iconst 0, 1) := by decide +kernel
theorem dX11_readLineOf_114 : decode cX11_readLineOf 114 = .ok (.invokevirtual 159, 3) := by decide +kernel
theorem dX11_readLineOf_117 : decode cX11_readLineOf 117 = .ok (.return_, 1) := by decide +kernel
theorem dX11_readLine_0 : decode cX11_readLine 0 = .ok (.aload_n 0, 1) := by decide +kernel
theorem dX11_readLine_1 : decode cX11_readLine 1 = .ok (.getfield 109, 3) := by decide +kernel
theorem dX11_readLine_4 : decode cX11_readLine 4 = .ok (.iconst 1, 1) := by decide +kernel
theorem dX11_readLine_5 : decode cX11_readLine 5 = .ok (.if_icmp .ne 10, 3) := by decide +kernel
theorem dX11_readLine_8 : decode cX11_readLine 8 = .ok (.aload_n 0, 1) := by decide +kernel
theorem dX11_readLine_9 : decode cX11_readLine 9 = .ok (.invokevirtual 163, 3) := by decide +kernel
theorem dX11_readLine_12 : decode cX11_readLine 12 = .ok (.goto 5, 3) := by decide +kernel
theorem dX11_readLine_15 : decode cX11_readLine 15 = .ok (.bipush (-4), 2) := by decide +kernel
theorem dX11_readLine_17 : decode cX11_readLine 17 = .ok (.istore_n 1, 1) := by decide +kernel
theorem dX11_readLine_18 : decode cX11_readLine 18 = .ok (.iload_n 1, 1) := by decide +kernel
theorem dX11_readLine_19 : decode cX11_readLine 19 = .ok (.iconst 2, 1) := by decide +kernel
theorem dX11_readLine_20 : decode cX11_readLine 20 = .ok (.if_icmp .ne 15, 3) := by decide +kernel
theorem dX11_readLine_23 : decode cX11_readLine 23 = .ok (.aload_n 0, 1) := by decide +kernel
theorem dX11_readLine_24 : decode cX11_readLine 24 = .ok (.getfield 20, 3) := by decide +kernel
theorem dX11_readLine_27 : decode cX11_readLine 27 = .ok (.bipush 26, 2) := by decide +kernel
theorem dX11_readLine_29 : decode cX11_readLine 29 = .ok (.iaload, 1) := by decide +kernel
theorem dX11_readLine_30 : decode cX11_readLine 30 = .ok (.bipush 6, 2) := by decide +kernel
theorem dX11_readLine_32 : decode cX11_readLine 32 = .ok (.if_icmp .eq 25, 3) := by decide +kernel
theorem dX11_readLine_35 : decode cX11_readLine 35 = .ok (.iload_n 1, 1) := by decide +kernel
theorem dX11_readLine_36 : decode cX11_readLine 36 = .ok (.iconst 3, 1) := by decide +kernel
theorem dX11_readLine_37 : decode cX11_readLine 37 = .ok (.if_icmp .eq 8, 3) := by decide +kernel
theorem dX11_readLine_40 : decode cX11_readLine 40 = .ok (.iload_n 1, 1) := by decide +kernel
theorem dX11_readLine_41 : decode cX11_readLine 41 = .ok (.iconst 4, 1) := by decide +kernel
theorem dX11_readLine_42 : decode cX11_readLine 42 = .ok (.if_icmp .ne 19, 3) := by decide +kernel
theorem dX11_readLine_45 : decode cX11_readLine 45 = .ok (.aload_n 0, 1) := by decide +kernel
theorem dX11_readLine_46 : decode cX11_readLine 46 = .ok (.getfield 20, 3) := by decide +kernel
theorem dX11_readLine_49 : decode cX11_readLine 49 = .ok (.bipush 46, 2) := by decide +kernel
theorem dX11_readLine_51 : decode cX11_readLine 51 = .ok (.iaload, 1) := by decide +kernel
theorem dX11_readLine_52 : decode cX11_readLine 52 = .ok (.bipush 6, 2) := by decide +kernel
theorem dX11_readLine_54 : decode cX11_readLine 54 = .ok (.if_icmp .ne 7, 3) := by decide +kernel
theorem dX11_readLine_57 : decode cX11_readLine 57 = .ok (.iconst 1, 1) := by decide +kernel
theorem dX11_readLine_58 : decode cX11_readLine 58 = .ok (.goto 4, 3) := by decide +kernel
theorem dX11_readLine_61 : decode cX11_readLine 61 = .ok (.iconst 0, 1) := by decide +kernel
theorem dX11_readLine_62 : decode cX11_readLine 62 = .ok (.istore_n 2, 1) := by decide +kernel
theorem dX11_readLine_63 : decode cX11_readLine 63 = .ok (.aload_n 0, 1) := by decide +kernel
theorem dX11_readLine_64 : decode cX11_readLine 64 = .ok (.iload_n 1, 1) := by decide +kernel
theorem dX11_readLine_65 : decode cX11_readLine 65 = .ok (.bipush (-4), 2) := by decide +kernel
theorem dX11_readLine_67 : decode cX11_readLine 67 = .ok (.if_icmp .eq 7, 3) := by decide +kernel
theorem dX11_readLine_70 : decode cX11_readLine 70 = .ok (.iconst 1, 1) := by decide +kernel
theorem dX11_readLine_71 : decode cX11_readLine 71 = .ok (.goto 4, 3) := by decide +kernel
theorem dX11_readLine_74 : decode cX11_readLine 74 = .ok (.iconst 0, 1) := by decide +kernel
theorem dX11_readLine_75 : decode cX11_readLine 75 = .ok (.iconst 2, 1) := by decide +kernel
theorem dX11_readLine_76 : decode cX11_readLine 76 = .ok (.invokevirtual 123, 3) := by decide +kernel
theorem dX11_readLine_79 : decode cX11_readLine 79 = .ok (.aload_n 0, 1) := by decide +kernel
theorem dX11_readLine_80 : decode cX11_readLine 80 = .ok (.iload_n 2, 1) := by decide +kernel
theorem dX11_readLine_81 : decode cX11_readLine 81 = .ok (.ifCond .ne 7, 3) := by decide +kernel
theorem dX11_readLine_84 : decode cX11_readLine 84 = .ok (.iconst 1, 1) := by decide +kernel
theorem dX11_readLine_85 : decode cX11_readLine 85 = .ok (.goto 4, 3) := by decide +kernel
theorem dX11_readLine_88 : decode cX11_readLine 88 = .ok (.iconst 0, 1) := by decide +kernel
theorem dX11_readLine_89 : decode cX11_readLine 89 = .ok (.iconst 5, 1) := by decide +kernel
theorem dX11_readLine_90 : decode cX11_readLine 90 = .ok (.invokevirtual 123, 3) := by decide +kernel
theorem dX11_readLine_93 : decode cX11_readLine 93 = .ok (.aload_n 0, 1) := by decide +kernel
theorem dX11_readLine_94 : decode cX11_readLine 94 = .ok (.iload_n 1, 1) := by decide +kernel
theorem dX11_readLine_95 : decode cX11_readLine 95 = .ok (.ifCond .ne 10, 3) := by decide +kernel
theorem dX11_readLine_98 : decode cX11_readLine 98 = .ok (.aload_n 0, 1) := by decide +kernel
theorem dX11_readLine_99 : decode cX11_readLine 99 = .ok (.getfield 54, 3) := by decide +kernel
theorem dX11_readLine_102 : decode cX11_readLine 102 = .ok (.ifCond .ne 7, 3) := by decide +kernel
theorem dX11_readLine_105 : decode cX11_readLine 105 = .ok (.iconst 1, 1) := by decide +kernel
theorem dX11_readLine_106 : decode cX11_readLine 106 = .ok (.goto 4, 3) := by decide +kernel
theorem dX11_readLine_109 : decode cX11_readLine 109 = .ok (.iconst 0, 1) := by decide +kernel
theorem dX11_readLine_110 : decode cX11_readLine 110 = .ok (.iconst 4, 1) := by decide +kernel
theorem dX11_readLine_111 : decode cX11_readLine 111 = .ok (.invokevirtual 123, 3) := by decide +kernel
theorem dX11_readLine_114 : decode cX11_readLine 114 = .ok (.aload_n 0, 1) := by decide +kernel
theorem dX11_readLine_115 : decode cX11_readLine 115 = .ok (.aload_n 0, 1) := by decide +kernel
theorem dX11_readLine_116 : decode cX11_readLine 116 = .ok (.getfield 54, 3) := by decide +kernel
theorem dX11_readLine_119 : decode cX11_readLine 119 = .ok (.ifCond .ne 7, 3) := by decide +kernel
theorem dX11_readLine_122 : decode cX11_readLine 122 = .ok (.iload_n 1, 1) := by decide +kernel
theorem dX11_readLine_123 : decode cX11_readLine 123 = .ok (.ifCond .ne 7, 3) := by decide +kernel
theorem dX11_readLine_126 : decode cX11_readLine 126 = .ok (.iconst 1, 1) := by decide +kernel
theorem dX11_readLine_127 : decode cX11_readLine 127 = .ok (.goto 4, 3) := by decide +kernel
theorem dX11_readLine_130 : decode cX11_readLine 130 = .ok (.iconst 0, 1) := by decide +kernel
theorem dX11_readLine_131 : decode cX11_readLine 131 = .ok (.putfield 54, 3) := by decide +kernel
theorem dX11_readLine_134 : decode cX11_readLine 134 = .ok (.aload_n 0, 1) := by decide +kernel
theorem dX11_readLine_135 : decode cX11_readLine 135 = .ok (.invokevirtual 131, 3) := by decide +kernel
theorem dX11_readLine_138 : decode cX11_readLine 138 = .ok (.aload_n 0, 1) := by decide +kernel
theorem dX11_readLine_139 : decode cX11_readLine 139 = .ok (.getfield 85, 3) := by decide +kernel
theorem dX11_readLine_142 : decode cX11_readLine 142 = .ok (.ifCond .le 4, 3) := by decide +kernel
theorem dX11_readLine_145 : decode cX11_readLine 145 = .ok (.return_, 1) := by decide +kernel
theorem dX11_readLine_146 : decode cX11_readLine 146 = .ok (.aload_n 0, 1) := by decide +kernel
theorem dX11_readLine_147 : decode cX11_readLine 147 = .ok (.iload_n 1, 1) := by decide +kernel
theorem dX11_readLine_148 : decode cX11_readLine 148 = .ok (.invokevirtual 166, 3) := by decide +kernel
theorem dX11_readLine_151 : decode cX11_readLine 151 = .ok (.aload_n 0, 1) := by decide +kernel
theorem dX11_readLine_152 : decode cX11_readLine 152 = .ok (.getfield 85, 3) := by decide +kernel
theorem dX11_readLine_155 : decode cX11_readLine 155 = .ok (.ifCond .ne 21, 3) := by decide +kernel
theorem dX11_readLine_158 : decode cX11_readLine 158 = .ok (.aload_n 0, 1) := by decide +kernel
theorem dX11_readLine_159 : decode cX11_readLine 159 = .ok (.aload_n 0, 1) := by decide +kernel
theorem dX11_readLine_160 : decode cX11_readLine 160 = .ok (.getfield 109, 3) := by decide +kernel
theorem dX11_readLine_163 : decode cX11_readLine 163 = .ok (.iconst 3, 1) := by decide +kernel
theorem dX11_readLine_164 : decode cX11_readLine 164 = .ok (.if_icmp .ne 7, 3) := by decide +kernel
theorem dX11_readLine_167 : decode cX11_readLine 167 = .ok (.iconst 1, 1) := by decide +kernel
theorem dX11_readLine_168 : decode cX11_readLine 168 = .ok (.goto 4, 3) := by decide +kernel
theorem dX11_readLine_171 : decode cX11_readLine 171 = .ok (.iconst 0, 1) := by decide +kernel
theorem dX11_readLine_172 : decode cX11_readLine 172 = .ok (.iconst 2, 1) := by decide +kernel
theorem dX11_readLine_173 : decode cX11_readLine 173 = .ok (.invokevirtual 123, 3) := by decide +kernel
theorem dX11_readLine_176 : decode cX11_readLine 176 = .ok (.aload_n 0, 1) := by decide +kernel
theorem dX11_readLine_177 : decode cX11_readLine 177 = .ok (.invokevirtual 131, 3) := by decide +kernel
theorem dX11_readLine_180 : decode cX11_readLine 180 = .ok (.return_, 1) := by decide +kernel
theorem dX11_text_0 : decode cX11_text 0 = .ok (.iconst 0, 1) := by decide +kernel
theorem dX11_text_1 : decode cX11_text 1 = .ok (.istore_n 1, 1) := by decide +kernel
theorem dX11_text_2 : decode cX11_text 2 = .ok (.aload_n 0, 1) := by decide +kernel
theorem dX11_text_3 : decode cX11_text 3 = .ok (.iconst 0, 1) := by decide +kernel
theorem dX11_text_4 : decode cX11_text 4 = .ok (.putfield 85, 3) := by decide +kernel
theorem dX11_text_7 : decode cX11_text 7 = .ok (.aload_n 0, 1) := by decide +kernel
theorem dX11_text_8 : decode cX11_text 8 = .ok (.iconst 0, 1) := by decide +kernel
theorem dX11_text_9 : decode cX11_text 9 = .ok (.putfield 94, 3) := by decide +kernel
theorem dX11_text_12 : decode cX11_text 12 = .ok (.aload_n 0, 1) := by decide +kernel
theorem dX11_text_13 : decode cX11_text 13 = .ok (.invokevirtual 44, 3) := by decide +kernel
theorem dX11_text_16 : decode cX11_text 16 = .ok (.aload_n 0, 1) := by decide +kernel
theorem dX11_text_17 : decode cX11_text 17 = .ok (.invokevirtual 131, 3) := by decide +kernel
theorem dX11_text_20 : decode cX11_text 20 = .ok (.aload_n 0, 1) := by decide +kernel
theorem dX11_text_21 : decode cX11_text 21 = .ok (.getfield 85, 3) := by decide +kernel
theorem dX11_text_24 : decode cX11_text 24 = .ok (.ifCond .ne 20, 3) := by decide +kernel
theorem dX11_text_27 : decode cX11_text 27 = .ok (.aload_n 0, 1) := by decide +kernel
theorem dX11_text_28 : decode cX11_text 28 = .ok (.getfield 109, 3) := by decide +kernel
theorem dX11_text_31 : decode cX11_text 31 = .ok (.ifCond .eq 13, 3) := by decide +kernel
theorem dX11_text_34 : decode cX11_text 34 = .ok (.aload_n 0, 1) := by decide +kernel
theorem dX11_text_35 : decode cX11_text 35 = .ok (.invokevirtual 170, 3) := by decide +kernel
theorem dX11_text_38 : decode cX11_text 38 = .ok (.iinc 1 1, 3) := by decide +kernel
theorem dX11_text_41 : decode cX11_text 41 = .ok (.goto (-21), 3) := by decide +kernel
theorem dX11_text_44 : decode cX11_text 44 = .ok (.aload_n 0, 1) := by decide +kernel
theorem dX11_text_45 : decode cX11_text 45 = .ok (.getfield 85, 3) := by decide +kernel
theorem dX11_text_48 : decode cX11_text 48 = .ok (.ifCond .ne 52, 3) := by decide +kernel
theorem dX11_text_51 : decode cX11_text 51 = .ok (.aload_n 0, 1) := by decide +kernel
theorem dX11_text_52 : decode cX11_text 52 = .ok (.aload_n 0, 1) := by decide +kernel
theorem dX11_text_53 : decode cX11_text 53 = .ok (.getfield 64, 3) := by decide +kernel
theorem dX11_text_56 : decode cX11_text 56 = .ok (.aload_n 0, 1) := by decide +kernel
theorem dX11_text_57 : decode cX11_text 57 = .ok (.getfield 50, 3) := by decide +kernel
theorem dX11_text_60 : decode cX11_text 60 = .ok (.if_icmp .ge 34, 3) := by decide +kernel
theorem dX11_text_63 : decode cX11_text 63 = .ok (.aload_n 0, 1) := by decide +kernel
theorem dX11_text_64 : decode cX11_text 64 = .ok (.getfield 67, 3) := by decide +kernel
theorem dX11_text_67 : decode cX11_text 67 = .ok (.iconst 3, 1) := by decide +kernel
theorem dX11_text_68 : decode cX11_text 68 = .ok (.aload_n 0, 1) := by decide +kernel
theorem dX11_text_69 : decode cX11_text 69 = .ok (.getfield 50, 3) := by decide +kernel
theorem dX11_text_72 : decode cX11_text 72 = .ok (.imul, 1) := by decide +kernel
theorem dX11_text_73 : decode cX11_text 73 = .ok (.if_icmp .ge 21, 3) := by decide +kernel
theorem dX11_text_76 : decode cX11_text 76 = .ok (.aload_n 0, 1) := by decide +kernel
theorem dX11_text_77 : decode cX11_text 77 = .ok (.getfield 70, 3) := by decide +kernel
theorem dX11_text_80 : decode cX11_text 80 = .ok (.aload_n 0, 1) := by decide +kernel
theorem dX11_text_81 : decode cX11_text 81 = .ok (.getfield 20, 3) := by decide +kernel
theorem dX11_text_84 : decode cX11_text 84 = .ok (.bipush 46, 2) := by decide +kernel
theorem dX11_text_86 : decode cX11_text 86 = .ok (.iaload, 1) := by decide +kernel
theorem dX11_text_87 : decode cX11_text 87 = .ok (.if_icmp .ge 7, 3) := by decide +kernel
theorem dX11_text_90 : decode cX11_text 90 = .ok (.iconst 1, 1) := by decide +kernel
theorem dX11_text_91 : decode cX11_text 91 = .ok (.goto 4, 3) := by decide +kernel
theorem dX11_text_94 : decode cX11_text 94 = .ok (.iconst 0, 1) := by decide +kernel
theorem dX11_text_95 : decode cX11_text 95 = .ok (.bipush 6, 2) := by decide +kernel
theorem dX11_text_97 : decode cX11_text 97 = .ok (.invokevirtual 123, 3) := by decide +kernel
theorem dX11_text_100 : decode cX11_text 100 = .ok (.aload_n 0, 1) := by decide +kernel
theorem dX11_text_101 : decode cX11_text 101 = .ok (.iconst 0, 1) := by decide +kernel
theorem dX11_text_102 : decode cX11_text 102 = .ok (.putfield 82, 3) := by decide +kernel
theorem dX11_text_105 : decode cX11_text 105 = .ok (.aload_n 0, 1) := by decide +kernel
theorem dX11_text_106 : decode cX11_text 106 = .ok (.getfield 85, 3) := by decide +kernel
theorem dX11_text_109 : decode cX11_text 109 = .ok (.ifCond .le 11, 3) := by decide +kernel
theorem dX11_text_112 : decode cX11_text 112 = .ok (.bipush (-10), 2) := by decide +kernel
theorem dX11_text_114 : decode cX11_text 114 = .ok (.aload_n 0, 1) := by decide +kernel
theorem dX11_text_115 : decode cX11_text 115 = .ok (.getfield 91, 3) := by decide +kernel
theorem dX11_text_118 : decode cX11_text 118 = .ok (.isub, 1) := by decide +kernel
theorem dX11_text_119 : decode cX11_text 119 = .ok (.ireturn, 1) := by decide +kernel
theorem dX11_text_120 : decode cX11_text 120 = .ok (.aload_n 0, 1) := by decide +kernel
theorem dX11_text_121 : decode cX11_text 121 = .ok (.invokevirtual 47, 3) := by decide +kernel
theorem dX11_text_124 : decode cX11_text 124 = .ok (.iload_n 1, 1) := by decide +kernel
theorem dX11_text_125 : decode cX11_text 125 = .ok (.ireturn, 1) := by decide +kernel
theorem dX11_fault_0 : decode cX11_fault 0 = .ok (.aload_n 0, 1) := by decide +kernel
theorem dX11_fault_1 : decode cX11_fault 1 = .ok (.getfield 85, 3) := by decide +kernel
theorem dX11_fault_4 : decode cX11_fault 4 = .ok (.ireturn, 1) := by decide +kernel
theorem dX11_isCell_0 : decode cX11_isCell 0 = .ok (.iload_n 1, 1) := by decide +kernel
theorem dX11_isCell_1 : decode cX11_isCell 1 = .ok (.i2l, 1) := by decide +kernel
theorem dX11_isCell_2 : decode cX11_isCell 2 = .ok (.lconst 0, 1) := by decide +kernel
theorem dX11_isCell_3 : decode cX11_isCell 3 = .ok (.aload_n 0, 1) := by decide +kernel
theorem dX11_isCell_4 : decode cX11_isCell 4 = .ok (.getfield 73, 3) := by decide +kernel
theorem dX11_isCell_7 : decode cX11_isCell 7 = .ok (.iconst 1, 1) := by decide +kernel
theorem dX11_isCell_8 : decode cX11_isCell 8 = .ok (.isub, 1) := by decide +kernel
theorem dX11_isCell_9 : decode cX11_isCell 9 = .ok (.i2l, 1) := by decide +kernel
theorem dX11_isCell_10 : decode cX11_isCell 10 = .ok (.invokestatic 78, 3) := by decide +kernel
theorem dX11_isCell_13 : decode cX11_isCell 13 = .ok (.ireturn, 1) := by decide +kernel
theorem dX11_isPlace_0 : decode cX11_isPlace 0 = .ok (.iload_n 1, 1) := by decide +kernel
theorem dX11_isPlace_1 : decode cX11_isPlace 1 = .ok (.i2l, 1) := by decide +kernel
theorem dX11_isPlace_2 : decode cX11_isPlace 2 = .ok (.lconst 0, 1) := by decide +kernel
theorem dX11_isPlace_3 : decode cX11_isPlace 3 = .ok (.iconst 3, 1) := by decide +kernel
theorem dX11_isPlace_4 : decode cX11_isPlace 4 = .ok (.aload_n 0, 1) := by decide +kernel
theorem dX11_isPlace_5 : decode cX11_isPlace 5 = .ok (.getfield 73, 3) := by decide +kernel
theorem dX11_isPlace_8 : decode cX11_isPlace 8 = .ok (.imul, 1) := by decide +kernel
theorem dX11_isPlace_9 : decode cX11_isPlace 9 = .ok (.iconst 1, 1) := by decide +kernel
theorem dX11_isPlace_10 : decode cX11_isPlace 10 = .ok (.isub, 1) := by decide +kernel
theorem dX11_isPlace_11 : decode cX11_isPlace 11 = .ok (.i2l, 1) := by decide +kernel
theorem dX11_isPlace_12 : decode cX11_isPlace 12 = .ok (.invokestatic 78, 3) := by decide +kernel
theorem dX11_isPlace_15 : decode cX11_isPlace 15 = .ok (.ireturn, 1) := by decide +kernel
theorem dX11_isSpud_0 : decode cX11_isSpud 0 = .ok (.iload_n 1, 1) := by decide +kernel
theorem dX11_isSpud_1 : decode cX11_isSpud 1 = .ok (.i2l, 1) := by decide +kernel
theorem dX11_isSpud_2 : decode cX11_isSpud 2 = .ok (.lconst 0, 1) := by decide +kernel
theorem dX11_isSpud_3 : decode cX11_isSpud 3 = .ok (.aload_n 0, 1) := by decide +kernel
theorem dX11_isSpud_4 : decode cX11_isSpud 4 = .ok (.getfield 7, 3) := by decide +kernel
theorem dX11_isSpud_7 : decode cX11_isSpud 7 = .ok (.bipush 46, 2) := by decide +kernel
theorem dX11_isSpud_9 : decode cX11_isSpud 9 = .ok (.iaload, 1) := by decide +kernel
theorem dX11_isSpud_10 : decode cX11_isSpud 10 = .ok (.iconst 1, 1) := by decide +kernel
theorem dX11_isSpud_11 : decode cX11_isSpud 11 = .ok (.isub, 1) := by decide +kernel
theorem dX11_isSpud_12 : decode cX11_isSpud 12 = .ok (.i2l, 1) := by decide +kernel
theorem dX11_isSpud_13 : decode cX11_isSpud 13 = .ok (.invokestatic 78, 3) := by decide +kernel
theorem dX11_isSpud_16 : decode cX11_isSpud 16 = .ok (.ireturn, 1) := by decide +kernel
theorem dX11_starts_0 : decode cX11_starts 0 = .ok (.iconst 0, 1) := by decide +kernel
theorem dX11_starts_1 : decode cX11_starts 1 = .ok (.istore_n 1, 1) := by decide +kernel
theorem dX11_starts_2 : decode cX11_starts 2 = .ok (.iload_n 1, 1) := by decide +kernel
theorem dX11_starts_3 : decode cX11_starts 3 = .ok (.bipush 115, 2) := by decide +kernel
theorem dX11_starts_5 : decode cX11_starts 5 = .ok (.if_icmp .ge 21, 3) := by decide +kernel
theorem dX11_starts_8 : decode cX11_starts 8 = .ok (.aload_n 0, 1) := by decide +kernel
theorem dX11_starts_9 : decode cX11_starts 9 = .ok (.getfield 13, 3) := by decide +kernel
theorem dX11_starts_12 : decode cX11_starts 12 = .ok (.iload_n 1, 1) := by decide +kernel
theorem dX11_starts_13 : decode cX11_starts 13 = .ok (.aload_n 0, 1) := by decide +kernel
theorem dX11_starts_14 : decode cX11_starts 14 = .ok (.getfield 7, 3) := by decide +kernel
theorem dX11_starts_17 : decode cX11_starts 17 = .ok (.iload_n 1, 1) := by decide +kernel
theorem dX11_starts_18 : decode cX11_starts 18 = .ok (.iaload, 1) := by decide +kernel
theorem dX11_starts_19 : decode cX11_starts 19 = .ok (.iastore, 1) := by decide +kernel
theorem dX11_starts_20 : decode cX11_starts 20 = .ok (.iinc 1 1, 3) := by decide +kernel
theorem dX11_starts_23 : decode cX11_starts 23 = .ok (.goto (-21), 3) := by decide +kernel
theorem dX11_starts_26 : decode cX11_starts 26 = .ok (.return_, 1) := by decide +kernel
theorem dX11_of_0 : decode cX11_of 0 = .ok (.aload_n 0, 1) := by decide +kernel
theorem dX11_of_1 : decode cX11_of 1 = .ok (.getfield 13, 3) := by decide +kernel
theorem dX11_of_4 : decode cX11_of 4 = .ok (.bipush 47, 2) := by decide +kernel
theorem dX11_of_6 : decode cX11_of 6 = .ok (.bipush 8, 2) := by decide +kernel
theorem dX11_of_8 : decode cX11_of 8 = .ok (.iload_n 1, 1) := by decide +kernel
theorem dX11_of_9 : decode cX11_of 9 = .ok (.imul, 1) := by decide +kernel
theorem dX11_of_10 : decode cX11_of 10 = .ok (.iadd, 1) := by decide +kernel
theorem dX11_of_11 : decode cX11_of 11 = .ok (.iload_n 2, 1) := by decide +kernel
theorem dX11_of_12 : decode cX11_of 12 = .ok (.iadd, 1) := by decide +kernel
theorem dX11_of_13 : decode cX11_of 13 = .ok (.iaload, 1) := by decide +kernel
theorem dX11_of_14 : decode cX11_of 14 = .ok (.ireturn, 1) := by decide +kernel
theorem dX11_becomesOf_0 : decode cX11_becomesOf 0 = .ok (.aload_n 0, 1) := by decide +kernel
theorem dX11_becomesOf_1 : decode cX11_becomesOf 1 = .ok (.getfield 13, 3) := by decide +kernel
theorem dX11_becomesOf_4 : decode cX11_becomesOf 4 = .ok (.bipush 47, 2) := by decide +kernel
theorem dX11_becomesOf_6 : decode cX11_becomesOf 6 = .ok (.bipush 8, 2) := by decide +kernel
theorem dX11_becomesOf_8 : decode cX11_becomesOf 8 = .ok (.iload_n 1, 1) := by decide +kernel
theorem dX11_becomesOf_9 : decode cX11_becomesOf 9 = .ok (.imul, 1) := by decide +kernel
theorem dX11_becomesOf_10 : decode cX11_becomesOf 10 = .ok (.iadd, 1) := by decide +kernel
theorem dX11_becomesOf_11 : decode cX11_becomesOf 11 = .ok (.iload_n 2, 1) := by decide +kernel
theorem dX11_becomesOf_12 : decode cX11_becomesOf 12 = .ok (.iadd, 1) := by decide +kernel
theorem dX11_becomesOf_13 : decode cX11_becomesOf 13 = .ok (.iload_n 3, 1) := by decide +kernel
theorem dX11_becomesOf_14 : decode cX11_becomesOf 14 = .ok (.iastore, 1) := by decide +kernel
theorem dX11_becomesOf_15 : decode cX11_becomesOf 15 = .ok (.return_, 1) := by decide +kernel
theorem dX11_most_0 : decode cX11_most 0 = .ok (.iload_n 0, 1) := by decide +kernel
theorem dX11_most_1 : decode cX11_most 1 = .ok (.bipush 99, 2) := by decide +kernel
theorem dX11_most_3 : decode cX11_most 3 = .ok (.if_icmp .le 8, 3) := by decide +kernel
theorem dX11_most_6 : decode cX11_most 6 = .ok (.bipush 99, 2) := by decide +kernel
theorem dX11_most_8 : decode cX11_most 8 = .ok (.goto 4, 3) := by decide +kernel
theorem dX11_most_11 : decode cX11_most 11 = .ok (.iload_n 0, 1) := by decide +kernel
theorem dX11_most_12 : decode cX11_most 12 = .ok (.ireturn, 1) := by decide +kernel
theorem dX11_bakes_0 : decode cX11_bakes 0 = .ok (.aload_n 0, 1) := by decide +kernel
theorem dX11_bakes_1 : decode cX11_bakes 1 = .ok (.iload_n 1, 1) := by decide +kernel
theorem dX11_bakes_2 : decode cX11_bakes 2 = .ok (.iconst 2, 1) := by decide +kernel
theorem dX11_bakes_3 : decode cX11_bakes 3 = .ok (.invokevirtual 173, 3) := by decide +kernel
theorem dX11_bakes_6 : decode cX11_bakes 6 = .ok (.bipush (-4), 2) := by decide +kernel
theorem dX11_bakes_8 : decode cX11_bakes 8 = .ok (.if_icmp .ne 4, 3) := by decide +kernel
theorem dX11_bakes_11 : decode cX11_bakes 11 = .ok (.return_, 1) := by decide +kernel
theorem dX11_bakes_12 : decode cX11_bakes 12 = .ok (.aload_n 0, 1) := by decide +kernel
theorem dX11_bakes_13 : decode cX11_bakes 13 = .ok (.getfield 13, 3) := by decide +kernel
theorem dX11_bakes_16 : decode cX11_bakes 16 = .ok (.iconst 0, 1) := by decide +kernel
theorem dX11_bakes_17 : decode cX11_bakes 17 = .ok (.aload_n 0, 1) := by decide +kernel
theorem dX11_bakes_18 : decode cX11_bakes 18 = .ok (.iload_n 1, 1) := by decide +kernel
theorem dX11_bakes_19 : decode cX11_bakes 19 = .ok (.iconst 2, 1) := by decide +kernel
theorem dX11_bakes_20 : decode cX11_bakes 20 = .ok (.invokevirtual 173, 3) := by decide +kernel
theorem dX11_bakes_23 : decode cX11_bakes 23 = .ok (.iadd, 1) := by decide +kernel
theorem dX11_bakes_24 : decode cX11_bakes 24 = .ok (.iaload, 1) := by decide +kernel
theorem dX11_bakes_25 : decode cX11_bakes 25 = .ok (.istore_n 2, 1) := by decide +kernel
theorem dX11_bakes_26 : decode cX11_bakes 26 = .ok (.aload_n 0, 1) := by decide +kernel
theorem dX11_bakes_27 : decode cX11_bakes 27 = .ok (.iload_n 1, 1) := by decide +kernel
theorem dX11_bakes_28 : decode cX11_bakes 28 = .ok (.iconst 1, 1) := by decide +kernel
theorem dX11_bakes_29 : decode cX11_bakes 29 = .ok (.invokevirtual 173, 3) := by decide +kernel
theorem dX11_bakes_32 : decode cX11_bakes 32 = .ok (.istore_n 3, 1) := by decide +kernel
theorem dX11_bakes_33 : decode cX11_bakes 33 = .ok (.iload_n 3, 1) := by decide +kernel
theorem dX11_bakes_34 : decode cX11_bakes 34 = .ok (.ifCond .ne 7, 3) := by decide +kernel
theorem dX11_bakes_37 : decode cX11_bakes 37 = .ok (.iconst 5, 1) := by decide +kernel
theorem dX11_bakes_38 : decode cX11_bakes 38 = .ok (.goto 15, 3) := by decide +kernel
theorem dX11_bakes_41 : decode cX11_bakes 41 = .ok (.iload_n 3, 1) := by decide +kernel
theorem dX11_bakes_42 : decode cX11_bakes 42 = .ok (.iconst 1, 1) := by decide +kernel
theorem dX11_bakes_43 : decode cX11_bakes 43 = .ok (.if_icmp .ne 8, 3) := by decide +kernel
theorem dX11_bakes_46 : decode cX11_bakes 46 = .ok (.bipush 7, 2) := by decide +kernel
theorem dX11_bakes_48 : decode cX11_bakes 48 = .ok (.goto 5, 3) := by decide +kernel
theorem dX11_bakes_51 : decode cX11_bakes 51 = .ok (.bipush 6, 2) := by decide +kernel
theorem dX11_bakes_53 : decode cX11_bakes 53 = .ok (.istore 4, 2) := by decide +kernel
theorem dX11_bakes_55 : decode cX11_bakes 55 = .ok (.iload_n 3, 1) := by decide +kernel
theorem dX11_bakes_56 : decode cX11_bakes 56 = .ok (.ifCond .ne 8, 3) := by decide +kernel
theorem dX11_bakes_59 : decode cX11_bakes 59 = .ok (.bipush 8, 2) := by decide +kernel
theorem dX11_bakes_61 : decode cX11_bakes 61 = .ok (.goto 15, 3) := by decide +kernel
theorem dX11_bakes_64 : decode cX11_bakes 64 = .ok (.iload_n 3, 1) := by decide +kernel
theorem dX11_bakes_65 : decode cX11_bakes 65 = .ok (.iconst 1, 1) := by decide +kernel
theorem dX11_bakes_66 : decode cX11_bakes 66 = .ok (.if_icmp .ne 8, 3) := by decide +kernel
theorem dX11_bakes_69 : decode cX11_bakes 69 = .ok (.bipush 16, 2) := by decide +kernel
theorem dX11_bakes_71 : decode cX11_bakes 71 = .ok (.goto 5, 3) := by decide +kernel
theorem dX11_bakes_74 : decode cX11_bakes 74 = .ok (.bipush 12, 2) := by decide +kernel
theorem dX11_bakes_76 : decode cX11_bakes 76 = .ok (.istore 5, 2) := by decide +kernel
theorem dX11_bakes_78 : decode cX11_bakes 78 = .ok (.iconst 4, 1) := by decide +kernel
theorem dX11_bakes_79 : decode cX11_bakes 79 = .ok (.aload_n 0, 1) := by decide +kernel
theorem dX11_bakes_80 : decode cX11_bakes 80 = .ok (.iload_n 1, 1) := by decide +kernel
theorem dX11_bakes_81 : decode cX11_bakes 81 = .ok (.bipush 6, 2) := by decide +kernel
theorem dX11_bakes_83 : decode cX11_bakes 83 = .ok (.invokevirtual 173, 3) := by decide +kernel
theorem dX11_bakes_86 : decode cX11_bakes 86 = .ok (.iadd, 1) := by decide +kernel
theorem dX11_bakes_87 : decode cX11_bakes 87 = .ok (.istore 6, 2) := by decide +kernel
theorem dX11_bakes_89 : decode cX11_bakes 89 = .ok (.aload_n 0, 1) := by decide +kernel
theorem dX11_bakes_90 : decode cX11_bakes 90 = .ok (.iload_n 1, 1) := by decide +kernel
theorem dX11_bakes_91 : decode cX11_bakes 91 = .ok (.iconst 3, 1) := by decide +kernel
theorem dX11_bakes_92 : decode cX11_bakes 92 = .ok (.aload_n 0, 1) := by decide +kernel
theorem dX11_bakes_93 : decode cX11_bakes 93 = .ok (.iload_n 1, 1) := by decide +kernel
theorem dX11_bakes_94 : decode cX11_bakes 94 = .ok (.iconst 3, 1) := by decide +kernel
theorem dX11_bakes_95 : decode cX11_bakes 95 = .ok (.invokevirtual 173, 3) := by decide +kernel
theorem dX11_bakes_98 : decode cX11_bakes 98 = .ok (.iload_n 2, 1) := by decide +kernel
theorem dX11_bakes_99 : decode cX11_bakes 99 = .ok (.iload 4, 2) := by decide +kernel
theorem dX11_bakes_101 : decode cX11_bakes 101 = .ok (.idiv, 1) := by decide +kernel
theorem dX11_bakes_102 : decode cX11_bakes 102 = .ok (.iadd, 1) := by decide +kernel
theorem dX11_bakes_103 : decode cX11_bakes 103 = .ok (.invokestatic 176, 3) := by decide +kernel
theorem dX11_bakes_106 : decode cX11_bakes 106 = .ok (.invokevirtual 179, 3) := by decide +kernel
theorem dX11_bakes_109 : decode cX11_bakes 109 = .ok (.aload_n 0, 1) := by decide +kernel
theorem dX11_bakes_110 : decode cX11_bakes 110 = .ok (.iload_n 1, 1) := by decide +kernel
theorem dX11_bakes_111 : decode cX11_bakes 111 = .ok (.iload 6, 2) := by decide +kernel
theorem dX11_bakes_113 : decode cX11_bakes 113 = .ok (.aload_n 0, 1) := by decide +kernel
theorem dX11_bakes_114 : decode cX11_bakes 114 = .ok (.iload_n 1, 1) := by decide +kernel
theorem dX11_bakes_115 : decode cX11_bakes 115 = .ok (.iload 6, 2) := by decide +kernel
theorem dX11_bakes_117 : decode cX11_bakes 117 = .ok (.invokevirtual 173, 3) := by decide +kernel
theorem dX11_bakes_120 : decode cX11_bakes 120 = .ok (.iload_n 2, 1) := by decide +kernel
theorem dX11_bakes_121 : decode cX11_bakes 121 = .ok (.iload 5, 2) := by decide +kernel
theorem dX11_bakes_123 : decode cX11_bakes 123 = .ok (.idiv, 1) := by decide +kernel
theorem dX11_bakes_124 : decode cX11_bakes 124 = .ok (.iadd, 1) := by decide +kernel
theorem dX11_bakes_125 : decode cX11_bakes 125 = .ok (.invokestatic 176, 3) := by decide +kernel
theorem dX11_bakes_128 : decode cX11_bakes 128 = .ok (.invokevirtual 179, 3) := by decide +kernel
theorem dX11_bakes_131 : decode cX11_bakes 131 = .ok (.return_, 1) := by decide +kernel
theorem dX11_embers_0 : decode cX11_embers 0 = .ok (.iload_n 2, 1) := by decide +kernel
theorem dX11_embers_1 : decode cX11_embers 1 = .ok (.istore_n 3, 1) := by decide +kernel
theorem dX11_embers_2 : decode cX11_embers 2 = .ok (.iconst 0, 1) := by decide +kernel
theorem dX11_embers_3 : decode cX11_embers 3 = .ok (.istore 4, 2) := by decide +kernel
theorem dX11_embers_5 : decode cX11_embers 5 = .ok (.iload 4, 2) := by decide +kernel
theorem dX11_embers_7 : decode cX11_embers 7 = .ok (.iconst 3, 1) := by decide +kernel
theorem dX11_embers_8 : decode cX11_embers 8 = .ok (.if_icmp .ge 53, 3) := by decide +kernel
theorem dX11_embers_11 : decode cX11_embers 11 = .ok (.iconst 0, 1) := by decide +kernel
theorem dX11_embers_12 : decode cX11_embers 12 = .ok (.iconst 3, 1) := by decide +kernel
theorem dX11_embers_13 : decode cX11_embers 13 = .ok (.iload_n 1, 1) := by decide +kernel
theorem dX11_embers_14 : decode cX11_embers 14 = .ok (.imul, 1) := by decide +kernel
theorem dX11_embers_15 : decode cX11_embers 15 = .ok (.iadd, 1) := by decide +kernel
theorem dX11_embers_16 : decode cX11_embers 16 = .ok (.iload 4, 2) := by decide +kernel
theorem dX11_embers_18 : decode cX11_embers 18 = .ok (.iadd, 1) := by decide +kernel
theorem dX11_embers_19 : decode cX11_embers 19 = .ok (.istore 5, 2) := by decide +kernel
theorem dX11_embers_21 : decode cX11_embers 21 = .ok (.aload_n 0, 1) := by decide +kernel
theorem dX11_embers_22 : decode cX11_embers 22 = .ok (.getfield 13, 3) := by decide +kernel
theorem dX11_embers_25 : decode cX11_embers 25 = .ok (.iload 5, 2) := by decide +kernel
theorem dX11_embers_27 : decode cX11_embers 27 = .ok (.aload_n 0, 1) := by decide +kernel
theorem dX11_embers_28 : decode cX11_embers 28 = .ok (.getfield 13, 3) := by decide +kernel
theorem dX11_embers_31 : decode cX11_embers 31 = .ok (.iload 5, 2) := by decide +kernel
theorem dX11_embers_33 : decode cX11_embers 33 = .ok (.iaload, 1) := by decide +kernel
theorem dX11_embers_34 : decode cX11_embers 34 = .ok (.iload_n 3, 1) := by decide +kernel
theorem dX11_embers_35 : decode cX11_embers 35 = .ok (.iadd, 1) := by decide +kernel
theorem dX11_embers_36 : decode cX11_embers 36 = .ok (.invokestatic 176, 3) := by decide +kernel
theorem dX11_embers_39 : decode cX11_embers 39 = .ok (.iastore, 1) := by decide +kernel
theorem dX11_embers_40 : decode cX11_embers 40 = .ok (.iload 4, 2) := by decide +kernel
theorem dX11_embers_42 : decode cX11_embers 42 = .ok (.ifCond .ne 9, 3) := by decide +kernel
theorem dX11_embers_45 : decode cX11_embers 45 = .ok (.iload_n 2, 1) := by decide +kernel
theorem dX11_embers_46 : decode cX11_embers 46 = .ok (.iconst 2, 1) := by decide +kernel
theorem dX11_embers_47 : decode cX11_embers 47 = .ok (.idiv, 1) := by decide +kernel
theorem dX11_embers_48 : decode cX11_embers 48 = .ok (.goto 6, 3) := by decide +kernel
theorem dX11_embers_51 : decode cX11_embers 51 = .ok (.iload_n 2, 1) := by decide +kernel
theorem dX11_embers_52 : decode cX11_embers 52 = .ok (.iconst 4, 1) := by decide +kernel
theorem dX11_embers_53 : decode cX11_embers 53 = .ok (.idiv, 1) := by decide +kernel
theorem dX11_embers_54 : decode cX11_embers 54 = .ok (.istore_n 3, 1) := by decide +kernel
theorem dX11_embers_55 : decode cX11_embers 55 = .ok (.iinc 4 1, 3) := by decide +kernel
theorem dX11_embers_58 : decode cX11_embers 58 = .ok (.goto (-53), 3) := by decide +kernel
theorem dX11_embers_61 : decode cX11_embers 61 = .ok (.return_, 1) := by decide +kernel
theorem dX11_burns_0 : decode cX11_burns 0 = .ok (.iconst 0, 1) := by decide +kernel
theorem dX11_burns_1 : decode cX11_burns 1 = .ok (.istore_n 1, 1) := by decide +kernel
theorem dX11_burns_2 : decode cX11_burns 2 = .ok (.iconst 0, 1) := by decide +kernel
theorem dX11_burns_3 : decode cX11_burns 3 = .ok (.istore_n 2, 1) := by decide +kernel
theorem dX11_burns_4 : decode cX11_burns 4 = .ok (.iload_n 2, 1) := by decide +kernel
theorem dX11_burns_5 : decode cX11_burns 5 = .ok (.aload_n 0, 1) := by decide +kernel
theorem dX11_burns_6 : decode cX11_burns 6 = .ok (.getfield 13, 3) := by decide +kernel
theorem dX11_burns_9 : decode cX11_burns 9 = .ok (.bipush 26, 2) := by decide +kernel
theorem dX11_burns_11 : decode cX11_burns 11 = .ok (.iaload, 1) := by decide +kernel
theorem dX11_burns_12 : decode cX11_burns 12 = .ok (.if_icmp .ge 109, 3) := by decide +kernel
theorem dX11_burns_15 : decode cX11_burns 15 = .ok (.bipush 27, 2) := by decide +kernel
theorem dX11_burns_17 : decode cX11_burns 17 = .ok (.iconst 3, 1) := by decide +kernel
theorem dX11_burns_18 : decode cX11_burns 18 = .ok (.iload_n 2, 1) := by decide +kernel
theorem dX11_burns_19 : decode cX11_burns 19 = .ok (.imul, 1) := by decide +kernel
theorem dX11_burns_20 : decode cX11_burns 20 = .ok (.iadd, 1) := by decide +kernel
theorem dX11_burns_21 : decode cX11_burns 21 = .ok (.istore_n 3, 1) := by decide +kernel
theorem dX11_burns_22 : decode cX11_burns 22 = .ok (.aload_n 0, 1) := by decide +kernel
theorem dX11_burns_23 : decode cX11_burns 23 = .ok (.getfield 13, 3) := by decide +kernel
theorem dX11_burns_26 : decode cX11_burns 26 = .ok (.iload_n 3, 1) := by decide +kernel
theorem dX11_burns_27 : decode cX11_burns 27 = .ok (.iconst 2, 1) := by decide +kernel
theorem dX11_burns_28 : decode cX11_burns 28 = .ok (.iadd, 1) := by decide +kernel
theorem dX11_burns_29 : decode cX11_burns 29 = .ok (.iaload, 1) := by decide +kernel
theorem dX11_burns_30 : decode cX11_burns 30 = .ok (.iconst 1, 1) := by decide +kernel
theorem dX11_burns_31 : decode cX11_burns 31 = .ok (.if_icmp .ne 24, 3) := by decide +kernel
theorem dX11_burns_34 : decode cX11_burns 34 = .ok (.aload_n 0, 1) := by decide +kernel
theorem dX11_burns_35 : decode cX11_burns 35 = .ok (.aload_n 0, 1) := by decide +kernel
theorem dX11_burns_36 : decode cX11_burns 36 = .ok (.getfield 13, 3) := by decide +kernel
theorem dX11_burns_39 : decode cX11_burns 39 = .ok (.iload_n 3, 1) := by decide +kernel
theorem dX11_burns_40 : decode cX11_burns 40 = .ok (.iaload, 1) := by decide +kernel
theorem dX11_burns_41 : decode cX11_burns 41 = .ok (.aload_n 0, 1) := by decide +kernel
theorem dX11_burns_42 : decode cX11_burns 42 = .ok (.getfield 13, 3) := by decide +kernel
theorem dX11_burns_45 : decode cX11_burns 45 = .ok (.iload_n 3, 1) := by decide +kernel
theorem dX11_burns_46 : decode cX11_burns 46 = .ok (.iconst 1, 1) := by decide +kernel
theorem dX11_burns_47 : decode cX11_burns 47 = .ok (.iadd, 1) := by decide +kernel
theorem dX11_burns_48 : decode cX11_burns 48 = .ok (.iaload, 1) := by decide +kernel
theorem dX11_burns_49 : decode cX11_burns 49 = .ok (.invokevirtual 183, 3) := by decide +kernel
theorem dX11_burns_52 : decode cX11_burns 52 = .ok (.goto 63, 3) := by decide +kernel
theorem dX11_burns_55 : decode cX11_burns 55 = .ok (.bipush 27, 2) := by decide +kernel
theorem dX11_burns_57 : decode cX11_burns 57 = .ok (.iconst 3, 1) := by decide +kernel
theorem dX11_burns_58 : decode cX11_burns 58 = .ok (.iload_n 1, 1) := by decide +kernel
theorem dX11_burns_59 : decode cX11_burns 59 = .ok (.imul, 1) := by decide +kernel
theorem dX11_burns_60 : decode cX11_burns 60 = .ok (.iadd, 1) := by decide +kernel
theorem dX11_burns_61 : decode cX11_burns 61 = .ok (.istore 4, 2) := by decide +kernel
theorem dX11_burns_63 : decode cX11_burns 63 = .ok (.aload_n 0, 1) := by decide +kernel
theorem dX11_burns_64 : decode cX11_burns 64 = .ok (.getfield 13, 3) := by decide +kernel
theorem dX11_burns_67 : decode cX11_burns 67 = .ok (.iload 4, 2) := by decide +kernel
theorem dX11_burns_69 : decode cX11_burns 69 = .ok (.aload_n 0, 1) := by decide +kernel
theorem dX11_burns_70 : decode cX11_burns 70 = .ok (.getfield 13, 3) := by decide +kernel
theorem dX11_burns_73 : decode cX11_burns 73 = .ok (.iload_n 3, 1) := by decide +kernel
theorem dX11_burns_74 : decode cX11_burns 74 = .ok (.iaload, 1) := by decide +kernel
theorem dX11_burns_75 : decode cX11_burns 75 = .ok (.iastore, 1) := by decide +kernel
theorem dX11_burns_76 : decode cX11_burns 76 = .ok (.aload_n 0, 1) := by decide +kernel
theorem dX11_burns_77 : decode cX11_burns 77 = .ok (.getfield 13, 3) := by decide +kernel
theorem dX11_burns_80 : decode cX11_burns 80 = .ok (.iload 4, 2) := by decide +kernel
theorem dX11_burns_82 : decode cX11_burns 82 = .ok (.iconst 1, 1) := by decide +kernel
theorem dX11_burns_83 : decode cX11_burns 83 = .ok (.iadd, 1) := by decide +kernel
theorem dX11_burns_84 : decode cX11_burns 84 = .ok (.aload_n 0, 1) := by decide +kernel
theorem dX11_burns_85 : decode cX11_burns 85 = .ok (.getfield 13, 3) := by decide +kernel
theorem dX11_burns_88 : decode cX11_burns 88 = .ok (.iload_n 3, 1) := by decide +kernel
theorem dX11_burns_89 : decode cX11_burns 89 = .ok (.iconst 1, 1) := by decide +kernel
theorem dX11_burns_90 : decode cX11_burns 90 = .ok (.iadd, 1) := by decide +kernel
theorem dX11_burns_91 : decode cX11_burns 91 = .ok (.iaload, 1) := by decide +kernel
theorem dX11_burns_92 : decode cX11_burns 92 = .ok (.iastore, 1) := by decide +kernel
theorem dX11_burns_93 : decode cX11_burns 93 = .ok (.aload_n 0, 1) := by decide +kernel
theorem dX11_burns_94 : decode cX11_burns 94 = .ok (.getfield 13, 3) := by decide +kernel
theorem dX11_burns_97 : decode cX11_burns 97 = .ok (.iload 4, 2) := by decide +kernel
theorem dX11_burns_99 : decode cX11_burns 99 = .ok (.iconst 2, 1) := by decide +kernel
theorem dX11_burns_100 : decode cX11_burns 100 = .ok (.iadd, 1) := by decide +kernel
theorem dX11_burns_101 : decode cX11_burns 101 = .ok (.aload_n 0, 1) := by decide +kernel
theorem dX11_burns_102 : decode cX11_burns 102 = .ok (.getfield 13, 3) := by decide +kernel
theorem dX11_burns_105 : decode cX11_burns 105 = .ok (.iload_n 3, 1) := by decide +kernel
theorem dX11_burns_106 : decode cX11_burns 106 = .ok (.iconst 2, 1) := by decide +kernel
theorem dX11_burns_107 : decode cX11_burns 107 = .ok (.iadd, 1) := by decide +kernel
theorem dX11_burns_108 : decode cX11_burns 108 = .ok (.iaload, 1) := by decide +kernel
theorem dX11_burns_109 : decode cX11_burns 109 = .ok (.iconst 1, 1) := by decide +kernel
theorem dX11_burns_110 : decode cX11_burns 110 = .ok (.isub, 1) := by decide +kernel
theorem dX11_burns_111 : decode cX11_burns 111 = .ok (.iastore, 1) := by decide +kernel
theorem dX11_burns_112 : decode cX11_burns 112 = .ok (.iinc 1 1, 3) := by decide +kernel
theorem dX11_burns_115 : decode cX11_burns 115 = .ok (.iinc 2 1, 3) := by decide +kernel
theorem dX11_burns_118 : decode cX11_burns 118 = .ok (.goto (-114), 3) := by decide +kernel
theorem dX11_burns_121 : decode cX11_burns 121 = .ok (.aload_n 0, 1) := by decide +kernel
theorem dX11_burns_122 : decode cX11_burns 122 = .ok (.getfield 13, 3) := by decide +kernel
theorem dX11_burns_125 : decode cX11_burns 125 = .ok (.bipush 26, 2) := by decide +kernel
theorem dX11_burns_127 : decode cX11_burns 127 = .ok (.iload_n 1, 1) := by decide +kernel
theorem dX11_burns_128 : decode cX11_burns 128 = .ok (.iastore, 1) := by decide +kernel
theorem dX11_burns_129 : decode cX11_burns 129 = .ok (.return_, 1) := by decide +kernel
theorem dX11_cools_0 : decode cX11_cools 0 = .ok (.iconst 0, 1) := by decide +kernel
theorem dX11_cools_1 : decode cX11_cools 1 = .ok (.istore_n 1, 1) := by decide +kernel
theorem dX11_cools_2 : decode cX11_cools 2 = .ok (.iload_n 1, 1) := by decide +kernel
theorem dX11_cools_3 : decode cX11_cools 3 = .ok (.iconst 3, 1) := by decide +kernel
theorem dX11_cools_4 : decode cX11_cools 4 = .ok (.aload_n 0, 1) := by decide +kernel
theorem dX11_cools_5 : decode cX11_cools 5 = .ok (.getfield 73, 3) := by decide +kernel
theorem dX11_cools_8 : decode cX11_cools 8 = .ok (.imul, 1) := by decide +kernel
theorem dX11_cools_9 : decode cX11_cools 9 = .ok (.if_icmp .ge 81, 3) := by decide +kernel
theorem dX11_cools_12 : decode cX11_cools 12 = .ok (.iload_n 1, 1) := by decide +kernel
theorem dX11_cools_13 : decode cX11_cools 13 = .ok (.iconst 3, 1) := by decide +kernel
theorem dX11_cools_14 : decode cX11_cools 14 = .ok (.idiv, 1) := by decide +kernel
theorem dX11_cools_15 : decode cX11_cools 15 = .ok (.istore_n 2, 1) := by decide +kernel
theorem dX11_cools_16 : decode cX11_cools 16 = .ok (.aload_n 0, 1) := by decide +kernel
theorem dX11_cools_17 : decode cX11_cools 17 = .ok (.getfield 13, 3) := by decide +kernel
theorem dX11_cools_20 : decode cX11_cools 20 = .ok (.bipush 24, 2) := by decide +kernel
theorem dX11_cools_22 : decode cX11_cools 22 = .ok (.iaload, 1) := by decide +kernel
theorem dX11_cools_23 : decode cX11_cools 23 = .ok (.iload_n 2, 1) := by decide +kernel
theorem dX11_cools_24 : decode cX11_cools 24 = .ok (.ifCond .eq 13, 3) := by decide +kernel
theorem dX11_cools_27 : decode cX11_cools 27 = .ok (.iload_n 2, 1) := by decide +kernel
theorem dX11_cools_28 : decode cX11_cools 28 = .ok (.aload_n 0, 1) := by decide +kernel
theorem dX11_cools_29 : decode cX11_cools 29 = .ok (.getfield 73, 3) := by decide +kernel
theorem dX11_cools_32 : decode cX11_cools 32 = .ok (.iconst 1, 1) := by decide +kernel
theorem dX11_cools_33 : decode cX11_cools 33 = .ok (.isub, 1) := by decide +kernel
theorem dX11_cools_34 : decode cX11_cools 34 = .ok (.if_icmp .ne 13, 3) := by decide +kernel
theorem dX11_cools_37 : decode cX11_cools 37 = .ok (.aload_n 0, 1) := by decide +kernel
theorem dX11_cools_38 : decode cX11_cools 38 = .ok (.getfield 13, 3) := by decide +kernel
theorem dX11_cools_41 : decode cX11_cools 41 = .ok (.bipush 25, 2) := by decide +kernel
theorem dX11_cools_43 : decode cX11_cools 43 = .ok (.iaload, 1) := by decide +kernel
theorem dX11_cools_44 : decode cX11_cools 44 = .ok (.goto 4, 3) := by decide +kernel
theorem dX11_cools_47 : decode cX11_cools 47 = .ok (.iconst 0, 1) := by decide +kernel
theorem dX11_cools_48 : decode cX11_cools 48 = .ok (.iadd, 1) := by decide +kernel
theorem dX11_cools_49 : decode cX11_cools 49 = .ok (.istore_n 3, 1) := by decide +kernel
theorem dX11_cools_50 : decode cX11_cools 50 = .ok (.aload_n 0, 1) := by decide +kernel
theorem dX11_cools_51 : decode cX11_cools 51 = .ok (.getfield 13, 3) := by decide +kernel
theorem dX11_cools_54 : decode cX11_cools 54 = .ok (.iconst 0, 1) := by decide +kernel
theorem dX11_cools_55 : decode cX11_cools 55 = .ok (.iload_n 1, 1) := by decide +kernel
theorem dX11_cools_56 : decode cX11_cools 56 = .ok (.iadd, 1) := by decide +kernel
theorem dX11_cools_57 : decode cX11_cools 57 = .ok (.aload_n 0, 1) := by decide +kernel
theorem dX11_cools_58 : decode cX11_cools 58 = .ok (.getfield 13, 3) := by decide +kernel
theorem dX11_cools_61 : decode cX11_cools 61 = .ok (.iconst 0, 1) := by decide +kernel
theorem dX11_cools_62 : decode cX11_cools 62 = .ok (.iload_n 1, 1) := by decide +kernel
theorem dX11_cools_63 : decode cX11_cools 63 = .ok (.iadd, 1) := by decide +kernel
theorem dX11_cools_64 : decode cX11_cools 64 = .ok (.iaload, 1) := by decide +kernel
theorem dX11_cools_65 : decode cX11_cools 65 = .ok (.iload_n 3, 1) := by decide +kernel
theorem dX11_cools_66 : decode cX11_cools 66 = .ok (.if_icmp .ge 7, 3) := by decide +kernel
theorem dX11_cools_69 : decode cX11_cools 69 = .ok (.iconst 0, 1) := by decide +kernel
theorem dX11_cools_70 : decode cX11_cools 70 = .ok (.goto 13, 3) := by decide +kernel
theorem dX11_cools_73 : decode cX11_cools 73 = .ok (.aload_n 0, 1) := by decide +kernel
theorem dX11_cools_74 : decode cX11_cools 74 = .ok (.getfield 13, 3) := by decide +kernel
theorem dX11_cools_77 : decode cX11_cools 77 = .ok (.iconst 0, 1) := by decide +kernel
theorem dX11_cools_78 : decode cX11_cools 78 = .ok (.iload_n 1, 1) := by decide +kernel
theorem dX11_cools_79 : decode cX11_cools 79 = .ok (.iadd, 1) := by decide +kernel
theorem dX11_cools_80 : decode cX11_cools 80 = .ok (.iaload, 1) := by decide +kernel
theorem dX11_cools_81 : decode cX11_cools 81 = .ok (.iload_n 3, 1) := by decide +kernel
theorem dX11_cools_82 : decode cX11_cools 82 = .ok (.isub, 1) := by decide +kernel
theorem dX11_cools_83 : decode cX11_cools 83 = .ok (.iastore, 1) := by decide +kernel
theorem dX11_cools_84 : decode cX11_cools 84 = .ok (.iinc 1 1, 3) := by decide +kernel
theorem dX11_cools_87 : decode cX11_cools 87 = .ok (.goto (-85), 3) := by decide +kernel
theorem dX11_cools_90 : decode cX11_cools 90 = .ok (.return_, 1) := by decide +kernel
theorem dX11_rounds_0 : decode cX11_rounds 0 = .ok (.iconst 0, 1) := by decide +kernel
theorem dX11_rounds_1 : decode cX11_rounds 1 = .ok (.istore_n 1, 1) := by decide +kernel
theorem dX11_rounds_2 : decode cX11_rounds 2 = .ok (.iload_n 1, 1) := by decide +kernel
theorem dX11_rounds_3 : decode cX11_rounds 3 = .ok (.aload_n 0, 1) := by decide +kernel
theorem dX11_rounds_4 : decode cX11_rounds 4 = .ok (.getfield 13, 3) := by decide +kernel
theorem dX11_rounds_7 : decode cX11_rounds 7 = .ok (.bipush 46, 2) := by decide +kernel
theorem dX11_rounds_9 : decode cX11_rounds 9 = .ok (.iaload, 1) := by decide +kernel
theorem dX11_rounds_10 : decode cX11_rounds 10 = .ok (.if_icmp .ge 14, 3) := by decide +kernel
theorem dX11_rounds_13 : decode cX11_rounds 13 = .ok (.aload_n 0, 1) := by decide +kernel
theorem dX11_rounds_14 : decode cX11_rounds 14 = .ok (.iload_n 1, 1) := by decide +kernel
theorem dX11_rounds_15 : decode cX11_rounds 15 = .ok (.invokevirtual 187, 3) := by decide +kernel
theorem dX11_rounds_18 : decode cX11_rounds 18 = .ok (.iinc 1 1, 3) := by decide +kernel
theorem dX11_rounds_21 : decode cX11_rounds 21 = .ok (.goto (-19), 3) := by decide +kernel
theorem dX11_rounds_24 : decode cX11_rounds 24 = .ok (.aload_n 0, 1) := by decide +kernel
theorem dX11_rounds_25 : decode cX11_rounds 25 = .ok (.invokevirtual 190, 3) := by decide +kernel
theorem dX11_rounds_28 : decode cX11_rounds 28 = .ok (.aload_n 0, 1) := by decide +kernel
theorem dX11_rounds_29 : decode cX11_rounds 29 = .ok (.invokevirtual 193, 3) := by decide +kernel
theorem dX11_rounds_32 : decode cX11_rounds 32 = .ok (.aload_n 0, 1) := by decide +kernel
theorem dX11_rounds_33 : decode cX11_rounds 33 = .ok (.getfield 13, 3) := by decide +kernel
theorem dX11_rounds_36 : decode cX11_rounds 36 = .ok (.bipush 45, 2) := by decide +kernel
theorem dX11_rounds_38 : decode cX11_rounds 38 = .ok (.dup2, 1) := by decide +kernel
theorem dX11_rounds_39 : decode cX11_rounds 39 = .ok (.iaload, 1) := by decide +kernel
theorem dX11_rounds_40 : decode cX11_rounds 40 = .ok (.iconst 1, 1) := by decide +kernel
theorem dX11_rounds_41 : decode cX11_rounds 41 = .ok (.iadd, 1) := by decide +kernel
theorem dX11_rounds_42 : decode cX11_rounds 42 = .ok (.iastore, 1) := by decide +kernel
theorem dX11_rounds_43 : decode cX11_rounds 43 = .ok (.return_, 1) := by decide +kernel
theorem dX11_roundsAll_0 : decode cX11_roundsAll 0 = .ok (.iconst 0, 1) := by decide +kernel
theorem dX11_roundsAll_1 : decode cX11_roundsAll 1 = .ok (.istore_n 2, 1) := by decide +kernel
theorem dX11_roundsAll_2 : decode cX11_roundsAll 2 = .ok (.iload_n 2, 1) := by decide +kernel
theorem dX11_roundsAll_3 : decode cX11_roundsAll 3 = .ok (.iload_n 1, 1) := by decide +kernel
theorem dX11_roundsAll_4 : decode cX11_roundsAll 4 = .ok (.if_icmp .ge 13, 3) := by decide +kernel
theorem dX11_roundsAll_7 : decode cX11_roundsAll 7 = .ok (.aload_n 0, 1) := by decide +kernel
theorem dX11_roundsAll_8 : decode cX11_roundsAll 8 = .ok (.invokevirtual 196, 3) := by decide +kernel
theorem dX11_roundsAll_11 : decode cX11_roundsAll 11 = .ok (.iinc 2 1, 3) := by decide +kernel
theorem dX11_roundsAll_14 : decode cX11_roundsAll 14 = .ok (.goto (-12), 3) := by decide +kernel
theorem dX11_roundsAll_17 : decode cX11_roundsAll 17 = .ok (.return_, 1) := by decide +kernel
theorem dX11_isDone_0 : decode cX11_isDone 0 = .ok (.aload_n 0, 1) := by decide +kernel
theorem dX11_isDone_1 : decode cX11_isDone 1 = .ok (.iload_n 1, 1) := by decide +kernel
theorem dX11_isDone_2 : decode cX11_isDone 2 = .ok (.iconst 3, 1) := by decide +kernel
theorem dX11_isDone_3 : decode cX11_isDone 3 = .ok (.invokevirtual 173, 3) := by decide +kernel
theorem dX11_isDone_6 : decode cX11_isDone 6 = .ok (.bipush 10, 2) := by decide +kernel
theorem dX11_isDone_8 : decode cX11_isDone 8 = .ok (.aload_n 0, 1) := by decide +kernel
theorem dX11_isDone_9 : decode cX11_isDone 9 = .ok (.iload_n 1, 1) := by decide +kernel
theorem dX11_isDone_10 : decode cX11_isDone 10 = .ok (.iconst 0, 1) := by decide +kernel
theorem dX11_isDone_11 : decode cX11_isDone 11 = .ok (.invokevirtual 173, 3) := by decide +kernel
theorem dX11_isDone_14 : decode cX11_isDone 14 = .ok (.imul, 1) := by decide +kernel
theorem dX11_isDone_15 : decode cX11_isDone 15 = .ok (.if_icmp .lt 7, 3) := by decide +kernel
theorem dX11_isDone_18 : decode cX11_isDone 18 = .ok (.iconst 1, 1) := by decide +kernel
theorem dX11_isDone_19 : decode cX11_isDone 19 = .ok (.goto 4, 3) := by decide +kernel
theorem dX11_isDone_22 : decode cX11_isDone 22 = .ok (.iconst 0, 1) := by decide +kernel
theorem dX11_isDone_23 : decode cX11_isDone 23 = .ok (.ireturn, 1) := by decide +kernel
theorem dX11_isBlack_0 : decode cX11_isBlack 0 = .ok (.aload_n 0, 1) := by decide +kernel
theorem dX11_isBlack_1 : decode cX11_isBlack 1 = .ok (.iload_n 1, 1) := by decide +kernel
theorem dX11_isBlack_2 : decode cX11_isBlack 2 = .ok (.iconst 4, 1) := by decide +kernel
theorem dX11_isBlack_3 : decode cX11_isBlack 3 = .ok (.invokevirtual 173, 3) := by decide +kernel
theorem dX11_isBlack_6 : decode cX11_isBlack 6 = .ok (.bipush 40, 2) := by decide +kernel
theorem dX11_isBlack_8 : decode cX11_isBlack 8 = .ok (.if_icmp .ge 14, 3) := by decide +kernel
theorem dX11_isBlack_11 : decode cX11_isBlack 11 = .ok (.aload_n 0, 1) := by decide +kernel
theorem dX11_isBlack_12 : decode cX11_isBlack 12 = .ok (.iload_n 1, 1) := by decide +kernel
theorem dX11_isBlack_13 : decode cX11_isBlack 13 = .ok (.iconst 5, 1) := by decide +kernel
theorem dX11_isBlack_14 : decode cX11_isBlack 14 = .ok (.invokevirtual 173, 3) := by decide +kernel
theorem dX11_isBlack_17 : decode cX11_isBlack 17 = .ok (.bipush 40, 2) := by decide +kernel
theorem dX11_isBlack_19 : decode cX11_isBlack 19 = .ok (.if_icmp .lt 7, 3) := by decide +kernel
theorem dX11_isBlack_22 : decode cX11_isBlack 22 = .ok (.iconst 1, 1) := by decide +kernel
theorem dX11_isBlack_23 : decode cX11_isBlack 23 = .ok (.goto 4, 3) := by decide +kernel
theorem dX11_isBlack_26 : decode cX11_isBlack 26 = .ok (.iconst 0, 1) := by decide +kernel
theorem dX11_isBlack_27 : decode cX11_isBlack 27 = .ok (.ireturn, 1) := by decide +kernel
theorem dX11_isGood_0 : decode cX11_isGood 0 = .ok (.aload_n 0, 1) := by decide +kernel
theorem dX11_isGood_1 : decode cX11_isGood 1 = .ok (.iload_n 1, 1) := by decide +kernel
theorem dX11_isGood_2 : decode cX11_isGood 2 = .ok (.invokevirtual 199, 3) := by decide +kernel
theorem dX11_isGood_5 : decode cX11_isGood 5 = .ok (.ifCond .eq 15, 3) := by decide +kernel
theorem dX11_isGood_8 : decode cX11_isGood 8 = .ok (.aload_n 0, 1) := by decide +kernel
theorem dX11_isGood_9 : decode cX11_isGood 9 = .ok (.iload_n 1, 1) := by decide +kernel
theorem dX11_isGood_10 : decode cX11_isGood 10 = .ok (.invokevirtual 202, 3) := by decide +kernel
theorem dX11_isGood_13 : decode cX11_isGood 13 = .ok (.ifCond .ne 7, 3) := by decide +kernel
theorem dX11_isGood_16 : decode cX11_isGood 16 = .ok (.iconst 1, 1) := by decide +kernel
theorem dX11_isGood_17 : decode cX11_isGood 17 = .ok (.goto 4, 3) := by decide +kernel
theorem dX11_isGood_20 : decode cX11_isGood 20 = .ok (.iconst 0, 1) := by decide +kernel
theorem dX11_isGood_21 : decode cX11_isGood 21 = .ok (.ireturn, 1) := by decide +kernel
theorem dX11_goods_0 : decode cX11_goods 0 = .ok (.iconst 0, 1) := by decide +kernel
theorem dX11_goods_1 : decode cX11_goods 1 = .ok (.istore_n 1, 1) := by decide +kernel
theorem dX11_goods_2 : decode cX11_goods 2 = .ok (.iconst 0, 1) := by decide +kernel
theorem dX11_goods_3 : decode cX11_goods 3 = .ok (.istore_n 2, 1) := by decide +kernel
theorem dX11_goods_4 : decode cX11_goods 4 = .ok (.iload_n 2, 1) := by decide +kernel
theorem dX11_goods_5 : decode cX11_goods 5 = .ok (.aload_n 0, 1) := by decide +kernel
theorem dX11_goods_6 : decode cX11_goods 6 = .ok (.getfield 13, 3) := by decide +kernel
theorem dX11_goods_9 : decode cX11_goods 9 = .ok (.bipush 46, 2) := by decide +kernel
theorem dX11_goods_11 : decode cX11_goods 11 = .ok (.iaload, 1) := by decide +kernel
theorem dX11_goods_12 : decode cX11_goods 12 = .ok (.if_icmp .ge 20, 3) := by decide +kernel
theorem dX11_goods_15 : decode cX11_goods 15 = .ok (.iload_n 1, 1) := by decide +kernel
theorem dX11_goods_16 : decode cX11_goods 16 = .ok (.aload_n 0, 1) := by decide +kernel
theorem dX11_goods_17 : decode cX11_goods 17 = .ok (.iload_n 2, 1) := by decide +kernel
theorem dX11_goods_18 : decode cX11_goods 18 = .ok (.invokevirtual 205, 3) := by decide +kernel
theorem dX11_goods_21 : decode cX11_goods 21 = .ok (.invokestatic 208, 3) := by decide +kernel
theorem dX11_goods_24 : decode cX11_goods 24 = .ok (.iadd, 1) := by decide +kernel
theorem dX11_goods_25 : decode cX11_goods 25 = .ok (.istore_n 1, 1) := by decide +kernel
theorem dX11_goods_26 : decode cX11_goods 26 = .ok (.iinc 2 1, 3) := by decide +kernel
theorem dX11_goods_29 : decode cX11_goods 29 = .ok (.goto (-25), 3) := by decide +kernel
theorem dX11_goods_32 : decode cX11_goods 32 = .ok (.iload_n 1, 1) := by decide +kernel
theorem dX11_goods_33 : decode cX11_goods 33 = .ok (.ireturn, 1) := by decide +kernel
theorem dX11_blacks_0 : decode cX11_blacks 0 = .ok (.iconst 0, 1) := by decide +kernel
theorem dX11_blacks_1 : decode cX11_blacks 1 = .ok (.istore_n 1, 1) := by decide +kernel
theorem dX11_blacks_2 : decode cX11_blacks 2 = .ok (.iconst 0, 1) := by decide +kernel
theorem dX11_blacks_3 : decode cX11_blacks 3 = .ok (.istore_n 2, 1) := by decide +kernel
theorem dX11_blacks_4 : decode cX11_blacks 4 = .ok (.iload_n 2, 1) := by decide +kernel
theorem dX11_blacks_5 : decode cX11_blacks 5 = .ok (.aload_n 0, 1) := by decide +kernel
theorem dX11_blacks_6 : decode cX11_blacks 6 = .ok (.getfield 13, 3) := by decide +kernel
theorem dX11_blacks_9 : decode cX11_blacks 9 = .ok (.bipush 46, 2) := by decide +kernel
theorem dX11_blacks_11 : decode cX11_blacks 11 = .ok (.iaload, 1) := by decide +kernel
theorem dX11_blacks_12 : decode cX11_blacks 12 = .ok (.if_icmp .ge 20, 3) := by decide +kernel
theorem dX11_blacks_15 : decode cX11_blacks 15 = .ok (.iload_n 1, 1) := by decide +kernel
theorem dX11_blacks_16 : decode cX11_blacks 16 = .ok (.aload_n 0, 1) := by decide +kernel
theorem dX11_blacks_17 : decode cX11_blacks 17 = .ok (.iload_n 2, 1) := by decide +kernel
theorem dX11_blacks_18 : decode cX11_blacks 18 = .ok (.invokevirtual 202, 3) := by decide +kernel
theorem dX11_blacks_21 : decode cX11_blacks 21 = .ok (.invokestatic 208, 3) := by decide +kernel
theorem dX11_blacks_24 : decode cX11_blacks 24 = .ok (.iadd, 1) := by decide +kernel
theorem dX11_blacks_25 : decode cX11_blacks 25 = .ok (.istore_n 1, 1) := by decide +kernel
theorem dX11_blacks_26 : decode cX11_blacks 26 = .ok (.iinc 2 1, 3) := by decide +kernel
theorem dX11_blacks_29 : decode cX11_blacks 29 = .ok (.goto (-25), 3) := by decide +kernel
theorem dX11_blacks_32 : decode cX11_blacks 32 = .ok (.iload_n 1, 1) := by decide +kernel
theorem dX11_blacks_33 : decode cX11_blacks 33 = .ok (.ireturn, 1) := by decide +kernel
theorem dX11_tells_0 : decode cX11_tells 0 = .ok (.iload_n 2, 1) := by decide +kernel
theorem dX11_tells_1 : decode cX11_tells 1 = .ok (.tableswitch 115 0 8 #[51, 51, 51, 51, 58, 73, 88, 97, 106], 51) := by decide +kernel
theorem dX11_tells_52 : decode cX11_tells 52 = .ok (.aload_n 0, 1) := by decide +kernel
theorem dX11_tells_53 : decode cX11_tells 53 = .ok (.iload_n 1, 1) := by decide +kernel
theorem dX11_tells_54 : decode cX11_tells 54 = .ok (.iload_n 2, 1) := by decide +kernel
theorem dX11_tells_55 : decode cX11_tells 55 = .ok (.invokevirtual 173, 3) := by decide +kernel
theorem dX11_tells_58 : decode cX11_tells 58 = .ok (.ireturn, 1) := by decide +kernel
theorem dX11_tells_59 : decode cX11_tells 59 = .ok (.aload_n 0, 1) := by decide +kernel
theorem dX11_tells_60 : decode cX11_tells 60 = .ok (.iload_n 1, 1) := by decide +kernel
theorem dX11_tells_61 : decode cX11_tells 61 = .ok (.iconst 4, 1) := by decide +kernel
theorem dX11_tells_62 : decode cX11_tells 62 = .ok (.aload_n 0, 1) := by decide +kernel
theorem dX11_tells_63 : decode cX11_tells 63 = .ok (.iload_n 1, 1) := by decide +kernel
theorem dX11_tells_64 : decode cX11_tells 64 = .ok (.bipush 6, 2) := by decide +kernel
theorem dX11_tells_66 : decode cX11_tells 66 = .ok (.invokevirtual 173, 3) := by decide +kernel
theorem dX11_tells_69 : decode cX11_tells 69 = .ok (.iadd, 1) := by decide +kernel
theorem dX11_tells_70 : decode cX11_tells 70 = .ok (.invokevirtual 173, 3) := by decide +kernel
theorem dX11_tells_73 : decode cX11_tells 73 = .ok (.ireturn, 1) := by decide +kernel
theorem dX11_tells_74 : decode cX11_tells 74 = .ok (.aload_n 0, 1) := by decide +kernel
theorem dX11_tells_75 : decode cX11_tells 75 = .ok (.iload_n 1, 1) := by decide +kernel
theorem dX11_tells_76 : decode cX11_tells 76 = .ok (.iconst 5, 1) := by decide +kernel
theorem dX11_tells_77 : decode cX11_tells 77 = .ok (.aload_n 0, 1) := by decide +kernel
theorem dX11_tells_78 : decode cX11_tells 78 = .ok (.iload_n 1, 1) := by decide +kernel
theorem dX11_tells_79 : decode cX11_tells 79 = .ok (.bipush 6, 2) := by decide +kernel
theorem dX11_tells_81 : decode cX11_tells 81 = .ok (.invokevirtual 173, 3) := by decide +kernel
theorem dX11_tells_84 : decode cX11_tells 84 = .ok (.isub, 1) := by decide +kernel
theorem dX11_tells_85 : decode cX11_tells 85 = .ok (.invokevirtual 173, 3) := by decide +kernel
theorem dX11_tells_88 : decode cX11_tells 88 = .ok (.ireturn, 1) := by decide +kernel
theorem dX11_tells_89 : decode cX11_tells 89 = .ok (.aload_n 0, 1) := by decide +kernel
theorem dX11_tells_90 : decode cX11_tells 90 = .ok (.iload_n 1, 1) := by decide +kernel
theorem dX11_tells_91 : decode cX11_tells 91 = .ok (.invokevirtual 199, 3) := by decide +kernel
theorem dX11_tells_94 : decode cX11_tells 94 = .ok (.invokestatic 208, 3) := by decide +kernel
theorem dX11_tells_97 : decode cX11_tells 97 = .ok (.ireturn, 1) := by decide +kernel
theorem dX11_tells_98 : decode cX11_tells 98 = .ok (.aload_n 0, 1) := by decide +kernel
theorem dX11_tells_99 : decode cX11_tells 99 = .ok (.iload_n 1, 1) := by decide +kernel
theorem dX11_tells_100 : decode cX11_tells 100 = .ok (.invokevirtual 202, 3) := by decide +kernel
theorem dX11_tells_103 : decode cX11_tells 103 = .ok (.invokestatic 208, 3) := by decide +kernel
theorem dX11_tells_106 : decode cX11_tells 106 = .ok (.ireturn, 1) := by decide +kernel
theorem dX11_tells_107 : decode cX11_tells 107 = .ok (.aload_n 0, 1) := by decide +kernel
theorem dX11_tells_108 : decode cX11_tells 108 = .ok (.iload_n 1, 1) := by decide +kernel
theorem dX11_tells_109 : decode cX11_tells 109 = .ok (.invokevirtual 205, 3) := by decide +kernel
theorem dX11_tells_112 : decode cX11_tells 112 = .ok (.invokestatic 208, 3) := by decide +kernel
theorem dX11_tells_115 : decode cX11_tells 115 = .ok (.ireturn, 1) := by decide +kernel
theorem dX11_tells_116 : decode cX11_tells 116 = .ok (.aload_n 0, 1) := by decide +kernel
theorem dX11_tells_117 : decode cX11_tells 117 = .ok (.iload_n 1, 1) := by decide +kernel
theorem dX11_tells_118 : decode cX11_tells 118 = .ok (.bipush 7, 2) := by decide +kernel
theorem dX11_tells_120 : decode cX11_tells 120 = .ok (.invokevirtual 173, 3) := by decide +kernel
theorem dX11_tells_123 : decode cX11_tells 123 = .ok (.ireturn, 1) := by decide +kernel
theorem dX11_rule_0 : decode cX11_rule 0 = .ok (.iload_n 1, 1) := by decide +kernel
theorem dX11_rule_1 : decode cX11_rule 1 = .ok (.tableswitch 96 0 6 #[43, 48, 56, 64, 72, 80, 88], 43) := by decide +kernel
theorem dX11_rule_44 : decode cX11_rule 44 = .ok (.aload_n 0, 1) := by decide +kernel
theorem dX11_rule_45 : decode cX11_rule 45 = .ok (.getfield 73, 3) := by decide +kernel
theorem dX11_rule_48 : decode cX11_rule 48 = .ok (.ireturn, 1) := by decide +kernel
theorem dX11_rule_49 : decode cX11_rule 49 = .ok (.aload_n 0, 1) := by decide +kernel
theorem dX11_rule_50 : decode cX11_rule 50 = .ok (.getfield 7, 3) := by decide +kernel
theorem dX11_rule_53 : decode cX11_rule 53 = .ok (.bipush 24, 2) := by decide +kernel
theorem dX11_rule_55 : decode cX11_rule 55 = .ok (.iaload, 1) := by decide +kernel
theorem dX11_rule_56 : decode cX11_rule 56 = .ok (.ireturn, 1) := by decide +kernel
theorem dX11_rule_57 : decode cX11_rule 57 = .ok (.aload_n 0, 1) := by decide +kernel
theorem dX11_rule_58 : decode cX11_rule 58 = .ok (.getfield 7, 3) := by decide +kernel
theorem dX11_rule_61 : decode cX11_rule 61 = .ok (.bipush 25, 2) := by decide +kernel
theorem dX11_rule_63 : decode cX11_rule 63 = .ok (.iaload, 1) := by decide +kernel
theorem dX11_rule_64 : decode cX11_rule 64 = .ok (.ireturn, 1) := by decide +kernel
theorem dX11_rule_65 : decode cX11_rule 65 = .ok (.aload_n 0, 1) := by decide +kernel
theorem dX11_rule_66 : decode cX11_rule 66 = .ok (.getfield 7, 3) := by decide +kernel
theorem dX11_rule_69 : decode cX11_rule 69 = .ok (.bipush 26, 2) := by decide +kernel
theorem dX11_rule_71 : decode cX11_rule 71 = .ok (.iaload, 1) := by decide +kernel
theorem dX11_rule_72 : decode cX11_rule 72 = .ok (.ireturn, 1) := by decide +kernel
theorem dX11_rule_73 : decode cX11_rule 73 = .ok (.aload_n 0, 1) := by decide +kernel
theorem dX11_rule_74 : decode cX11_rule 74 = .ok (.getfield 7, 3) := by decide +kernel
theorem dX11_rule_77 : decode cX11_rule 77 = .ok (.bipush 45, 2) := by decide +kernel
theorem dX11_rule_79 : decode cX11_rule 79 = .ok (.iaload, 1) := by decide +kernel
theorem dX11_rule_80 : decode cX11_rule 80 = .ok (.ireturn, 1) := by decide +kernel
theorem dX11_rule_81 : decode cX11_rule 81 = .ok (.aload_n 0, 1) := by decide +kernel
theorem dX11_rule_82 : decode cX11_rule 82 = .ok (.getfield 7, 3) := by decide +kernel
theorem dX11_rule_85 : decode cX11_rule 85 = .ok (.bipush 46, 2) := by decide +kernel
theorem dX11_rule_87 : decode cX11_rule 87 = .ok (.iaload, 1) := by decide +kernel
theorem dX11_rule_88 : decode cX11_rule 88 = .ok (.ireturn, 1) := by decide +kernel
theorem dX11_rule_89 : decode cX11_rule 89 = .ok (.aload_n 0, 1) := by decide +kernel
theorem dX11_rule_90 : decode cX11_rule 90 = .ok (.getfield 7, 3) := by decide +kernel
theorem dX11_rule_93 : decode cX11_rule 93 = .ok (.bipush 95, 2) := by decide +kernel
theorem dX11_rule_95 : decode cX11_rule 95 = .ok (.iaload, 1) := by decide +kernel
theorem dX11_rule_96 : decode cX11_rule 96 = .ok (.ireturn, 1) := by decide +kernel
theorem dX11_rule_97 : decode cX11_rule 97 = .ok (.iconst (-1), 1) := by decide +kernel
theorem dX11_rule_98 : decode cX11_rule 98 = .ok (.ireturn, 1) := by decide +kernel
theorem dX11_heat_0 : decode cX11_heat 0 = .ok (.aload_n 0, 1) := by decide +kernel
theorem dX11_heat_1 : decode cX11_heat 1 = .ok (.iload_n 1, 1) := by decide +kernel
theorem dX11_heat_2 : decode cX11_heat 2 = .ok (.invokevirtual 212, 3) := by decide +kernel
theorem dX11_heat_5 : decode cX11_heat 5 = .ok (.ifCond .eq 14, 3) := by decide +kernel
theorem dX11_heat_8 : decode cX11_heat 8 = .ok (.aload_n 0, 1) := by decide +kernel
theorem dX11_heat_9 : decode cX11_heat 9 = .ok (.getfield 7, 3) := by decide +kernel
theorem dX11_heat_12 : decode cX11_heat 12 = .ok (.iconst 0, 1) := by decide +kernel
theorem dX11_heat_13 : decode cX11_heat 13 = .ok (.iload_n 1, 1) := by decide +kernel
theorem dX11_heat_14 : decode cX11_heat 14 = .ok (.iadd, 1) := by decide +kernel
theorem dX11_heat_15 : decode cX11_heat 15 = .ok (.iaload, 1) := by decide +kernel
theorem dX11_heat_16 : decode cX11_heat 16 = .ok (.goto 4, 3) := by decide +kernel
theorem dX11_heat_19 : decode cX11_heat 19 = .ok (.iconst (-1), 1) := by decide +kernel
theorem dX11_heat_20 : decode cX11_heat 20 = .ok (.ireturn, 1) := by decide +kernel
theorem dX11_wood_0 : decode cX11_wood 0 = .ok (.iload_n 1, 1) := by decide +kernel
theorem dX11_wood_1 : decode cX11_wood 1 = .ok (.i2l, 1) := by decide +kernel
theorem dX11_wood_2 : decode cX11_wood 2 = .ok (.lconst 0, 1) := by decide +kernel
theorem dX11_wood_3 : decode cX11_wood 3 = .ok (.aload_n 0, 1) := by decide +kernel
theorem dX11_wood_4 : decode cX11_wood 4 = .ok (.getfield 7, 3) := by decide +kernel
theorem dX11_wood_7 : decode cX11_wood 7 = .ok (.bipush 26, 2) := by decide +kernel
theorem dX11_wood_9 : decode cX11_wood 9 = .ok (.iaload, 1) := by decide +kernel
theorem dX11_wood_10 : decode cX11_wood 10 = .ok (.iconst 1, 1) := by decide +kernel
theorem dX11_wood_11 : decode cX11_wood 11 = .ok (.isub, 1) := by decide +kernel
theorem dX11_wood_12 : decode cX11_wood 12 = .ok (.i2l, 1) := by decide +kernel
theorem dX11_wood_13 : decode cX11_wood 13 = .ok (.invokestatic 78, 3) := by decide +kernel
theorem dX11_wood_16 : decode cX11_wood 16 = .ok (.ifCond .eq 31, 3) := by decide +kernel
theorem dX11_wood_19 : decode cX11_wood 19 = .ok (.iload_n 2, 1) := by decide +kernel
theorem dX11_wood_20 : decode cX11_wood 20 = .ok (.i2l, 1) := by decide +kernel
theorem dX11_wood_21 : decode cX11_wood 21 = .ok (.lconst 0, 1) := by decide +kernel
theorem dX11_wood_22 : decode cX11_wood 22 = .ok (.ldc2_w 215, 3) := by decide +kernel
theorem dX11_wood_25 : decode cX11_wood 25 = .ok (.invokestatic 78, 3) := by decide +kernel
theorem dX11_wood_28 : decode cX11_wood 28 = .ok (.ifCond .eq 19, 3) := by decide +kernel
theorem dX11_wood_31 : decode cX11_wood 31 = .ok (.aload_n 0, 1) := by decide +kernel
theorem dX11_wood_32 : decode cX11_wood 32 = .ok (.getfield 7, 3) := by decide +kernel
theorem dX11_wood_35 : decode cX11_wood 35 = .ok (.bipush 27, 2) := by decide +kernel
theorem dX11_wood_37 : decode cX11_wood 37 = .ok (.iconst 3, 1) := by decide +kernel
theorem dX11_wood_38 : decode cX11_wood 38 = .ok (.iload_n 1, 1) := by decide +kernel
theorem dX11_wood_39 : decode cX11_wood 39 = .ok (.imul, 1) := by decide +kernel
theorem dX11_wood_40 : decode cX11_wood 40 = .ok (.iadd, 1) := by decide +kernel
theorem dX11_wood_41 : decode cX11_wood 41 = .ok (.iload_n 2, 1) := by decide +kernel
theorem dX11_wood_42 : decode cX11_wood 42 = .ok (.iadd, 1) := by decide +kernel
theorem dX11_wood_43 : decode cX11_wood 43 = .ok (.iaload, 1) := by decide +kernel
theorem dX11_wood_44 : decode cX11_wood 44 = .ok (.goto 4, 3) := by decide +kernel
theorem dX11_wood_47 : decode cX11_wood 47 = .ok (.iconst (-1), 1) := by decide +kernel
theorem dX11_wood_48 : decode cX11_wood 48 = .ok (.ireturn, 1) := by decide +kernel
theorem dX11_spud_0 : decode cX11_spud 0 = .ok (.aload_n 0, 1) := by decide +kernel
theorem dX11_spud_1 : decode cX11_spud 1 = .ok (.iload_n 1, 1) := by decide +kernel
theorem dX11_spud_2 : decode cX11_spud 2 = .ok (.invokevirtual 217, 3) := by decide +kernel
theorem dX11_spud_5 : decode cX11_spud 5 = .ok (.ifCond .eq 15, 3) := by decide +kernel
theorem dX11_spud_8 : decode cX11_spud 8 = .ok (.iload_n 2, 1) := by decide +kernel
theorem dX11_spud_9 : decode cX11_spud 9 = .ok (.i2l, 1) := by decide +kernel
theorem dX11_spud_10 : decode cX11_spud 10 = .ok (.lconst 0, 1) := by decide +kernel
theorem dX11_spud_11 : decode cX11_spud 11 = .ok (.ldc2_w 220, 3) := by decide +kernel
theorem dX11_spud_14 : decode cX11_spud 14 = .ok (.invokestatic 78, 3) := by decide +kernel
theorem dX11_spud_17 : decode cX11_spud 17 = .ok (.ifCond .ne 5, 3) := by decide +kernel
theorem dX11_spud_20 : decode cX11_spud 20 = .ok (.iconst (-1), 1) := by decide +kernel
theorem dX11_spud_21 : decode cX11_spud 21 = .ok (.ireturn, 1) := by decide +kernel
theorem dX11_spud_22 : decode cX11_spud 22 = .ok (.aload_n 0, 1) := by decide +kernel
theorem dX11_spud_23 : decode cX11_spud 23 = .ok (.invokevirtual 222, 3) := by decide +kernel
theorem dX11_spud_26 : decode cX11_spud 26 = .ok (.aload_n 0, 1) := by decide +kernel
theorem dX11_spud_27 : decode cX11_spud 27 = .ok (.iload_n 1, 1) := by decide +kernel
theorem dX11_spud_28 : decode cX11_spud 28 = .ok (.iload_n 2, 1) := by decide +kernel
theorem dX11_spud_29 : decode cX11_spud 29 = .ok (.invokevirtual 225, 3) := by decide +kernel
theorem dX11_spud_32 : decode cX11_spud 32 = .ok (.ireturn, 1) := by decide +kernel
theorem dX11_becomes_0 : decode cX11_becomes 0 = .ok (.aload_n 0, 1) := by decide +kernel
theorem dX11_becomes_1 : decode cX11_becomes 1 = .ok (.getfield 7, 3) := by decide +kernel
theorem dX11_becomes_4 : decode cX11_becomes 4 = .ok (.iload_n 1, 1) := by decide +kernel
theorem dX11_becomes_5 : decode cX11_becomes 5 = .ok (.iaload, 1) := by decide +kernel
theorem dX11_becomes_6 : decode cX11_becomes 6 = .ok (.istore_n 3, 1) := by decide +kernel
theorem dX11_becomes_7 : decode cX11_becomes 7 = .ok (.aload_n 0, 1) := by decide +kernel
theorem dX11_becomes_8 : decode cX11_becomes 8 = .ok (.getfield 7, 3) := by decide +kernel
theorem dX11_becomes_11 : decode cX11_becomes 11 = .ok (.iload_n 1, 1) := by decide +kernel
theorem dX11_becomes_12 : decode cX11_becomes 12 = .ok (.iload_n 2, 1) := by decide +kernel
theorem dX11_becomes_13 : decode cX11_becomes 13 = .ok (.iastore, 1) := by decide +kernel
theorem dX11_becomes_14 : decode cX11_becomes 14 = .ok (.iload_n 3, 1) := by decide +kernel
theorem dX11_becomes_15 : decode cX11_becomes 15 = .ok (.ireturn, 1) := by decide +kernel
theorem dX11_fan_0 : decode cX11_fan 0 = .ok (.aload_n 0, 1) := by decide +kernel
theorem dX11_fan_1 : decode cX11_fan 1 = .ok (.iload_n 1, 1) := by decide +kernel
theorem dX11_fan_2 : decode cX11_fan 2 = .ok (.invokevirtual 212, 3) := by decide +kernel
theorem dX11_fan_5 : decode cX11_fan 5 = .ok (.ifCond .eq 26, 3) := by decide +kernel
theorem dX11_fan_8 : decode cX11_fan 8 = .ok (.iload_n 2, 1) := by decide +kernel
theorem dX11_fan_9 : decode cX11_fan 9 = .ok (.i2l, 1) := by decide +kernel
theorem dX11_fan_10 : decode cX11_fan 10 = .ok (.lconst 0, 1) := by decide +kernel
theorem dX11_fan_11 : decode cX11_fan 11 = .ok (.ldc2_w 228, 3) := by decide +kernel
theorem dX11_fan_14 : decode cX11_fan 14 = .ok (.invokestatic 78, 3) := by decide +kernel
theorem dX11_fan_17 : decode cX11_fan 17 = .ok (.ifCond .eq 14, 3) := by decide +kernel
theorem dX11_fan_20 : decode cX11_fan 20 = .ok (.aload_n 0, 1) := by decide +kernel
theorem dX11_fan_21 : decode cX11_fan 21 = .ok (.iconst 0, 1) := by decide +kernel
theorem dX11_fan_22 : decode cX11_fan 22 = .ok (.iload_n 1, 1) := by decide +kernel
theorem dX11_fan_23 : decode cX11_fan 23 = .ok (.iadd, 1) := by decide +kernel
theorem dX11_fan_24 : decode cX11_fan 24 = .ok (.iload_n 2, 1) := by decide +kernel
theorem dX11_fan_25 : decode cX11_fan 25 = .ok (.invokevirtual 230, 3) := by decide +kernel
theorem dX11_fan_28 : decode cX11_fan 28 = .ok (.goto 4, 3) := by decide +kernel
theorem dX11_fan_31 : decode cX11_fan 31 = .ok (.iconst (-1), 1) := by decide +kernel
theorem dX11_fan_32 : decode cX11_fan 32 = .ok (.ireturn, 1) := by decide +kernel
theorem dX11_ash_0 : decode cX11_ash 0 = .ok (.iload_n 1, 1) := by decide +kernel
theorem dX11_ash_1 : decode cX11_ash 1 = .ok (.i2l, 1) := by decide +kernel
theorem dX11_ash_2 : decode cX11_ash 2 = .ok (.lconst 0, 1) := by decide +kernel
theorem dX11_ash_3 : decode cX11_ash 3 = .ok (.lconst 1, 1) := by decide +kernel
theorem dX11_ash_4 : decode cX11_ash 4 = .ok (.invokestatic 78, 3) := by decide +kernel
theorem dX11_ash_7 : decode cX11_ash 7 = .ok (.ifCond .eq 27, 3) := by decide +kernel
theorem dX11_ash_10 : decode cX11_ash 10 = .ok (.iload_n 2, 1) := by decide +kernel
theorem dX11_ash_11 : decode cX11_ash 11 = .ok (.i2l, 1) := by decide +kernel
theorem dX11_ash_12 : decode cX11_ash 12 = .ok (.lconst 0, 1) := by decide +kernel
theorem dX11_ash_13 : decode cX11_ash 13 = .ok (.ldc2_w 220, 3) := by decide +kernel
theorem dX11_ash_16 : decode cX11_ash 16 = .ok (.invokestatic 78, 3) := by decide +kernel
theorem dX11_ash_19 : decode cX11_ash 19 = .ok (.ifCond .eq 15, 3) := by decide +kernel
theorem dX11_ash_22 : decode cX11_ash 22 = .ok (.aload_n 0, 1) := by decide +kernel
theorem dX11_ash_23 : decode cX11_ash 23 = .ok (.bipush 24, 2) := by decide +kernel
theorem dX11_ash_25 : decode cX11_ash 25 = .ok (.iload_n 1, 1) := by decide +kernel
theorem dX11_ash_26 : decode cX11_ash 26 = .ok (.iadd, 1) := by decide +kernel
theorem dX11_ash_27 : decode cX11_ash 27 = .ok (.iload_n 2, 1) := by decide +kernel
theorem dX11_ash_28 : decode cX11_ash 28 = .ok (.invokevirtual 230, 3) := by decide +kernel
theorem dX11_ash_31 : decode cX11_ash 31 = .ok (.goto 4, 3) := by decide +kernel
theorem dX11_ash_34 : decode cX11_ash 34 = .ok (.iconst (-1), 1) := by decide +kernel
theorem dX11_ash_35 : decode cX11_ash 35 = .ok (.ireturn, 1) := by decide +kernel
theorem dX11_stoke_0 : decode cX11_stoke 0 = .ok (.aload_n 0, 1) := by decide +kernel
theorem dX11_stoke_1 : decode cX11_stoke 1 = .ok (.iload_n 1, 1) := by decide +kernel
theorem dX11_stoke_2 : decode cX11_stoke 2 = .ok (.invokevirtual 233, 3) := by decide +kernel
theorem dX11_stoke_5 : decode cX11_stoke 5 = .ok (.ifCond .eq 27, 3) := by decide +kernel
theorem dX11_stoke_8 : decode cX11_stoke 8 = .ok (.iload_n 2, 1) := by decide +kernel
theorem dX11_stoke_9 : decode cX11_stoke 9 = .ok (.i2l, 1) := by decide +kernel
theorem dX11_stoke_10 : decode cX11_stoke 10 = .ok (.lconst 1, 1) := by decide +kernel
theorem dX11_stoke_11 : decode cX11_stoke 11 = .ok (.ldc2_w 228, 3) := by decide +kernel
theorem dX11_stoke_14 : decode cX11_stoke 14 = .ok (.invokestatic 78, 3) := by decide +kernel
theorem dX11_stoke_17 : decode cX11_stoke 17 = .ok (.ifCond .eq 15, 3) := by decide +kernel
theorem dX11_stoke_20 : decode cX11_stoke 20 = .ok (.iload_n 3, 1) := by decide +kernel
theorem dX11_stoke_21 : decode cX11_stoke 21 = .ok (.i2l, 1) := by decide +kernel
theorem dX11_stoke_22 : decode cX11_stoke 22 = .ok (.lconst 1, 1) := by decide +kernel
theorem dX11_stoke_23 : decode cX11_stoke 23 = .ok (.ldc2_w 220, 3) := by decide +kernel
theorem dX11_stoke_26 : decode cX11_stoke 26 = .ok (.invokestatic 78, 3) := by decide +kernel
theorem dX11_stoke_29 : decode cX11_stoke 29 = .ok (.ifCond .ne 5, 3) := by decide +kernel
theorem dX11_stoke_32 : decode cX11_stoke 32 = .ok (.iconst (-1), 1) := by decide +kernel
theorem dX11_stoke_33 : decode cX11_stoke 33 = .ok (.ireturn, 1) := by decide +kernel
theorem dX11_stoke_34 : decode cX11_stoke 34 = .ok (.aload_n 0, 1) := by decide +kernel
theorem dX11_stoke_35 : decode cX11_stoke 35 = .ok (.getfield 7, 3) := by decide +kernel
theorem dX11_stoke_38 : decode cX11_stoke 38 = .ok (.bipush 26, 2) := by decide +kernel
theorem dX11_stoke_40 : decode cX11_stoke 40 = .ok (.iaload, 1) := by decide +kernel
theorem dX11_stoke_41 : decode cX11_stoke 41 = .ok (.bipush 6, 2) := by decide +kernel
theorem dX11_stoke_43 : decode cX11_stoke 43 = .ok (.if_icmp .ne 6, 3) := by decide +kernel
theorem dX11_stoke_46 : decode cX11_stoke 46 = .ok (.bipush (-3), 2) := by decide +kernel
theorem dX11_stoke_48 : decode cX11_stoke 48 = .ok (.ireturn, 1) := by decide +kernel
theorem dX11_stoke_49 : decode cX11_stoke 49 = .ok (.bipush 27, 2) := by decide +kernel
theorem dX11_stoke_51 : decode cX11_stoke 51 = .ok (.iconst 3, 1) := by decide +kernel
theorem dX11_stoke_52 : decode cX11_stoke 52 = .ok (.aload_n 0, 1) := by decide +kernel
theorem dX11_stoke_53 : decode cX11_stoke 53 = .ok (.getfield 7, 3) := by decide +kernel
theorem dX11_stoke_56 : decode cX11_stoke 56 = .ok (.bipush 26, 2) := by decide +kernel
theorem dX11_stoke_58 : decode cX11_stoke 58 = .ok (.iaload, 1) := by decide +kernel
theorem dX11_stoke_59 : decode cX11_stoke 59 = .ok (.imul, 1) := by decide +kernel
theorem dX11_stoke_60 : decode cX11_stoke 60 = .ok (.iadd, 1) := by decide +kernel
theorem dX11_stoke_61 : decode cX11_stoke 61 = .ok (.istore 4, 2) := by decide +kernel
theorem dX11_stoke_63 : decode cX11_stoke 63 = .ok (.aload_n 0, 1) := by decide +kernel
theorem dX11_stoke_64 : decode cX11_stoke 64 = .ok (.getfield 7, 3) := by decide +kernel
theorem dX11_stoke_67 : decode cX11_stoke 67 = .ok (.iload 4, 2) := by decide +kernel
theorem dX11_stoke_69 : decode cX11_stoke 69 = .ok (.iload_n 1, 1) := by decide +kernel
theorem dX11_stoke_70 : decode cX11_stoke 70 = .ok (.iastore, 1) := by decide +kernel
theorem dX11_stoke_71 : decode cX11_stoke 71 = .ok (.aload_n 0, 1) := by decide +kernel
theorem dX11_stoke_72 : decode cX11_stoke 72 = .ok (.getfield 7, 3) := by decide +kernel
theorem dX11_stoke_75 : decode cX11_stoke 75 = .ok (.iload 4, 2) := by decide +kernel
theorem dX11_stoke_77 : decode cX11_stoke 77 = .ok (.iconst 1, 1) := by decide +kernel
theorem dX11_stoke_78 : decode cX11_stoke 78 = .ok (.iadd, 1) := by decide +kernel
theorem dX11_stoke_79 : decode cX11_stoke 79 = .ok (.iload_n 2, 1) := by decide +kernel
theorem dX11_stoke_80 : decode cX11_stoke 80 = .ok (.iastore, 1) := by decide +kernel
theorem dX11_stoke_81 : decode cX11_stoke 81 = .ok (.aload_n 0, 1) := by decide +kernel
theorem dX11_stoke_82 : decode cX11_stoke 82 = .ok (.getfield 7, 3) := by decide +kernel
theorem dX11_stoke_85 : decode cX11_stoke 85 = .ok (.iload 4, 2) := by decide +kernel
theorem dX11_stoke_87 : decode cX11_stoke 87 = .ok (.iconst 2, 1) := by decide +kernel
theorem dX11_stoke_88 : decode cX11_stoke 88 = .ok (.iadd, 1) := by decide +kernel
theorem dX11_stoke_89 : decode cX11_stoke 89 = .ok (.iload_n 3, 1) := by decide +kernel
theorem dX11_stoke_90 : decode cX11_stoke 90 = .ok (.iastore, 1) := by decide +kernel
theorem dX11_stoke_91 : decode cX11_stoke 91 = .ok (.aload_n 0, 1) := by decide +kernel
theorem dX11_stoke_92 : decode cX11_stoke 92 = .ok (.getfield 7, 3) := by decide +kernel
theorem dX11_stoke_95 : decode cX11_stoke 95 = .ok (.bipush 26, 2) := by decide +kernel
theorem dX11_stoke_97 : decode cX11_stoke 97 = .ok (.dup2, 1) := by decide +kernel
theorem dX11_stoke_98 : decode cX11_stoke 98 = .ok (.iaload, 1) := by decide +kernel
theorem dX11_stoke_99 : decode cX11_stoke 99 = .ok (.iconst 1, 1) := by decide +kernel
theorem dX11_stoke_100 : decode cX11_stoke 100 = .ok (.iadd, 1) := by decide +kernel
theorem dX11_stoke_101 : decode cX11_stoke 101 = .ok (.iastore, 1) := by decide +kernel
theorem dX11_stoke_102 : decode cX11_stoke 102 = .ok (.aload_n 0, 1) := by decide +kernel
theorem dX11_stoke_103 : decode cX11_stoke 103 = .ok (.getfield 7, 3) := by decide +kernel
theorem dX11_stoke_106 : decode cX11_stoke 106 = .ok (.bipush 26, 2) := by decide +kernel
theorem dX11_stoke_108 : decode cX11_stoke 108 = .ok (.iaload, 1) := by decide +kernel
theorem dX11_stoke_109 : decode cX11_stoke 109 = .ok (.ireturn, 1) := by decide +kernel
theorem dX11_add_0 : decode cX11_add 0 = .ok (.iload_n 1, 1) := by decide +kernel
theorem dX11_add_1 : decode cX11_add 1 = .ok (.i2l, 1) := by decide +kernel
theorem dX11_add_2 : decode cX11_add 2 = .ok (.lconst 1, 1) := by decide +kernel
theorem dX11_add_3 : decode cX11_add 3 = .ok (.ldc2_w 220, 3) := by decide +kernel
theorem dX11_add_6 : decode cX11_add 6 = .ok (.invokestatic 78, 3) := by decide +kernel
theorem dX11_add_9 : decode cX11_add 9 = .ok (.ifCond .eq 15, 3) := by decide +kernel
theorem dX11_add_12 : decode cX11_add 12 = .ok (.iload_n 2, 1) := by decide +kernel
theorem dX11_add_13 : decode cX11_add 13 = .ok (.i2l, 1) := by decide +kernel
theorem dX11_add_14 : decode cX11_add 14 = .ok (.lconst 0, 1) := by decide +kernel
theorem dX11_add_15 : decode cX11_add 15 = .ok (.ldc2_w 215, 3) := by decide +kernel
theorem dX11_add_18 : decode cX11_add 18 = .ok (.invokestatic 78, 3) := by decide +kernel
theorem dX11_add_21 : decode cX11_add 21 = .ok (.ifCond .ne 5, 3) := by decide +kernel
theorem dX11_add_24 : decode cX11_add 24 = .ok (.iconst (-1), 1) := by decide +kernel
theorem dX11_add_25 : decode cX11_add 25 = .ok (.ireturn, 1) := by decide +kernel
theorem dX11_add_26 : decode cX11_add 26 = .ok (.aload_n 0, 1) := by decide +kernel
theorem dX11_add_27 : decode cX11_add 27 = .ok (.getfield 7, 3) := by decide +kernel
theorem dX11_add_30 : decode cX11_add 30 = .ok (.bipush 46, 2) := by decide +kernel
theorem dX11_add_32 : decode cX11_add 32 = .ok (.iaload, 1) := by decide +kernel
theorem dX11_add_33 : decode cX11_add 33 = .ok (.bipush 6, 2) := by decide +kernel
theorem dX11_add_35 : decode cX11_add 35 = .ok (.if_icmp .ne 6, 3) := by decide +kernel
theorem dX11_add_38 : decode cX11_add 38 = .ok (.bipush (-3), 2) := by decide +kernel
theorem dX11_add_40 : decode cX11_add 40 = .ok (.ireturn, 1) := by decide +kernel
theorem dX11_add_41 : decode cX11_add 41 = .ok (.bipush 47, 2) := by decide +kernel
theorem dX11_add_43 : decode cX11_add 43 = .ok (.bipush 8, 2) := by decide +kernel
theorem dX11_add_45 : decode cX11_add 45 = .ok (.aload_n 0, 1) := by decide +kernel
theorem dX11_add_46 : decode cX11_add 46 = .ok (.getfield 7, 3) := by decide +kernel
theorem dX11_add_49 : decode cX11_add 49 = .ok (.bipush 46, 2) := by decide +kernel
theorem dX11_add_51 : decode cX11_add 51 = .ok (.iaload, 1) := by decide +kernel
theorem dX11_add_52 : decode cX11_add 52 = .ok (.imul, 1) := by decide +kernel
theorem dX11_add_53 : decode cX11_add 53 = .ok (.iadd, 1) := by decide +kernel
theorem dX11_add_54 : decode cX11_add 54 = .ok (.istore_n 3, 1) := by decide +kernel
theorem dX11_add_55 : decode cX11_add 55 = .ok (.iconst 0, 1) := by decide +kernel
theorem dX11_add_56 : decode cX11_add 56 = .ok (.istore 4, 2) := by decide +kernel
theorem dX11_add_58 : decode cX11_add 58 = .ok (.iload 4, 2) := by decide +kernel
theorem dX11_add_60 : decode cX11_add 60 = .ok (.bipush 8, 2) := by decide +kernel
theorem dX11_add_62 : decode cX11_add 62 = .ok (.if_icmp .ge 37, 3) := by decide +kernel
theorem dX11_add_65 : decode cX11_add 65 = .ok (.aload_n 0, 1) := by decide +kernel
theorem dX11_add_66 : decode cX11_add 66 = .ok (.getfield 7, 3) := by decide +kernel
theorem dX11_add_69 : decode cX11_add 69 = .ok (.iload_n 3, 1) := by decide +kernel
theorem dX11_add_70 : decode cX11_add 70 = .ok (.iload 4, 2) := by decide +kernel
theorem dX11_add_72 : decode cX11_add 72 = .ok (.iadd, 1) := by decide +kernel
theorem dX11_add_73 : decode cX11_add 73 = .ok (.iload 4, 2) := by decide +kernel
theorem dX11_add_75 : decode cX11_add 75 = .ok (.iconst 2, 1) := by decide +kernel
theorem dX11_add_76 : decode cX11_add 76 = .ok (.if_icmp .eq 10, 3) := by decide +kernel
theorem dX11_add_79 : decode cX11_add 79 = .ok (.iload 4, 2) := by decide +kernel
theorem dX11_add_81 : decode cX11_add 81 = .ok (.bipush 7, 2) := by decide +kernel
theorem dX11_add_83 : decode cX11_add 83 = .ok (.if_icmp .ne 8, 3) := by decide +kernel
theorem dX11_add_86 : decode cX11_add 86 = .ok (.bipush (-4), 2) := by decide +kernel
theorem dX11_add_88 : decode cX11_add 88 = .ok (.goto 4, 3) := by decide +kernel
theorem dX11_add_91 : decode cX11_add 91 = .ok (.iconst 0, 1) := by decide +kernel
theorem dX11_add_92 : decode cX11_add 92 = .ok (.iastore, 1) := by decide +kernel
theorem dX11_add_93 : decode cX11_add 93 = .ok (.iinc 4 1, 3) := by decide +kernel
theorem dX11_add_96 : decode cX11_add 96 = .ok (.goto (-38), 3) := by decide +kernel
theorem dX11_add_99 : decode cX11_add 99 = .ok (.aload_n 0, 1) := by decide +kernel
theorem dX11_add_100 : decode cX11_add 100 = .ok (.getfield 7, 3) := by decide +kernel
theorem dX11_add_103 : decode cX11_add 103 = .ok (.iload_n 3, 1) := by decide +kernel
theorem dX11_add_104 : decode cX11_add 104 = .ok (.iconst 0, 1) := by decide +kernel
theorem dX11_add_105 : decode cX11_add 105 = .ok (.iadd, 1) := by decide +kernel
theorem dX11_add_106 : decode cX11_add 106 = .ok (.iload_n 1, 1) := by decide +kernel
theorem dX11_add_107 : decode cX11_add 107 = .ok (.iastore, 1) := by decide +kernel
theorem dX11_add_108 : decode cX11_add 108 = .ok (.aload_n 0, 1) := by decide +kernel
theorem dX11_add_109 : decode cX11_add 109 = .ok (.getfield 7, 3) := by decide +kernel
theorem dX11_add_112 : decode cX11_add 112 = .ok (.iload_n 3, 1) := by decide +kernel
theorem dX11_add_113 : decode cX11_add 113 = .ok (.iconst 1, 1) := by decide +kernel
theorem dX11_add_114 : decode cX11_add 114 = .ok (.iadd, 1) := by decide +kernel
theorem dX11_add_115 : decode cX11_add 115 = .ok (.iload_n 2, 1) := by decide +kernel
theorem dX11_add_116 : decode cX11_add 116 = .ok (.iastore, 1) := by decide +kernel
theorem dX11_add_117 : decode cX11_add 117 = .ok (.aload_n 0, 1) := by decide +kernel
theorem dX11_add_118 : decode cX11_add 118 = .ok (.getfield 7, 3) := by decide +kernel
theorem dX11_add_121 : decode cX11_add 121 = .ok (.bipush 46, 2) := by decide +kernel
theorem dX11_add_123 : decode cX11_add 123 = .ok (.dup2, 1) := by decide +kernel
theorem dX11_add_124 : decode cX11_add 124 = .ok (.iaload, 1) := by decide +kernel
theorem dX11_add_125 : decode cX11_add 125 = .ok (.iconst 1, 1) := by decide +kernel
theorem dX11_add_126 : decode cX11_add 126 = .ok (.iadd, 1) := by decide +kernel
theorem dX11_add_127 : decode cX11_add 127 = .ok (.iastore, 1) := by decide +kernel
theorem dX11_add_128 : decode cX11_add 128 = .ok (.aload_n 0, 1) := by decide +kernel
theorem dX11_add_129 : decode cX11_add 129 = .ok (.getfield 7, 3) := by decide +kernel
theorem dX11_add_132 : decode cX11_add 132 = .ok (.bipush 46, 2) := by decide +kernel
theorem dX11_add_134 : decode cX11_add 134 = .ok (.iaload, 1) := by decide +kernel
theorem dX11_add_135 : decode cX11_add 135 = .ok (.ireturn, 1) := by decide +kernel
theorem dX11_dig_0 : decode cX11_dig 0 = .ok (.aload_n 0, 1) := by decide +kernel
theorem dX11_dig_1 : decode cX11_dig 1 = .ok (.iload_n 1, 1) := by decide +kernel
theorem dX11_dig_2 : decode cX11_dig 2 = .ok (.invokevirtual 217, 3) := by decide +kernel
theorem dX11_dig_5 : decode cX11_dig 5 = .ok (.ifCond .eq 17, 3) := by decide +kernel
theorem dX11_dig_8 : decode cX11_dig 8 = .ok (.iload_n 2, 1) := by decide +kernel
theorem dX11_dig_9 : decode cX11_dig 9 = .ok (.bipush (-4), 2) := by decide +kernel
theorem dX11_dig_11 : decode cX11_dig 11 = .ok (.if_icmp .eq 13, 3) := by decide +kernel
theorem dX11_dig_14 : decode cX11_dig 14 = .ok (.aload_n 0, 1) := by decide +kernel
theorem dX11_dig_15 : decode cX11_dig 15 = .ok (.iload_n 2, 1) := by decide +kernel
theorem dX11_dig_16 : decode cX11_dig 16 = .ok (.invokevirtual 212, 3) := by decide +kernel
theorem dX11_dig_19 : decode cX11_dig 19 = .ok (.ifCond .ne 5, 3) := by decide +kernel
theorem dX11_dig_22 : decode cX11_dig 22 = .ok (.iconst (-1), 1) := by decide +kernel
theorem dX11_dig_23 : decode cX11_dig 23 = .ok (.ireturn, 1) := by decide +kernel
theorem dX11_dig_24 : decode cX11_dig 24 = .ok (.iconst 1, 1) := by decide +kernel
theorem dX11_dig_25 : decode cX11_dig 25 = .ok (.istore_n 3, 1) := by decide +kernel
theorem dX11_dig_26 : decode cX11_dig 26 = .ok (.iconst 0, 1) := by decide +kernel
theorem dX11_dig_27 : decode cX11_dig 27 = .ok (.istore 4, 2) := by decide +kernel
theorem dX11_dig_29 : decode cX11_dig 29 = .ok (.iload 4, 2) := by decide +kernel
theorem dX11_dig_31 : decode cX11_dig 31 = .ok (.aload_n 0, 1) := by decide +kernel
theorem dX11_dig_32 : decode cX11_dig 32 = .ok (.getfield 7, 3) := by decide +kernel
theorem dX11_dig_35 : decode cX11_dig 35 = .ok (.bipush 46, 2) := by decide +kernel
theorem dX11_dig_37 : decode cX11_dig 37 = .ok (.iaload, 1) := by decide +kernel
theorem dX11_dig_38 : decode cX11_dig 38 = .ok (.if_icmp .ge 50, 3) := by decide +kernel
theorem dX11_dig_41 : decode cX11_dig 41 = .ok (.iload_n 3, 1) := by decide +kernel
theorem dX11_dig_42 : decode cX11_dig 42 = .ok (.ifCond .eq 38, 3) := by decide +kernel
theorem dX11_dig_45 : decode cX11_dig 45 = .ok (.iload_n 2, 1) := by decide +kernel
theorem dX11_dig_46 : decode cX11_dig 46 = .ok (.bipush (-4), 2) := by decide +kernel
theorem dX11_dig_48 : decode cX11_dig 48 = .ok (.if_icmp .eq 28, 3) := by decide +kernel
theorem dX11_dig_51 : decode cX11_dig 51 = .ok (.iload 4, 2) := by decide +kernel
theorem dX11_dig_53 : decode cX11_dig 53 = .ok (.iload_n 1, 1) := by decide +kernel
theorem dX11_dig_54 : decode cX11_dig 54 = .ok (.if_icmp .eq 22, 3) := by decide +kernel
theorem dX11_dig_57 : decode cX11_dig 57 = .ok (.aload_n 0, 1) := by decide +kernel
theorem dX11_dig_58 : decode cX11_dig 58 = .ok (.getfield 7, 3) := by decide +kernel
theorem dX11_dig_61 : decode cX11_dig 61 = .ok (.bipush 47, 2) := by decide +kernel
theorem dX11_dig_63 : decode cX11_dig 63 = .ok (.bipush 8, 2) := by decide +kernel
theorem dX11_dig_65 : decode cX11_dig 65 = .ok (.iload 4, 2) := by decide +kernel
theorem dX11_dig_67 : decode cX11_dig 67 = .ok (.imul, 1) := by decide +kernel
theorem dX11_dig_68 : decode cX11_dig 68 = .ok (.iadd, 1) := by decide +kernel
theorem dX11_dig_69 : decode cX11_dig 69 = .ok (.iconst 2, 1) := by decide +kernel
theorem dX11_dig_70 : decode cX11_dig 70 = .ok (.iadd, 1) := by decide +kernel
theorem dX11_dig_71 : decode cX11_dig 71 = .ok (.iaload, 1) := by decide +kernel
theorem dX11_dig_72 : decode cX11_dig 72 = .ok (.iload_n 2, 1) := by decide +kernel
theorem dX11_dig_73 : decode cX11_dig 73 = .ok (.if_icmp .eq 7, 3) := by decide +kernel
theorem dX11_dig_76 : decode cX11_dig 76 = .ok (.iconst 1, 1) := by decide +kernel
theorem dX11_dig_77 : decode cX11_dig 77 = .ok (.goto 4, 3) := by decide +kernel
theorem dX11_dig_80 : decode cX11_dig 80 = .ok (.iconst 0, 1) := by decide +kernel
theorem dX11_dig_81 : decode cX11_dig 81 = .ok (.istore_n 3, 1) := by decide +kernel
theorem dX11_dig_82 : decode cX11_dig 82 = .ok (.iinc 4 1, 3) := by decide +kernel
theorem dX11_dig_85 : decode cX11_dig 85 = .ok (.goto (-56), 3) := by decide +kernel
theorem dX11_dig_88 : decode cX11_dig 88 = .ok (.iload_n 3, 1) := by decide +kernel
theorem dX11_dig_89 : decode cX11_dig 89 = .ok (.ifCond .eq 20, 3) := by decide +kernel
theorem dX11_dig_92 : decode cX11_dig 92 = .ok (.aload_n 0, 1) := by decide +kernel
theorem dX11_dig_93 : decode cX11_dig 93 = .ok (.bipush 47, 2) := by decide +kernel
theorem dX11_dig_95 : decode cX11_dig 95 = .ok (.bipush 8, 2) := by decide +kernel
theorem dX11_dig_97 : decode cX11_dig 97 = .ok (.iload_n 1, 1) := by decide +kernel
theorem dX11_dig_98 : decode cX11_dig 98 = .ok (.imul, 1) := by decide +kernel
theorem dX11_dig_99 : decode cX11_dig 99 = .ok (.iadd, 1) := by decide +kernel
theorem dX11_dig_100 : decode cX11_dig 100 = .ok (.iconst 2, 1) := by decide +kernel
theorem dX11_dig_101 : decode cX11_dig 101 = .ok (.iadd, 1) := by decide +kernel
theorem dX11_dig_102 : decode cX11_dig 102 = .ok (.iload_n 2, 1) := by decide +kernel
theorem dX11_dig_103 : decode cX11_dig 103 = .ok (.invokevirtual 230, 3) := by decide +kernel
theorem dX11_dig_106 : decode cX11_dig 106 = .ok (.goto 5, 3) := by decide +kernel
theorem dX11_dig_109 : decode cX11_dig 109 = .ok (.bipush (-2), 2) := by decide +kernel
theorem dX11_dig_111 : decode cX11_dig 111 = .ok (.ireturn, 1) := by decide +kernel
theorem dX11_turn_0 : decode cX11_turn 0 = .ok (.aload_n 0, 1) := by decide +kernel
theorem dX11_turn_1 : decode cX11_turn 1 = .ok (.iload_n 1, 1) := by decide +kernel
theorem dX11_turn_2 : decode cX11_turn 2 = .ok (.invokevirtual 217, 3) := by decide +kernel
theorem dX11_turn_5 : decode cX11_turn 5 = .ok (.ifCond .ne 5, 3) := by decide +kernel
