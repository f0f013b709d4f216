theorem dX10_init_0 : decode cX10_init 0 = .ok (.aload_n 0, 1) := by decide +kernel
theorem dX10_init_1 : decode cX10_init 1 = .ok (.invokespecial 3, 3) := by decide +kernel
theorem dX10_init_4 : decode cX10_init 4 = .ok (.aload_n 0, 1) := by decide +kernel
theorem dX10_init_5 : decode cX10_init 5 = .ok (.new 9, 3) := by decide +kernel
theorem dX10_init_8 : decode cX10_init 8 = .ok (.dup, 1) := by decide +kernel
theorem dX10_init_9 : decode cX10_init 9 = .ok (.invokespecial 11, 3) := by decide +kernel
theorem dX10_init_12 : decode cX10_init 12 = .ok (.putfield 12, 3) := by decide +kernel
theorem dX10_init_15 : decode cX10_init 15 = .ok (.aload_n 0, 1) := by decide +kernel
theorem dX10_init_16 : decode cX10_init 16 = .ok (.new 9, 3) := by decide +kernel
theorem dX10_init_19 : decode cX10_init 19 = .ok (.dup, 1) := by decide +kernel
theorem dX10_init_20 : decode cX10_init 20 = .ok (.invokespecial 11, 3) := by decide +kernel
theorem dX10_init_23 : decode cX10_init 23 = .ok (.putfield 16, 3) := by decide +kernel
theorem dX10_init_26 : decode cX10_init 26 = .ok (.aload_n 0, 1) := by decide +kernel
theorem dX10_init_27 : decode cX10_init 27 = .ok (.iconst 2, 1) := by decide +kernel
theorem dX10_init_28 : decode cX10_init 28 = .ok (.anewarray 9, 3) := by decide +kernel
theorem dX10_init_31 : decode cX10_init 31 = .ok (.dup, 1) := by decide +kernel
theorem dX10_init_32 : decode cX10_init 32 = .ok (.iconst 0, 1) := by decide +kernel
theorem dX10_init_33 : decode cX10_init 33 = .ok (.new 9, 3) := by decide +kernel
theorem dX10_init_36 : decode cX10_init 36 = .ok (.dup, 1) := by decide +kernel
theorem dX10_init_37 : decode cX10_init 37 = .ok (.invokespecial 11, 3) := by decide +kernel
theorem dX10_init_40 : decode cX10_init 40 = .ok (.aastore, 1) := by decide +kernel
theorem dX10_init_41 : decode cX10_init 41 = .ok (.dup, 1) := by decide +kernel
theorem dX10_init_42 : decode cX10_init 42 = .ok (.iconst 1, 1) := by decide +kernel
theorem dX10_init_43 : decode cX10_init 43 = .ok (.new 9, 3) := by decide +kernel
theorem dX10_init_46 : decode cX10_init 46 = .ok (.dup, 1) := by decide +kernel
theorem dX10_init_47 : decode cX10_init 47 = .ok (.invokespecial 11, 3) := by decide +kernel
theorem dX10_init_50 : decode cX10_init 50 = .ok (.aastore, 1) := by decide +kernel
theorem dX10_init_51 : decode cX10_init 51 = .ok (.putfield 19, 3) := by decide +kernel
theorem dX10_init_54 : decode cX10_init 54 = .ok (.aload_n 0, 1) := by decide +kernel
theorem dX10_init_55 : decode cX10_init 55 = .ok (.iconst 2, 1) := by decide +kernel
theorem dX10_init_56 : decode cX10_init 56 = .ok (.newarray .boolean, 2) := by decide +kernel
theorem dX10_init_58 : decode cX10_init 58 = .ok (.putfield 23, 3) := by decide +kernel
theorem dX10_init_61 : decode cX10_init 61 = .ok (.aload_n 0, 1) := by decide +kernel
theorem dX10_init_62 : decode cX10_init 62 = .ok (.new 27, 3) := by decide +kernel
theorem dX10_init_65 : decode cX10_init 65 = .ok (.dup, 1) := by decide +kernel
theorem dX10_init_66 : decode cX10_init 66 = .ok (.invokespecial 29, 3) := by decide +kernel
theorem dX10_init_69 : decode cX10_init 69 = .ok (.putfield 30, 3) := by decide +kernel
theorem dX10_init_72 : decode cX10_init 72 = .ok (.aload_n 0, 1) := by decide +kernel
theorem dX10_init_73 : decode cX10_init 73 = .ok (.new 34, 3) := by decide +kernel
theorem dX10_init_76 : decode cX10_init 76 = .ok (.dup, 1) := by decide +kernel
theorem dX10_init_77 : decode cX10_init 77 = .ok (.invokespecial 36, 3) := by decide +kernel
theorem dX10_init_80 : decode cX10_init 80 = .ok (.putfield 37, 3) := by decide +kernel
theorem dX10_init_83 : decode cX10_init 83 = .ok (.aload_n 0, 1) := by decide +kernel
theorem dX10_init_84 : decode cX10_init 84 = .ok (.new 41, 3) := by decide +kernel
theorem dX10_init_87 : decode cX10_init 87 = .ok (.dup, 1) := by decide +kernel
theorem dX10_init_88 : decode cX10_init 88 = .ok (.invokespecial 43, 3) := by decide +kernel
theorem dX10_init_91 : decode cX10_init 91 = .ok (.putfield 44, 3) := by decide +kernel
theorem dX10_init_94 : decode cX10_init 94 = .ok (.aload_n 0, 1) := by decide +kernel
theorem dX10_init_95 : decode cX10_init 95 = .ok (.iconst 4, 1) := by decide +kernel
theorem dX10_init_96 : decode cX10_init 96 = .ok (.anewarray 48, 3) := by decide +kernel
theorem dX10_init_99 : decode cX10_init 99 = .ok (.dup, 1) := by decide +kernel
theorem dX10_init_100 : decode cX10_init 100 = .ok (.iconst 0, 1) := by decide +kernel
theorem dX10_init_101 : decode cX10_init 101 = .ok (.new 48, 3) := by decide +kernel
theorem dX10_init_104 : decode cX10_init 104 = .ok (.dup, 1) := by decide +kernel
theorem dX10_init_105 : decode cX10_init 105 = .ok (.invokespecial 50, 3) := by decide +kernel
theorem dX10_init_108 : decode cX10_init 108 = .ok (.aastore, 1) := by decide +kernel
theorem dX10_init_109 : decode cX10_init 109 = .ok (.dup, 1) := by decide +kernel
theorem dX10_init_110 : decode cX10_init 110 = .ok (.iconst 1, 1) := by decide +kernel
theorem dX10_init_111 : decode cX10_init 111 = .ok (.new 48, 3) := by decide +kernel
theorem dX10_init_114 : decode cX10_init 114 = .ok (.dup, 1) := by decide +kernel
theorem dX10_init_115 : decode cX10_init 115 = .ok (.invokespecial 50, 3) := by decide +kernel
theorem dX10_init_118 : decode cX10_init 118 = .ok (.aastore, 1) := by decide +kernel
theorem dX10_init_119 : decode cX10_init 119 = .ok (.dup, 1) := by decide +kernel
theorem dX10_init_120 : decode cX10_init 120 = .ok (.iconst 2, 1) := by decide +kernel
theorem dX10_init_121 : decode cX10_init 121 = .ok (.new 48, 3) := by decide +kernel
theorem dX10_init_124 : decode cX10_init 124 = .ok (.dup, 1) := by decide +kernel
theorem dX10_init_125 : decode cX10_init 125 = .ok (.invokespecial 50, 3) := by decide +kernel
theorem dX10_init_128 : decode cX10_init 128 = .ok (.aastore, 1) := by decide +kernel
theorem dX10_init_129 : decode cX10_init 129 = .ok (.dup, 1) := by decide +kernel
theorem dX10_init_130 : decode cX10_init 130 = .ok (.iconst 3, 1) := by decide +kernel
theorem dX10_init_131 : decode cX10_init 131 = .ok (.new 48, 3) := by decide +kernel
theorem dX10_init_134 : decode cX10_init 134 = .ok (.dup, 1) := by decide +kernel
theorem dX10_init_135 : decode cX10_init 135 = .ok (.invokespecial 50, 3) := by decide +kernel
theorem dX10_init_138 : decode cX10_init 138 = .ok (.aastore, 1) := by decide +kernel
theorem dX10_init_139 : decode cX10_init 139 = .ok (.putfield 51, 3) := by decide +kernel
theorem dX10_init_142 : decode cX10_init 142 = .ok (.aload_n 0, 1) := by decide +kernel
theorem dX10_init_143 : decode cX10_init 143 = .ok (.new 55, 3) := by decide +kernel
theorem dX10_init_146 : decode cX10_init 146 = .ok (.dup, 1) := by decide +kernel
theorem dX10_init_147 : decode cX10_init 147 = .ok (.invokespecial 57, 3) := by decide +kernel
theorem dX10_init_150 : decode cX10_init 150 = .ok (.putfield 58, 3) := by decide +kernel
theorem dX10_init_153 : decode cX10_init 153 = .ok (.aload_n 0, 1) := by decide +kernel
theorem dX10_init_154 : decode cX10_init 154 = .ok (.new 62, 3) := by decide +kernel
theorem dX10_init_157 : decode cX10_init 157 = .ok (.dup, 1) := by decide +kernel
theorem dX10_init_158 : decode cX10_init 158 = .ok (.invokespecial 64, 3) := by decide +kernel
theorem dX10_init_161 : decode cX10_init 161 = .ok (.putfield 65, 3) := by decide +kernel
theorem dX10_init_164 : decode cX10_init 164 = .ok (.return_, 1) := by decide +kernel
theorem dX10_feed_0 : decode cX10_feed 0 = .ok (.iload_n 1, 1) := by decide +kernel
theorem dX10_feed_1 : decode cX10_feed 1 = .ok (.ifCond .lt 9, 3) := by decide +kernel
theorem dX10_feed_4 : decode cX10_feed 4 = .ok (.iload_n 1, 1) := by decide +kernel
theorem dX10_feed_5 : decode cX10_feed 5 = .ok (.bipush 127, 2) := by decide +kernel
theorem dX10_feed_7 : decode cX10_feed 7 = .ok (.if_icmp .le 5, 3) := by decide +kernel
theorem dX10_feed_10 : decode cX10_feed 10 = .ok (.iconst (-1), 1) := by decide +kernel
theorem dX10_feed_11 : decode cX10_feed 11 = .ok (.ireturn, 1) := by decide +kernel
theorem dX10_feed_12 : decode cX10_feed 12 = .ok (.aload_n 0, 1) := by decide +kernel
theorem dX10_feed_13 : decode cX10_feed 13 = .ok (.getfield 30, 3) := by decide +kernel
theorem dX10_feed_16 : decode cX10_feed 16 = .ok (.getfield 69, 3) := by decide +kernel
theorem dX10_feed_19 : decode cX10_feed 19 = .ok (.iload_n 1, 1) := by decide +kernel
theorem dX10_feed_20 : decode cX10_feed 20 = .ok (.invokevirtual 73, 3) := by decide +kernel
theorem dX10_feed_23 : decode cX10_feed 23 = .ok (.ifCond .eq 16, 3) := by decide +kernel
theorem dX10_feed_26 : decode cX10_feed 26 = .ok (.aload_n 0, 1) := by decide +kernel
theorem dX10_feed_27 : decode cX10_feed 27 = .ok (.getfield 30, 3) := by decide +kernel
theorem dX10_feed_30 : decode cX10_feed 30 = .ok (.getfield 69, 3) := by decide +kernel
theorem dX10_feed_33 : decode cX10_feed 33 = .ok (.getfield 79, 3) := by decide +kernel
theorem dX10_feed_36 : decode cX10_feed 36 = .ok (.goto 5, 3) := by decide +kernel
theorem dX10_feed_39 : decode cX10_feed 39 = .ok (.bipush (-3), 2) := by decide +kernel
theorem dX10_feed_41 : decode cX10_feed 41 = .ok (.ireturn, 1) := by decide +kernel
theorem dX10_end_0 : decode cX10_end 0 = .ok (.aload_n 0, 1) := by decide +kernel
theorem dX10_end_1 : decode cX10_end 1 = .ok (.getfield 30, 3) := by decide +kernel
theorem dX10_end_4 : decode cX10_end 4 = .ok (.getfield 69, 3) := by decide +kernel
theorem dX10_end_7 : decode cX10_end 7 = .ok (.astore_n 2, 1) := by decide +kernel
theorem dX10_end_8 : decode cX10_end 8 = .ok (.iload_n 1, 1) := by decide +kernel
theorem dX10_end_9 : decode cX10_end 9 = .ok (.ifCond .lt 11, 3) := by decide +kernel
theorem dX10_end_12 : decode cX10_end 12 = .ok (.iload_n 1, 1) := by decide +kernel
theorem dX10_end_13 : decode cX10_end 13 = .ok (.aload_n 2, 1) := by decide +kernel
theorem dX10_end_14 : decode cX10_end 14 = .ok (.getfield 79, 3) := by decide +kernel
theorem dX10_end_17 : decode cX10_end 17 = .ok (.if_icmp .le 5, 3) := by decide +kernel
theorem dX10_end_20 : decode cX10_end 20 = .ok (.iconst (-1), 1) := by decide +kernel
theorem dX10_end_21 : decode cX10_end 21 = .ok (.ireturn, 1) := by decide +kernel
theorem dX10_end_22 : decode cX10_end 22 = .ok (.aload_n 2, 1) := by decide +kernel
theorem dX10_end_23 : decode cX10_end 23 = .ok (.getfield 79, 3) := by decide +kernel
theorem dX10_end_26 : decode cX10_end 26 = .ok (.istore_n 3, 1) := by decide +kernel
theorem dX10_end_27 : decode cX10_end 27 = .ok (.aload_n 2, 1) := by decide +kernel
theorem dX10_end_28 : decode cX10_end 28 = .ok (.iload_n 1, 1) := by decide +kernel
theorem dX10_end_29 : decode cX10_end 29 = .ok (.putfield 79, 3) := by decide +kernel
theorem dX10_end_32 : decode cX10_end 32 = .ok (.iload_n 3, 1) := by decide +kernel
theorem dX10_end_33 : decode cX10_end 33 = .ok (.ireturn, 1) := by decide +kernel
theorem dX10_text_0 : decode cX10_text 0 = .ok (.aload_n 0, 1) := by decide +kernel
theorem dX10_text_1 : decode cX10_text 1 = .ok (.getfield 30, 3) := by decide +kernel
theorem dX10_text_4 : decode cX10_text 4 = .ok (.getfield 69, 3) := by decide +kernel
theorem dX10_text_7 : decode cX10_text 7 = .ok (.astore_n 1, 1) := by decide +kernel
theorem dX10_text_8 : decode cX10_text 8 = .ok (.aload_n 0, 1) := by decide +kernel
theorem dX10_text_9 : decode cX10_text 9 = .ok (.getfield 30, 3) := by decide +kernel
theorem dX10_text_12 : decode cX10_text 12 = .ok (.invokevirtual 83, 3) := by decide +kernel
theorem dX10_text_15 : decode cX10_text 15 = .ok (.aload_n 1, 1) := by decide +kernel
theorem dX10_text_16 : decode cX10_text 16 = .ok (.iconst 0, 1) := by decide +kernel
theorem dX10_text_17 : decode cX10_text 17 = .ok (.putfield 79, 3) := by decide +kernel
theorem dX10_text_20 : decode cX10_text 20 = .ok (.aload_n 0, 1) := by decide +kernel
theorem dX10_text_21 : decode cX10_text 21 = .ok (.aload_n 1, 1) := by decide +kernel
theorem dX10_text_22 : decode cX10_text 22 = .ok (.getfield 86, 3) := by decide +kernel
theorem dX10_text_25 : decode cX10_text 25 = .ok (.putfield 89, 3) := by decide +kernel
theorem dX10_text_28 : decode cX10_text 28 = .ok (.aload_n 0, 1) := by decide +kernel
theorem dX10_text_29 : decode cX10_text 29 = .ok (.getfield 89, 3) := by decide +kernel
theorem dX10_text_32 : decode cX10_text 32 = .ok (.ifCond .eq 11, 3) := by decide +kernel
theorem dX10_text_35 : decode cX10_text 35 = .ok (.bipush (-10), 2) := by decide +kernel
theorem dX10_text_37 : decode cX10_text 37 = .ok (.aload_n 1, 1) := by decide +kernel
theorem dX10_text_38 : decode cX10_text 38 = .ok (.getfield 92, 3) := by decide +kernel
theorem dX10_text_41 : decode cX10_text 41 = .ok (.isub, 1) := by decide +kernel
theorem dX10_text_42 : decode cX10_text 42 = .ok (.ireturn, 1) := by decide +kernel
theorem dX10_text_43 : decode cX10_text 43 = .ok (.aload_n 0, 1) := by decide +kernel
theorem dX10_text_44 : decode cX10_text 44 = .ok (.getfield 12, 3) := by decide +kernel
theorem dX10_text_47 : decode cX10_text 47 = .ok (.aload_n 0, 1) := by decide +kernel
theorem dX10_text_48 : decode cX10_text 48 = .ok (.getfield 30, 3) := by decide +kernel
theorem dX10_text_51 : decode cX10_text 51 = .ok (.getfield 95, 3) := by decide +kernel
theorem dX10_text_54 : decode cX10_text 54 = .ok (.invokevirtual 98, 3) := by decide +kernel
theorem dX10_text_57 : decode cX10_text 57 = .ok (.aload_n 0, 1) := by decide +kernel
theorem dX10_text_58 : decode cX10_text 58 = .ok (.getfield 23, 3) := by decide +kernel
theorem dX10_text_61 : decode cX10_text 61 = .ok (.iconst 0, 1) := by decide +kernel
theorem dX10_text_62 : decode cX10_text 62 = .ok (.iconst 0, 1) := by decide +kernel
theorem dX10_text_63 : decode cX10_text 63 = .ok (.bastore, 1) := by decide +kernel
theorem dX10_text_64 : decode cX10_text 64 = .ok (.aload_n 0, 1) := by decide +kernel
theorem dX10_text_65 : decode cX10_text 65 = .ok (.getfield 23, 3) := by decide +kernel
theorem dX10_text_68 : decode cX10_text 68 = .ok (.iconst 1, 1) := by decide +kernel
theorem dX10_text_69 : decode cX10_text 69 = .ok (.iconst 0, 1) := by decide +kernel
theorem dX10_text_70 : decode cX10_text 70 = .ok (.bastore, 1) := by decide +kernel
theorem dX10_text_71 : decode cX10_text 71 = .ok (.aload_n 0, 1) := by decide +kernel
theorem dX10_text_72 : decode cX10_text 72 = .ok (.getfield 30, 3) := by decide +kernel
theorem dX10_text_75 : decode cX10_text 75 = .ok (.getfield 102, 3) := by decide +kernel
theorem dX10_text_78 : decode cX10_text 78 = .ok (.ireturn, 1) := by decide +kernel
theorem dX10_fault_0 : decode cX10_fault 0 = .ok (.aload_n 0, 1) := by decide +kernel
theorem dX10_fault_1 : decode cX10_fault 1 = .ok (.getfield 89, 3) := by decide +kernel
theorem dX10_fault_4 : decode cX10_fault 4 = .ok (.ireturn, 1) := by decide +kernel
theorem dX10_rule_0 : decode cX10_rule 0 = .ok (.iload_n 1, 1) := by decide +kernel
theorem dX10_rule_1 : decode cX10_rule 1 = .ok (.tableswitch 111 0 6 #[43, 54, 65, 76, 87, 95, 103], 43) := by decide +kernel
theorem dX10_rule_44 : decode cX10_rule 44 = .ok (.aload_n 0, 1) := by decide +kernel
theorem dX10_rule_45 : decode cX10_rule 45 = .ok (.getfield 12, 3) := by decide +kernel
theorem dX10_rule_48 : decode cX10_rule 48 = .ok (.getfield 105, 3) := by decide +kernel
theorem dX10_rule_51 : decode cX10_rule 51 = .ok (.getfield 109, 3) := by decide +kernel
theorem dX10_rule_54 : decode cX10_rule 54 = .ok (.ireturn, 1) := by decide +kernel
theorem dX10_rule_55 : decode cX10_rule 55 = .ok (.aload_n 0, 1) := by decide +kernel
theorem dX10_rule_56 : decode cX10_rule 56 = .ok (.getfield 12, 3) := by decide +kernel
theorem dX10_rule_59 : decode cX10_rule 59 = .ok (.getfield 105, 3) := by decide +kernel
theorem dX10_rule_62 : decode cX10_rule 62 = .ok (.getfield 114, 3) := by decide +kernel
theorem dX10_rule_65 : decode cX10_rule 65 = .ok (.ireturn, 1) := by decide +kernel
theorem dX10_rule_66 : decode cX10_rule 66 = .ok (.aload_n 0, 1) := by decide +kernel
theorem dX10_rule_67 : decode cX10_rule 67 = .ok (.getfield 12, 3) := by decide +kernel
theorem dX10_rule_70 : decode cX10_rule 70 = .ok (.getfield 105, 3) := by decide +kernel
theorem dX10_rule_73 : decode cX10_rule 73 = .ok (.getfield 117, 3) := by decide +kernel
theorem dX10_rule_76 : decode cX10_rule 76 = .ok (.ireturn, 1) := by decide +kernel
theorem dX10_rule_77 : decode cX10_rule 77 = .ok (.aload_n 0, 1) := by decide +kernel
theorem dX10_rule_78 : decode cX10_rule 78 = .ok (.getfield 12, 3) := by decide +kernel
theorem dX10_rule_81 : decode cX10_rule 81 = .ok (.getfield 105, 3) := by decide +kernel
theorem dX10_rule_84 : decode cX10_rule 84 = .ok (.getfield 120, 3) := by decide +kernel
theorem dX10_rule_87 : decode cX10_rule 87 = .ok (.ireturn, 1) := by decide +kernel
theorem dX10_rule_88 : decode cX10_rule 88 = .ok (.aload_n 0, 1) := by decide +kernel
theorem dX10_rule_89 : decode cX10_rule 89 = .ok (.getfield 12, 3) := by decide +kernel
theorem dX10_rule_92 : decode cX10_rule 92 = .ok (.getfield 123, 3) := by decide +kernel
theorem dX10_rule_95 : decode cX10_rule 95 = .ok (.ireturn, 1) := by decide +kernel
theorem dX10_rule_96 : decode cX10_rule 96 = .ok (.aload_n 0, 1) := by decide +kernel
theorem dX10_rule_97 : decode cX10_rule 97 = .ok (.getfield 12, 3) := by decide +kernel
theorem dX10_rule_100 : decode cX10_rule 100 = .ok (.getfield 126, 3) := by decide +kernel
theorem dX10_rule_103 : decode cX10_rule 103 = .ok (.ireturn, 1) := by decide +kernel
theorem dX10_rule_104 : decode cX10_rule 104 = .ok (.aload_n 0, 1) := by decide +kernel
theorem dX10_rule_105 : decode cX10_rule 105 = .ok (.getfield 12, 3) := by decide +kernel
theorem dX10_rule_108 : decode cX10_rule 108 = .ok (.getfield 129, 3) := by decide +kernel
theorem dX10_rule_111 : decode cX10_rule 111 = .ok (.ireturn, 1) := by decide +kernel
theorem dX10_rule_112 : decode cX10_rule 112 = .ok (.iconst (-1), 1) := by decide +kernel
theorem dX10_rule_113 : decode cX10_rule 113 = .ok (.ireturn, 1) := by decide +kernel
theorem dX10_heat_0 : decode cX10_heat 0 = .ok (.aload_n 0, 1) := by decide +kernel
theorem dX10_heat_1 : decode cX10_heat 1 = .ok (.getfield 12, 3) := by decide +kernel
theorem dX10_heat_4 : decode cX10_heat 4 = .ok (.getfield 105, 3) := by decide +kernel
theorem dX10_heat_7 : decode cX10_heat 7 = .ok (.iload_n 1, 1) := by decide +kernel
theorem dX10_heat_8 : decode cX10_heat 8 = .ok (.invokevirtual 132, 3) := by decide +kernel
theorem dX10_heat_11 : decode cX10_heat 11 = .ok (.ifCond .eq 18, 3) := by decide +kernel
theorem dX10_heat_14 : decode cX10_heat 14 = .ok (.aload_n 0, 1) := by decide +kernel
theorem dX10_heat_15 : decode cX10_heat 15 = .ok (.getfield 12, 3) := by decide +kernel
theorem dX10_heat_18 : decode cX10_heat 18 = .ok (.getfield 105, 3) := by decide +kernel
theorem dX10_heat_21 : decode cX10_heat 21 = .ok (.getfield 135, 3) := by decide +kernel
theorem dX10_heat_24 : decode cX10_heat 24 = .ok (.iload_n 1, 1) := by decide +kernel
theorem dX10_heat_25 : decode cX10_heat 25 = .ok (.iaload, 1) := by decide +kernel
theorem dX10_heat_26 : decode cX10_heat 26 = .ok (.goto 4, 3) := by decide +kernel
theorem dX10_heat_29 : decode cX10_heat 29 = .ok (.iconst (-1), 1) := by decide +kernel
theorem dX10_heat_30 : decode cX10_heat 30 = .ok (.ireturn, 1) := by decide +kernel
theorem dX10_wood_0 : decode cX10_wood 0 = .ok (.iload_n 1, 1) := by decide +kernel
theorem dX10_wood_1 : decode cX10_wood 1 = .ok (.ifCond .lt 17, 3) := by decide +kernel
theorem dX10_wood_4 : decode cX10_wood 4 = .ok (.iload_n 1, 1) := by decide +kernel
theorem dX10_wood_5 : decode cX10_wood 5 = .ok (.aload_n 0, 1) := by decide +kernel
theorem dX10_wood_6 : decode cX10_wood 6 = .ok (.getfield 12, 3) := by decide +kernel
theorem dX10_wood_9 : decode cX10_wood 9 = .ok (.getfield 105, 3) := by decide +kernel
theorem dX10_wood_12 : decode cX10_wood 12 = .ok (.getfield 120, 3) := by decide +kernel
theorem dX10_wood_15 : decode cX10_wood 15 = .ok (.if_icmp .lt 5, 3) := by decide +kernel
theorem dX10_wood_18 : decode cX10_wood 18 = .ok (.iconst (-1), 1) := by decide +kernel
theorem dX10_wood_19 : decode cX10_wood 19 = .ok (.ireturn, 1) := by decide +kernel
theorem dX10_wood_20 : decode cX10_wood 20 = .ok (.iload_n 2, 1) := by decide +kernel
theorem dX10_wood_21 : decode cX10_wood 21 = .ok (.tableswitch 66 0 2 #[27, 40, 53], 27) := by decide +kernel
theorem dX10_wood_48 : decode cX10_wood 48 = .ok (.aload_n 0, 1) := by decide +kernel
theorem dX10_wood_49 : decode cX10_wood 49 = .ok (.getfield 12, 3) := by decide +kernel
theorem dX10_wood_52 : decode cX10_wood 52 = .ok (.getfield 105, 3) := by decide +kernel
theorem dX10_wood_55 : decode cX10_wood 55 = .ok (.getfield 139, 3) := by decide +kernel
theorem dX10_wood_58 : decode cX10_wood 58 = .ok (.iload_n 1, 1) := by decide +kernel
theorem dX10_wood_59 : decode cX10_wood 59 = .ok (.iaload, 1) := by decide +kernel
theorem dX10_wood_60 : decode cX10_wood 60 = .ok (.ireturn, 1) := by decide +kernel
theorem dX10_wood_61 : decode cX10_wood 61 = .ok (.aload_n 0, 1) := by decide +kernel
theorem dX10_wood_62 : decode cX10_wood 62 = .ok (.getfield 12, 3) := by decide +kernel
theorem dX10_wood_65 : decode cX10_wood 65 = .ok (.getfield 105, 3) := by decide +kernel
theorem dX10_wood_68 : decode cX10_wood 68 = .ok (.getfield 142, 3) := by decide +kernel
theorem dX10_wood_71 : decode cX10_wood 71 = .ok (.iload_n 1, 1) := by decide +kernel
theorem dX10_wood_72 : decode cX10_wood 72 = .ok (.iaload, 1) := by decide +kernel
theorem dX10_wood_73 : decode cX10_wood 73 = .ok (.ireturn, 1) := by decide +kernel
theorem dX10_wood_74 : decode cX10_wood 74 = .ok (.aload_n 0, 1) := by decide +kernel
theorem dX10_wood_75 : decode cX10_wood 75 = .ok (.getfield 12, 3) := by decide +kernel
theorem dX10_wood_78 : decode cX10_wood 78 = .ok (.getfield 105, 3) := by decide +kernel
theorem dX10_wood_81 : decode cX10_wood 81 = .ok (.getfield 145, 3) := by decide +kernel
theorem dX10_wood_84 : decode cX10_wood 84 = .ok (.iload_n 1, 1) := by decide +kernel
theorem dX10_wood_85 : decode cX10_wood 85 = .ok (.iaload, 1) := by decide +kernel
theorem dX10_wood_86 : decode cX10_wood 86 = .ok (.ireturn, 1) := by decide +kernel
theorem dX10_wood_87 : decode cX10_wood 87 = .ok (.iconst (-1), 1) := by decide +kernel
theorem dX10_wood_88 : decode cX10_wood 88 = .ok (.ireturn, 1) := by decide +kernel
theorem dX10_spud_0 : decode cX10_spud 0 = .ok (.aload_n 0, 1) := by decide +kernel
theorem dX10_spud_1 : decode cX10_spud 1 = .ok (.getfield 12, 3) := by decide +kernel
theorem dX10_spud_4 : decode cX10_spud 4 = .ok (.iload_n 1, 1) := by decide +kernel
theorem dX10_spud_5 : decode cX10_spud 5 = .ok (.invokevirtual 148, 3) := by decide +kernel
theorem dX10_spud_8 : decode cX10_spud 8 = .ok (.ifCond .eq 19, 3) := by decide +kernel
theorem dX10_spud_11 : decode cX10_spud 11 = .ok (.aload_n 0, 1) := by decide +kernel
theorem dX10_spud_12 : decode cX10_spud 12 = .ok (.getfield 12, 3) := by decide +kernel
theorem dX10_spud_15 : decode cX10_spud 15 = .ok (.getfield 151, 3) := by decide +kernel
theorem dX10_spud_18 : decode cX10_spud 18 = .ok (.iload_n 1, 1) := by decide +kernel
theorem dX10_spud_19 : decode cX10_spud 19 = .ok (.aaload, 1) := by decide +kernel
theorem dX10_spud_20 : decode cX10_spud 20 = .ok (.iload_n 2, 1) := by decide +kernel
theorem dX10_spud_21 : decode cX10_spud 21 = .ok (.invokevirtual 155, 3) := by decide +kernel
theorem dX10_spud_24 : decode cX10_spud 24 = .ok (.goto 4, 3) := by decide +kernel
theorem dX10_spud_27 : decode cX10_spud 27 = .ok (.iconst (-1), 1) := by decide +kernel
theorem dX10_spud_28 : decode cX10_spud 28 = .ok (.ireturn, 1) := by decide +kernel
theorem dX10_fan_0 : decode cX10_fan 0 = .ok (.aload_n 0, 1) := by decide +kernel
theorem dX10_fan_1 : decode cX10_fan 1 = .ok (.getfield 12, 3) := by decide +kernel
theorem dX10_fan_4 : decode cX10_fan 4 = .ok (.getfield 105, 3) := by decide +kernel
theorem dX10_fan_7 : decode cX10_fan 7 = .ok (.iload_n 1, 1) := by decide +kernel
theorem dX10_fan_8 : decode cX10_fan 8 = .ok (.invokevirtual 132, 3) := by decide +kernel
theorem dX10_fan_11 : decode cX10_fan 11 = .ok (.ifCond .eq 10, 3) := by decide +kernel
theorem dX10_fan_14 : decode cX10_fan 14 = .ok (.iload_n 2, 1) := by decide +kernel
theorem dX10_fan_15 : decode cX10_fan 15 = .ok (.invokestatic 161, 3) := by decide +kernel
theorem dX10_fan_18 : decode cX10_fan 18 = .ok (.ifCond .ne 5, 3) := by decide +kernel
theorem dX10_fan_21 : decode cX10_fan 21 = .ok (.iconst (-1), 1) := by decide +kernel
theorem dX10_fan_22 : decode cX10_fan 22 = .ok (.ireturn, 1) := by decide +kernel
theorem dX10_fan_23 : decode cX10_fan 23 = .ok (.aload_n 0, 1) := by decide +kernel
theorem dX10_fan_24 : decode cX10_fan 24 = .ok (.getfield 12, 3) := by decide +kernel
theorem dX10_fan_27 : decode cX10_fan 27 = .ok (.getfield 105, 3) := by decide +kernel
theorem dX10_fan_30 : decode cX10_fan 30 = .ok (.getfield 135, 3) := by decide +kernel
theorem dX10_fan_33 : decode cX10_fan 33 = .ok (.iload_n 1, 1) := by decide +kernel
theorem dX10_fan_34 : decode cX10_fan 34 = .ok (.iaload, 1) := by decide +kernel
theorem dX10_fan_35 : decode cX10_fan 35 = .ok (.istore_n 3, 1) := by decide +kernel
theorem dX10_fan_36 : decode cX10_fan 36 = .ok (.aload_n 0, 1) := by decide +kernel
theorem dX10_fan_37 : decode cX10_fan 37 = .ok (.getfield 12, 3) := by decide +kernel
theorem dX10_fan_40 : decode cX10_fan 40 = .ok (.getfield 105, 3) := by decide +kernel
theorem dX10_fan_43 : decode cX10_fan 43 = .ok (.getfield 135, 3) := by decide +kernel
theorem dX10_fan_46 : decode cX10_fan 46 = .ok (.iload_n 1, 1) := by decide +kernel
theorem dX10_fan_47 : decode cX10_fan 47 = .ok (.iload_n 2, 1) := by decide +kernel
theorem dX10_fan_48 : decode cX10_fan 48 = .ok (.iastore, 1) := by decide +kernel
theorem dX10_fan_49 : decode cX10_fan 49 = .ok (.iload_n 3, 1) := by decide +kernel
theorem dX10_fan_50 : decode cX10_fan 50 = .ok (.ireturn, 1) := by decide +kernel
theorem dX10_ash_0 : decode cX10_ash 0 = .ok (.iload_n 1, 1) := by decide +kernel
theorem dX10_ash_1 : decode cX10_ash 1 = .ok (.ifCond .lt 18, 3) := by decide +kernel
theorem dX10_ash_4 : decode cX10_ash 4 = .ok (.iload_n 1, 1) := by decide +kernel
theorem dX10_ash_5 : decode cX10_ash 5 = .ok (.iconst 1, 1) := by decide +kernel
theorem dX10_ash_6 : decode cX10_ash 6 = .ok (.if_icmp .gt 13, 3) := by decide +kernel
theorem dX10_ash_9 : decode cX10_ash 9 = .ok (.iload_n 2, 1) := by decide +kernel
theorem dX10_ash_10 : decode cX10_ash 10 = .ok (.ifCond .lt 9, 3) := by decide +kernel
theorem dX10_ash_13 : decode cX10_ash 13 = .ok (.iload_n 2, 1) := by decide +kernel
theorem dX10_ash_14 : decode cX10_ash 14 = .ok (.bipush 9, 2) := by decide +kernel
theorem dX10_ash_16 : decode cX10_ash 16 = .ok (.if_icmp .le 5, 3) := by decide +kernel
theorem dX10_ash_19 : decode cX10_ash 19 = .ok (.iconst (-1), 1) := by decide +kernel
theorem dX10_ash_20 : decode cX10_ash 20 = .ok (.ireturn, 1) := by decide +kernel
theorem dX10_ash_21 : decode cX10_ash 21 = .ok (.iload_n 1, 1) := by decide +kernel
theorem dX10_ash_22 : decode cX10_ash 22 = .ok (.ifCond .ne 16, 3) := by decide +kernel
theorem dX10_ash_25 : decode cX10_ash 25 = .ok (.aload_n 0, 1) := by decide +kernel
theorem dX10_ash_26 : decode cX10_ash 26 = .ok (.getfield 12, 3) := by decide +kernel
theorem dX10_ash_29 : decode cX10_ash 29 = .ok (.getfield 105, 3) := by decide +kernel
theorem dX10_ash_32 : decode cX10_ash 32 = .ok (.getfield 114, 3) := by decide +kernel
theorem dX10_ash_35 : decode cX10_ash 35 = .ok (.goto 13, 3) := by decide +kernel
theorem dX10_ash_38 : decode cX10_ash 38 = .ok (.aload_n 0, 1) := by decide +kernel
theorem dX10_ash_39 : decode cX10_ash 39 = .ok (.getfield 12, 3) := by decide +kernel
theorem dX10_ash_42 : decode cX10_ash 42 = .ok (.getfield 105, 3) := by decide +kernel
theorem dX10_ash_45 : decode cX10_ash 45 = .ok (.getfield 117, 3) := by decide +kernel
theorem dX10_ash_48 : decode cX10_ash 48 = .ok (.istore_n 3, 1) := by decide +kernel
theorem dX10_ash_49 : decode cX10_ash 49 = .ok (.iload_n 1, 1) := by decide +kernel
theorem dX10_ash_50 : decode cX10_ash 50 = .ok (.ifCond .ne 17, 3) := by decide +kernel
theorem dX10_ash_53 : decode cX10_ash 53 = .ok (.aload_n 0, 1) := by decide +kernel
theorem dX10_ash_54 : decode cX10_ash 54 = .ok (.getfield 12, 3) := by decide +kernel
theorem dX10_ash_57 : decode cX10_ash 57 = .ok (.getfield 105, 3) := by decide +kernel
theorem dX10_ash_60 : decode cX10_ash 60 = .ok (.iload_n 2, 1) := by decide +kernel
theorem dX10_ash_61 : decode cX10_ash 61 = .ok (.putfield 114, 3) := by decide +kernel
theorem dX10_ash_64 : decode cX10_ash 64 = .ok (.goto 14, 3) := by decide +kernel
theorem dX10_ash_67 : decode cX10_ash 67 = .ok (.aload_n 0, 1) := by decide +kernel
theorem dX10_ash_68 : decode cX10_ash 68 = .ok (.getfield 12, 3) := by decide +kernel
theorem dX10_ash_71 : decode cX10_ash 71 = .ok (.getfield 105, 3) := by decide +kernel
theorem dX10_ash_74 : decode cX10_ash 74 = .ok (.iload_n 2, 1) := by decide +kernel
theorem dX10_ash_75 : decode cX10_ash 75 = .ok (.putfield 117, 3) := by decide +kernel
theorem dX10_ash_78 : decode cX10_ash 78 = .ok (.iload_n 3, 1) := by decide +kernel
theorem dX10_ash_79 : decode cX10_ash 79 = .ok (.ireturn, 1) := by decide +kernel
theorem dX10_stoke_0 : decode cX10_stoke 0 = .ok (.aload_n 0, 1) := by decide +kernel
theorem dX10_stoke_1 : decode cX10_stoke 1 = .ok (.getfield 12, 3) := by decide +kernel
theorem dX10_stoke_4 : decode cX10_stoke 4 = .ok (.getfield 105, 3) := by decide +kernel
theorem dX10_stoke_7 : decode cX10_stoke 7 = .ok (.iload_n 1, 1) := by decide +kernel
theorem dX10_stoke_8 : decode cX10_stoke 8 = .ok (.invokevirtual 164, 3) := by decide +kernel
theorem dX10_stoke_11 : decode cX10_stoke 11 = .ok (.ifCond .eq 29, 3) := by decide +kernel
theorem dX10_stoke_14 : decode cX10_stoke 14 = .ok (.iload_n 2, 1) := by decide +kernel
theorem dX10_stoke_15 : decode cX10_stoke 15 = .ok (.iconst 1, 1) := by decide +kernel
theorem dX10_stoke_16 : decode cX10_stoke 16 = .ok (.if_icmp .lt 24, 3) := by decide +kernel
theorem dX10_stoke_19 : decode cX10_stoke 19 = .ok (.iload_n 2, 1) := by decide +kernel
theorem dX10_stoke_20 : decode cX10_stoke 20 = .ok (.bipush 99, 2) := by decide +kernel
theorem dX10_stoke_22 : decode cX10_stoke 22 = .ok (.if_icmp .gt 18, 3) := by decide +kernel
theorem dX10_stoke_25 : decode cX10_stoke 25 = .ok (.iload_n 3, 1) := by decide +kernel
theorem dX10_stoke_26 : decode cX10_stoke 26 = .ok (.iconst 1, 1) := by decide +kernel
theorem dX10_stoke_27 : decode cX10_stoke 27 = .ok (.if_icmp .lt 13, 3) := by decide +kernel
theorem dX10_stoke_30 : decode cX10_stoke 30 = .ok (.iload_n 3, 1) := by decide +kernel
theorem dX10_stoke_31 : decode cX10_stoke 31 = .ok (.bipush 9, 2) := by decide +kernel
theorem dX10_stoke_33 : decode cX10_stoke 33 = .ok (.if_icmp .gt 7, 3) := by decide +kernel
theorem dX10_stoke_36 : decode cX10_stoke 36 = .ok (.iconst 1, 1) := by decide +kernel
theorem dX10_stoke_37 : decode cX10_stoke 37 = .ok (.goto 4, 3) := by decide +kernel
theorem dX10_stoke_40 : decode cX10_stoke 40 = .ok (.iconst 0, 1) := by decide +kernel
theorem dX10_stoke_41 : decode cX10_stoke 41 = .ok (.istore 4, 2) := by decide +kernel
theorem dX10_stoke_43 : decode cX10_stoke 43 = .ok (.iload 4, 2) := by decide +kernel
theorem dX10_stoke_45 : decode cX10_stoke 45 = .ok (.ifCond .ne 5, 3) := by decide +kernel
theorem dX10_stoke_48 : decode cX10_stoke 48 = .ok (.iconst (-1), 1) := by decide +kernel
theorem dX10_stoke_49 : decode cX10_stoke 49 = .ok (.ireturn, 1) := by decide +kernel
theorem dX10_stoke_50 : decode cX10_stoke 50 = .ok (.aload_n 0, 1) := by decide +kernel
theorem dX10_stoke_51 : decode cX10_stoke 51 = .ok (.getfield 12, 3) := by decide +kernel
theorem dX10_stoke_54 : decode cX10_stoke 54 = .ok (.getfield 105, 3) := by decide +kernel
theorem dX10_stoke_57 : decode cX10_stoke 57 = .ok (.iload_n 1, 1) := by decide +kernel
theorem dX10_stoke_58 : decode cX10_stoke 58 = .ok (.iload_n 2, 1) := by decide +kernel
theorem dX10_stoke_59 : decode cX10_stoke 59 = .ok (.iload_n 3, 1) := by decide +kernel
theorem dX10_stoke_60 : decode cX10_stoke 60 = .ok (.invokevirtual 167, 3) := by decide +kernel
theorem dX10_stoke_63 : decode cX10_stoke 63 = .ok (.ifCond .eq 16, 3) := by decide +kernel
theorem dX10_stoke_66 : decode cX10_stoke 66 = .ok (.aload_n 0, 1) := by decide +kernel
theorem dX10_stoke_67 : decode cX10_stoke 67 = .ok (.getfield 12, 3) := by decide +kernel
theorem dX10_stoke_70 : decode cX10_stoke 70 = .ok (.getfield 105, 3) := by decide +kernel
theorem dX10_stoke_73 : decode cX10_stoke 73 = .ok (.getfield 120, 3) := by decide +kernel
theorem dX10_stoke_76 : decode cX10_stoke 76 = .ok (.goto 5, 3) := by decide +kernel
theorem dX10_stoke_79 : decode cX10_stoke 79 = .ok (.bipush (-3), 2) := by decide +kernel
theorem dX10_stoke_81 : decode cX10_stoke 81 = .ok (.ireturn, 1) := by decide +kernel
theorem dX10_add_0 : decode cX10_add 0 = .ok (.iload_n 1, 1) := by decide +kernel
theorem dX10_add_1 : decode cX10_add 1 = .ok (.iload_n 2, 1) := by decide +kernel
theorem dX10_add_2 : decode cX10_add 2 = .ok (.invokestatic 171, 3) := by decide +kernel
theorem dX10_add_5 : decode cX10_add 5 = .ok (.ifCond .ne 5, 3) := by decide +kernel
theorem dX10_add_8 : decode cX10_add 8 = .ok (.iconst (-1), 1) := by decide +kernel
theorem dX10_add_9 : decode cX10_add 9 = .ok (.ireturn, 1) := by decide +kernel
theorem dX10_add_10 : decode cX10_add 10 = .ok (.aload_n 0, 1) := by decide +kernel
theorem dX10_add_11 : decode cX10_add 11 = .ok (.getfield 12, 3) := by decide +kernel
theorem dX10_add_14 : decode cX10_add 14 = .ok (.iload_n 1, 1) := by decide +kernel
theorem dX10_add_15 : decode cX10_add 15 = .ok (.iload_n 2, 1) := by decide +kernel
theorem dX10_add_16 : decode cX10_add 16 = .ok (.invokevirtual 175, 3) := by decide +kernel
theorem dX10_add_19 : decode cX10_add 19 = .ok (.ifCond .eq 13, 3) := by decide +kernel
theorem dX10_add_22 : decode cX10_add 22 = .ok (.aload_n 0, 1) := by decide +kernel
theorem dX10_add_23 : decode cX10_add 23 = .ok (.getfield 12, 3) := by decide +kernel
theorem dX10_add_26 : decode cX10_add 26 = .ok (.getfield 126, 3) := by decide +kernel
theorem dX10_add_29 : decode cX10_add 29 = .ok (.goto 5, 3) := by decide +kernel
theorem dX10_add_32 : decode cX10_add 32 = .ok (.bipush (-3), 2) := by decide +kernel
theorem dX10_add_34 : decode cX10_add 34 = .ok (.ireturn, 1) := by decide +kernel
theorem dX10_dig_0 : decode cX10_dig 0 = .ok (.aload_n 0, 1) := by decide +kernel
theorem dX10_dig_1 : decode cX10_dig 1 = .ok (.getfield 12, 3) := by decide +kernel
theorem dX10_dig_4 : decode cX10_dig 4 = .ok (.iload_n 1, 1) := by decide +kernel
theorem dX10_dig_5 : decode cX10_dig 5 = .ok (.invokevirtual 148, 3) := by decide +kernel
theorem dX10_dig_8 : decode cX10_dig 8 = .ok (.ifCond .eq 23, 3) := by decide +kernel
theorem dX10_dig_11 : decode cX10_dig 11 = .ok (.iload_n 2, 1) := by decide +kernel
theorem dX10_dig_12 : decode cX10_dig 12 = .ok (.bipush (-4), 2) := by decide +kernel
theorem dX10_dig_14 : decode cX10_dig 14 = .ok (.if_icmp .eq 19, 3) := by decide +kernel
theorem dX10_dig_17 : decode cX10_dig 17 = .ok (.aload_n 0, 1) := by decide +kernel
theorem dX10_dig_18 : decode cX10_dig 18 = .ok (.getfield 12, 3) := by decide +kernel
theorem dX10_dig_21 : decode cX10_dig 21 = .ok (.getfield 105, 3) := by decide +kernel
theorem dX10_dig_24 : decode cX10_dig 24 = .ok (.iload_n 2, 1) := by decide +kernel
theorem dX10_dig_25 : decode cX10_dig 25 = .ok (.invokevirtual 132, 3) := by decide +kernel
theorem dX10_dig_28 : decode cX10_dig 28 = .ok (.ifCond .ne 5, 3) := by decide +kernel
theorem dX10_dig_31 : decode cX10_dig 31 = .ok (.iconst (-1), 1) := by decide +kernel
theorem dX10_dig_32 : decode cX10_dig 32 = .ok (.ireturn, 1) := by decide +kernel
theorem dX10_dig_33 : decode cX10_dig 33 = .ok (.iload_n 2, 1) := by decide +kernel
theorem dX10_dig_34 : decode cX10_dig 34 = .ok (.bipush (-4), 2) := by decide +kernel
theorem dX10_dig_36 : decode cX10_dig 36 = .ok (.if_icmp .ne 8, 3) := by decide +kernel
theorem dX10_dig_39 : decode cX10_dig 39 = .ok (.bipush (-4), 2) := by decide +kernel
theorem dX10_dig_41 : decode cX10_dig 41 = .ok (.goto 11, 3) := by decide +kernel
theorem dX10_dig_44 : decode cX10_dig 44 = .ok (.aload_n 0, 1) := by decide +kernel
theorem dX10_dig_45 : decode cX10_dig 45 = .ok (.getfield 12, 3) := by decide +kernel
theorem dX10_dig_48 : decode cX10_dig 48 = .ok (.iload_n 2, 1) := by decide +kernel
theorem dX10_dig_49 : decode cX10_dig 49 = .ok (.invokevirtual 178, 3) := by decide +kernel
theorem dX10_dig_52 : decode cX10_dig 52 = .ok (.istore_n 3, 1) := by decide +kernel
theorem dX10_dig_53 : decode cX10_dig 53 = .ok (.iload_n 3, 1) := by decide +kernel
theorem dX10_dig_54 : decode cX10_dig 54 = .ok (.bipush (-4), 2) := by decide +kernel
theorem dX10_dig_56 : decode cX10_dig 56 = .ok (.if_icmp .eq 11, 3) := by decide +kernel
theorem dX10_dig_59 : decode cX10_dig 59 = .ok (.iload_n 3, 1) := by decide +kernel
theorem dX10_dig_60 : decode cX10_dig 60 = .ok (.iload_n 1, 1) := by decide +kernel
theorem dX10_dig_61 : decode cX10_dig 61 = .ok (.if_icmp .eq 6, 3) := by decide +kernel
theorem dX10_dig_64 : decode cX10_dig 64 = .ok (.bipush (-2), 2) := by decide +kernel
theorem dX10_dig_66 : decode cX10_dig 66 = .ok (.ireturn, 1) := by decide +kernel
theorem dX10_dig_67 : decode cX10_dig 67 = .ok (.aload_n 0, 1) := by decide +kernel
theorem dX10_dig_68 : decode cX10_dig 68 = .ok (.getfield 12, 3) := by decide +kernel
theorem dX10_dig_71 : decode cX10_dig 71 = .ok (.getfield 151, 3) := by decide +kernel
theorem dX10_dig_74 : decode cX10_dig 74 = .ok (.iload_n 1, 1) := by decide +kernel
theorem dX10_dig_75 : decode cX10_dig 75 = .ok (.aaload, 1) := by decide +kernel
theorem dX10_dig_76 : decode cX10_dig 76 = .ok (.getfield 181, 3) := by decide +kernel
theorem dX10_dig_79 : decode cX10_dig 79 = .ok (.istore 4, 2) := by decide +kernel
theorem dX10_dig_81 : decode cX10_dig 81 = .ok (.aload_n 0, 1) := by decide +kernel
theorem dX10_dig_82 : decode cX10_dig 82 = .ok (.getfield 12, 3) := by decide +kernel
theorem dX10_dig_85 : decode cX10_dig 85 = .ok (.getfield 151, 3) := by decide +kernel
theorem dX10_dig_88 : decode cX10_dig 88 = .ok (.iload_n 1, 1) := by decide +kernel
theorem dX10_dig_89 : decode cX10_dig 89 = .ok (.aaload, 1) := by decide +kernel
theorem dX10_dig_90 : decode cX10_dig 90 = .ok (.iload_n 2, 1) := by decide +kernel
theorem dX10_dig_91 : decode cX10_dig 91 = .ok (.putfield 181, 3) := by decide +kernel
theorem dX10_dig_94 : decode cX10_dig 94 = .ok (.iload 4, 2) := by decide +kernel
theorem dX10_dig_96 : decode cX10_dig 96 = .ok (.ireturn, 1) := by decide +kernel
theorem dX10_turn_0 : decode cX10_turn 0 = .ok (.aload_n 0, 1) := by decide +kernel
theorem dX10_turn_1 : decode cX10_turn 1 = .ok (.getfield 12, 3) := by decide +kernel
theorem dX10_turn_4 : decode cX10_turn 4 = .ok (.iload_n 1, 1) := by decide +kernel
theorem dX10_turn_5 : decode cX10_turn 5 = .ok (.invokevirtual 148, 3) := by decide +kernel
theorem dX10_turn_8 : decode cX10_turn 8 = .ok (.ifCond .ne 5, 3) := by decide +kernel
theorem dX10_turn_11 : decode cX10_turn 11 = .ok (.iconst (-1), 1) := by decide +kernel
theorem dX10_turn_12 : decode cX10_turn 12 = .ok (.ireturn, 1) := by decide +kernel
theorem dX10_turn_13 : decode cX10_turn 13 = .ok (.aload_n 0, 1) := by decide +kernel
theorem dX10_turn_14 : decode cX10_turn 14 = .ok (.getfield 12, 3) := by decide +kernel
theorem dX10_turn_17 : decode cX10_turn 17 = .ok (.getfield 151, 3) := by decide +kernel
theorem dX10_turn_20 : decode cX10_turn 20 = .ok (.iload_n 1, 1) := by decide +kernel
theorem dX10_turn_21 : decode cX10_turn 21 = .ok (.aaload, 1) := by decide +kernel
theorem dX10_turn_22 : decode cX10_turn 22 = .ok (.invokevirtual 184, 3) := by decide +kernel
theorem dX10_turn_25 : decode cX10_turn 25 = .ok (.aload_n 0, 1) := by decide +kernel
theorem dX10_turn_26 : decode cX10_turn 26 = .ok (.getfield 12, 3) := by decide +kernel
theorem dX10_turn_29 : decode cX10_turn 29 = .ok (.getfield 151, 3) := by decide +kernel
theorem dX10_turn_32 : decode cX10_turn 32 = .ok (.iload_n 1, 1) := by decide +kernel
theorem dX10_turn_33 : decode cX10_turn 33 = .ok (.aaload, 1) := by decide +kernel
theorem dX10_turn_34 : decode cX10_turn 34 = .ok (.getfield 187, 3) := by decide +kernel
theorem dX10_turn_37 : decode cX10_turn 37 = .ok (.ireturn, 1) := by decide +kernel
theorem dX10_wrap_0 : decode cX10_wrap 0 = .ok (.aload_n 0, 1) := by decide +kernel
theorem dX10_wrap_1 : decode cX10_wrap 1 = .ok (.getfield 12, 3) := by decide +kernel
theorem dX10_wrap_4 : decode cX10_wrap 4 = .ok (.iload_n 1, 1) := by decide +kernel
theorem dX10_wrap_5 : decode cX10_wrap 5 = .ok (.invokevirtual 148, 3) := by decide +kernel
theorem dX10_wrap_8 : decode cX10_wrap 8 = .ok (.ifCond .eq 12, 3) := by decide +kernel
theorem dX10_wrap_11 : decode cX10_wrap 11 = .ok (.iload_n 2, 1) := by decide +kernel
theorem dX10_wrap_12 : decode cX10_wrap 12 = .ok (.ifCond .lt 8, 3) := by decide +kernel
theorem dX10_wrap_15 : decode cX10_wrap 15 = .ok (.iload_n 2, 1) := by decide +kernel
theorem dX10_wrap_16 : decode cX10_wrap 16 = .ok (.iconst 2, 1) := by decide +kernel
theorem dX10_wrap_17 : decode cX10_wrap 17 = .ok (.if_icmp .le 5, 3) := by decide +kernel
theorem dX10_wrap_20 : decode cX10_wrap 20 = .ok (.iconst (-1), 1) := by decide +kernel
theorem dX10_wrap_21 : decode cX10_wrap 21 = .ok (.ireturn, 1) := by decide +kernel
theorem dX10_wrap_22 : decode cX10_wrap 22 = .ok (.aload_n 0, 1) := by decide +kernel
theorem dX10_wrap_23 : decode cX10_wrap 23 = .ok (.getfield 12, 3) := by decide +kernel
theorem dX10_wrap_26 : decode cX10_wrap 26 = .ok (.getfield 151, 3) := by decide +kernel
theorem dX10_wrap_29 : decode cX10_wrap 29 = .ok (.iload_n 1, 1) := by decide +kernel
theorem dX10_wrap_30 : decode cX10_wrap 30 = .ok (.aaload, 1) := by decide +kernel
theorem dX10_wrap_31 : decode cX10_wrap 31 = .ok (.getfield 190, 3) := by decide +kernel
theorem dX10_wrap_34 : decode cX10_wrap 34 = .ok (.istore_n 3, 1) := by decide +kernel
theorem dX10_wrap_35 : decode cX10_wrap 35 = .ok (.aload_n 0, 1) := by decide +kernel
theorem dX10_wrap_36 : decode cX10_wrap 36 = .ok (.getfield 12, 3) := by decide +kernel
theorem dX10_wrap_39 : decode cX10_wrap 39 = .ok (.getfield 151, 3) := by decide +kernel
theorem dX10_wrap_42 : decode cX10_wrap 42 = .ok (.iload_n 1, 1) := by decide +kernel
theorem dX10_wrap_43 : decode cX10_wrap 43 = .ok (.aaload, 1) := by decide +kernel
theorem dX10_wrap_44 : decode cX10_wrap 44 = .ok (.iload_n 2, 1) := by decide +kernel
theorem dX10_wrap_45 : decode cX10_wrap 45 = .ok (.putfield 190, 3) := by decide +kernel
theorem dX10_wrap_48 : decode cX10_wrap 48 = .ok (.iload_n 3, 1) := by decide +kernel
theorem dX10_wrap_49 : decode cX10_wrap 49 = .ok (.ireturn, 1) := by decide +kernel
theorem dX10_memo_0 : decode cX10_memo 0 = .ok (.aload_n 0, 1) := by decide +kernel
theorem dX10_memo_1 : decode cX10_memo 1 = .ok (.getfield 12, 3) := by decide +kernel
theorem dX10_memo_4 : decode cX10_memo 4 = .ok (.iload_n 1, 1) := by decide +kernel
theorem dX10_memo_5 : decode cX10_memo 5 = .ok (.invokevirtual 148, 3) := by decide +kernel
theorem dX10_memo_8 : decode cX10_memo 8 = .ok (.ifCond .eq 23, 3) := by decide +kernel
theorem dX10_memo_11 : decode cX10_memo 11 = .ok (.iload_n 2, 1) := by decide +kernel
theorem dX10_memo_12 : decode cX10_memo 12 = .ok (.bipush (-4), 2) := by decide +kernel
theorem dX10_memo_14 : decode cX10_memo 14 = .ok (.if_icmp .eq 19, 3) := by decide +kernel
theorem dX10_memo_17 : decode cX10_memo 17 = .ok (.aload_n 0, 1) := by decide +kernel
theorem dX10_memo_18 : decode cX10_memo 18 = .ok (.getfield 12, 3) := by decide +kernel
theorem dX10_memo_21 : decode cX10_memo 21 = .ok (.getfield 105, 3) := by decide +kernel
theorem dX10_memo_24 : decode cX10_memo 24 = .ok (.iload_n 2, 1) := by decide +kernel
theorem dX10_memo_25 : decode cX10_memo 25 = .ok (.invokevirtual 164, 3) := by decide +kernel
theorem dX10_memo_28 : decode cX10_memo 28 = .ok (.ifCond .ne 5, 3) := by decide +kernel
theorem dX10_memo_31 : decode cX10_memo 31 = .ok (.iconst (-1), 1) := by decide +kernel
theorem dX10_memo_32 : decode cX10_memo 32 = .ok (.ireturn, 1) := by decide +kernel
theorem dX10_memo_33 : decode cX10_memo 33 = .ok (.aload_n 0, 1) := by decide +kernel
theorem dX10_memo_34 : decode cX10_memo 34 = .ok (.getfield 12, 3) := by decide +kernel
theorem dX10_memo_37 : decode cX10_memo 37 = .ok (.getfield 151, 3) := by decide +kernel
theorem dX10_memo_40 : decode cX10_memo 40 = .ok (.iload_n 1, 1) := by decide +kernel
theorem dX10_memo_41 : decode cX10_memo 41 = .ok (.aaload, 1) := by decide +kernel
theorem dX10_memo_42 : decode cX10_memo 42 = .ok (.getfield 193, 3) := by decide +kernel
theorem dX10_memo_45 : decode cX10_memo 45 = .ok (.istore_n 3, 1) := by decide +kernel
theorem dX10_memo_46 : decode cX10_memo 46 = .ok (.aload_n 0, 1) := by decide +kernel
theorem dX10_memo_47 : decode cX10_memo 47 = .ok (.getfield 12, 3) := by decide +kernel
theorem dX10_memo_50 : decode cX10_memo 50 = .ok (.getfield 151, 3) := by decide +kernel
theorem dX10_memo_53 : decode cX10_memo 53 = .ok (.iload_n 1, 1) := by decide +kernel
theorem dX10_memo_54 : decode cX10_memo 54 = .ok (.aaload, 1) := by decide +kernel
theorem dX10_memo_55 : decode cX10_memo 55 = .ok (.iload_n 2, 1) := by decide +kernel
theorem dX10_memo_56 : decode cX10_memo 56 = .ok (.putfield 193, 3) := by decide +kernel
theorem dX10_memo_59 : decode cX10_memo 59 = .ok (.iload_n 3, 1) := by decide +kernel
theorem dX10_memo_60 : decode cX10_memo 60 = .ok (.ireturn, 1) := by decide +kernel
theorem dX10_rake_0 : decode cX10_rake 0 = .ok (.aload_n 0, 1) := by decide +kernel
theorem dX10_rake_1 : decode cX10_rake 1 = .ok (.getfield 12, 3) := by decide +kernel
theorem dX10_rake_4 : decode cX10_rake 4 = .ok (.getfield 105, 3) := by decide +kernel
theorem dX10_rake_7 : decode cX10_rake 7 = .ok (.iload_n 1, 1) := by decide +kernel
theorem dX10_rake_8 : decode cX10_rake 8 = .ok (.invokevirtual 132, 3) := by decide +kernel
theorem dX10_rake_11 : decode cX10_rake 11 = .ok (.ifCond .ne 5, 3) := by decide +kernel
theorem dX10_rake_14 : decode cX10_rake 14 = .ok (.iconst (-1), 1) := by decide +kernel
theorem dX10_rake_15 : decode cX10_rake 15 = .ok (.ireturn, 1) := by decide +kernel
theorem dX10_rake_16 : decode cX10_rake 16 = .ok (.iconst 1, 1) := by decide +kernel
theorem dX10_rake_17 : decode cX10_rake 17 = .ok (.iload_n 1, 1) := by decide +kernel
theorem dX10_rake_18 : decode cX10_rake 18 = .ok (.ishl, 1) := by decide +kernel
theorem dX10_rake_19 : decode cX10_rake 19 = .ok (.istore_n 3, 1) := by decide +kernel
theorem dX10_rake_20 : decode cX10_rake 20 = .ok (.aload_n 0, 1) := by decide +kernel
theorem dX10_rake_21 : decode cX10_rake 21 = .ok (.getfield 12, 3) := by decide +kernel
theorem dX10_rake_24 : decode cX10_rake 24 = .ok (.getfield 129, 3) := by decide +kernel
theorem dX10_rake_27 : decode cX10_rake 27 = .ok (.iload_n 3, 1) := by decide +kernel
theorem dX10_rake_28 : decode cX10_rake 28 = .ok (.iand, 1) := by decide +kernel
theorem dX10_rake_29 : decode cX10_rake 29 = .ok (.ifCond .eq 7, 3) := by decide +kernel
theorem dX10_rake_32 : decode cX10_rake 32 = .ok (.iconst 1, 1) := by decide +kernel
theorem dX10_rake_33 : decode cX10_rake 33 = .ok (.goto 4, 3) := by decide +kernel
theorem dX10_rake_36 : decode cX10_rake 36 = .ok (.iconst 0, 1) := by decide +kernel
theorem dX10_rake_37 : decode cX10_rake 37 = .ok (.istore 4, 2) := by decide +kernel
theorem dX10_rake_39 : decode cX10_rake 39 = .ok (.aload_n 0, 1) := by decide +kernel
theorem dX10_rake_40 : decode cX10_rake 40 = .ok (.getfield 12, 3) := by decide +kernel
theorem dX10_rake_43 : decode cX10_rake 43 = .ok (.iload_n 2, 1) := by decide +kernel
theorem dX10_rake_44 : decode cX10_rake 44 = .ok (.ifCond .eq 15, 3) := by decide +kernel
theorem dX10_rake_47 : decode cX10_rake 47 = .ok (.aload_n 0, 1) := by decide +kernel
theorem dX10_rake_48 : decode cX10_rake 48 = .ok (.getfield 12, 3) := by decide +kernel
theorem dX10_rake_51 : decode cX10_rake 51 = .ok (.getfield 129, 3) := by decide +kernel
theorem dX10_rake_54 : decode cX10_rake 54 = .ok (.iload_n 3, 1) := by decide +kernel
theorem dX10_rake_55 : decode cX10_rake 55 = .ok (.ior, 1) := by decide +kernel
theorem dX10_rake_56 : decode cX10_rake 56 = .ok (.goto 14, 3) := by decide +kernel
theorem dX10_rake_59 : decode cX10_rake 59 = .ok (.aload_n 0, 1) := by decide +kernel
theorem dX10_rake_60 : decode cX10_rake 60 = .ok (.getfield 12, 3) := by decide +kernel
theorem dX10_rake_63 : decode cX10_rake 63 = .ok (.getfield 129, 3) := by decide +kernel
theorem dX10_rake_66 : decode cX10_rake 66 = .ok (.iload_n 3, 1) := by decide +kernel
theorem dX10_rake_67 : decode cX10_rake 67 = .ok (.iconst (-1), 1) := by decide +kernel
theorem dX10_rake_68 : decode cX10_rake 68 = .ok (.ixor, 1) := by decide +kernel
theorem dX10_rake_69 : decode cX10_rake 69 = .ok (.iand, 1) := by decide +kernel
theorem dX10_rake_70 : decode cX10_rake 70 = .ok (.putfield 129, 3) := by decide +kernel
theorem dX10_rake_73 : decode cX10_rake 73 = .ok (.iload 4, 2) := by decide +kernel
theorem dX10_rake_75 : decode cX10_rake 75 = .ok (.ireturn, 1) := by decide +kernel
theorem dX10_go_0 : decode cX10_go 0 = .ok (.iload_n 1, 1) := by decide +kernel
theorem dX10_go_1 : decode cX10_go 1 = .ok (.ifCond .lt 9, 3) := by decide +kernel
theorem dX10_go_4 : decode cX10_go 4 = .ok (.iload_n 1, 1) := by decide +kernel
theorem dX10_go_5 : decode cX10_go 5 = .ok (.bipush 60, 2) := by decide +kernel
theorem dX10_go_7 : decode cX10_go 7 = .ok (.if_icmp .le 5, 3) := by decide +kernel
theorem dX10_go_10 : decode cX10_go 10 = .ok (.iconst (-1), 1) := by decide +kernel
theorem dX10_go_11 : decode cX10_go 11 = .ok (.ireturn, 1) := by decide +kernel
theorem dX10_go_12 : decode cX10_go 12 = .ok (.aload_n 0, 1) := by decide +kernel
theorem dX10_go_13 : decode cX10_go 13 = .ok (.getfield 12, 3) := by decide +kernel
theorem dX10_go_16 : decode cX10_go 16 = .ok (.getfield 123, 3) := by decide +kernel
theorem dX10_go_19 : decode cX10_go 19 = .ok (.iload_n 1, 1) := by decide +kernel
theorem dX10_go_20 : decode cX10_go 20 = .ok (.iadd, 1) := by decide +kernel
theorem dX10_go_21 : decode cX10_go 21 = .ok (.sipush 1000, 3) := by decide +kernel
theorem dX10_go_24 : decode cX10_go 24 = .ok (.if_icmp .lt 6, 3) := by decide +kernel
theorem dX10_go_27 : decode cX10_go 27 = .ok (.bipush (-3), 2) := by decide +kernel
theorem dX10_go_29 : decode cX10_go 29 = .ok (.ireturn, 1) := by decide +kernel
theorem dX10_go_30 : decode cX10_go 30 = .ok (.aload_n 0, 1) := by decide +kernel
theorem dX10_go_31 : decode cX10_go 31 = .ok (.getfield 12, 3) := by decide +kernel
theorem dX10_go_34 : decode cX10_go 34 = .ok (.iload_n 1, 1) := by decide +kernel
theorem dX10_go_35 : decode cX10_go 35 = .ok (.invokevirtual 196, 3) := by decide +kernel
theorem dX10_go_38 : decode cX10_go 38 = .ok (.aload_n 0, 1) := by decide +kernel
theorem dX10_go_39 : decode cX10_go 39 = .ok (.getfield 12, 3) := by decide +kernel
theorem dX10_go_42 : decode cX10_go 42 = .ok (.iconst 2, 1) := by decide +kernel
theorem dX10_go_43 : decode cX10_go 43 = .ok (.invokevirtual 200, 3) := by decide +kernel
theorem dX10_go_46 : decode cX10_go 46 = .ok (.ireturn, 1) := by decide +kernel
theorem dX10_ahead_0 : decode cX10_ahead 0 = .ok (.aload_n 0, 1) := by decide +kernel
theorem dX10_ahead_1 : decode cX10_ahead 1 = .ok (.getfield 12, 3) := by decide +kernel
theorem dX10_ahead_4 : decode cX10_ahead 4 = .ok (.iload_n 1, 1) := by decide +kernel
theorem dX10_ahead_5 : decode cX10_ahead 5 = .ok (.invokevirtual 148, 3) := by decide +kernel
theorem dX10_ahead_8 : decode cX10_ahead 8 = .ok (.ifCond .eq 13, 3) := by decide +kernel
theorem dX10_ahead_11 : decode cX10_ahead 11 = .ok (.iload_n 2, 1) := by decide +kernel
theorem dX10_ahead_12 : decode cX10_ahead 12 = .ok (.ifCond .lt 9, 3) := by decide +kernel
theorem dX10_ahead_15 : decode cX10_ahead 15 = .ok (.iload_n 2, 1) := by decide +kernel
theorem dX10_ahead_16 : decode cX10_ahead 16 = .ok (.bipush 60, 2) := by decide +kernel
theorem dX10_ahead_18 : decode cX10_ahead 18 = .ok (.if_icmp .le 5, 3) := by decide +kernel
theorem dX10_ahead_21 : decode cX10_ahead 21 = .ok (.iconst (-1), 1) := by decide +kernel
theorem dX10_ahead_22 : decode cX10_ahead 22 = .ok (.ireturn, 1) := by decide +kernel
theorem dX10_ahead_23 : decode cX10_ahead 23 = .ok (.aload_n 0, 1) := by decide +kernel
theorem dX10_ahead_24 : decode cX10_ahead 24 = .ok (.getfield 16, 3) := by decide +kernel
theorem dX10_ahead_27 : decode cX10_ahead 27 = .ok (.aload_n 0, 1) := by decide +kernel
theorem dX10_ahead_28 : decode cX10_ahead 28 = .ok (.getfield 12, 3) := by decide +kernel
theorem dX10_ahead_31 : decode cX10_ahead 31 = .ok (.invokevirtual 98, 3) := by decide +kernel
theorem dX10_ahead_34 : decode cX10_ahead 34 = .ok (.aload_n 0, 1) := by decide +kernel
theorem dX10_ahead_35 : decode cX10_ahead 35 = .ok (.getfield 16, 3) := by decide +kernel
theorem dX10_ahead_38 : decode cX10_ahead 38 = .ok (.iload_n 2, 1) := by decide +kernel
theorem dX10_ahead_39 : decode cX10_ahead 39 = .ok (.invokevirtual 196, 3) := by decide +kernel
theorem dX10_ahead_42 : decode cX10_ahead 42 = .ok (.aload_n 0, 1) := by decide +kernel
theorem dX10_ahead_43 : decode cX10_ahead 43 = .ok (.getfield 16, 3) := by decide +kernel
theorem dX10_ahead_46 : decode cX10_ahead 46 = .ok (.getfield 151, 3) := by decide +kernel
theorem dX10_ahead_49 : decode cX10_ahead 49 = .ok (.iload_n 1, 1) := by decide +kernel
theorem dX10_ahead_50 : decode cX10_ahead 50 = .ok (.aaload, 1) := by decide +kernel
theorem dX10_ahead_51 : decode cX10_ahead 51 = .ok (.iload_n 3, 1) := by decide +kernel
theorem dX10_ahead_52 : decode cX10_ahead 52 = .ok (.invokevirtual 155, 3) := by decide +kernel
theorem dX10_ahead_55 : decode cX10_ahead 55 = .ok (.ireturn, 1) := by decide +kernel
theorem dX10_later_0 : decode cX10_later 0 = .ok (.aload_n 0, 1) := by decide +kernel
theorem dX10_later_1 : decode cX10_later 1 = .ok (.getfield 12, 3) := by decide +kernel
theorem dX10_later_4 : decode cX10_later 4 = .ok (.getfield 105, 3) := by decide +kernel
theorem dX10_later_7 : decode cX10_later 7 = .ok (.iload_n 1, 1) := by decide +kernel
theorem dX10_later_8 : decode cX10_later 8 = .ok (.invokevirtual 132, 3) := by decide +kernel
theorem dX10_later_11 : decode cX10_later 11 = .ok (.ifCond .eq 13, 3) := by decide +kernel
theorem dX10_later_14 : decode cX10_later 14 = .ok (.iload_n 2, 1) := by decide +kernel
theorem dX10_later_15 : decode cX10_later 15 = .ok (.ifCond .lt 9, 3) := by decide +kernel
theorem dX10_later_18 : decode cX10_later 18 = .ok (.iload_n 2, 1) := by decide +kernel
theorem dX10_later_19 : decode cX10_later 19 = .ok (.bipush 60, 2) := by decide +kernel
theorem dX10_later_21 : decode cX10_later 21 = .ok (.if_icmp .le 5, 3) := by decide +kernel
theorem dX10_later_24 : decode cX10_later 24 = .ok (.iconst (-1), 1) := by decide +kernel
theorem dX10_later_25 : decode cX10_later 25 = .ok (.ireturn, 1) := by decide +kernel
theorem dX10_later_26 : decode cX10_later 26 = .ok (.aload_n 0, 1) := by decide +kernel
theorem dX10_later_27 : decode cX10_later 27 = .ok (.getfield 16, 3) := by decide +kernel
theorem dX10_later_30 : decode cX10_later 30 = .ok (.aload_n 0, 1) := by decide +kernel
theorem dX10_later_31 : decode cX10_later 31 = .ok (.getfield 12, 3) := by decide +kernel
theorem dX10_later_34 : decode cX10_later 34 = .ok (.invokevirtual 98, 3) := by decide +kernel
theorem dX10_later_37 : decode cX10_later 37 = .ok (.aload_n 0, 1) := by decide +kernel
theorem dX10_later_38 : decode cX10_later 38 = .ok (.getfield 16, 3) := by decide +kernel
theorem dX10_later_41 : decode cX10_later 41 = .ok (.iload_n 2, 1) := by decide +kernel
theorem dX10_later_42 : decode cX10_later 42 = .ok (.invokevirtual 196, 3) := by decide +kernel
theorem dX10_later_45 : decode cX10_later 45 = .ok (.aload_n 0, 1) := by decide +kernel
theorem dX10_later_46 : decode cX10_later 46 = .ok (.getfield 16, 3) := by decide +kernel
theorem dX10_later_49 : decode cX10_later 49 = .ok (.getfield 105, 3) := by decide +kernel
theorem dX10_later_52 : decode cX10_later 52 = .ok (.getfield 135, 3) := by decide +kernel
theorem dX10_later_55 : decode cX10_later 55 = .ok (.iload_n 1, 1) := by decide +kernel
theorem dX10_later_56 : decode cX10_later 56 = .ok (.iaload, 1) := by decide +kernel
theorem dX10_later_57 : decode cX10_later 57 = .ok (.ireturn, 1) := by decide +kernel
theorem dX10_when_0 : decode cX10_when 0 = .ok (.aload_n 0, 1) := by decide +kernel
theorem dX10_when_1 : decode cX10_when 1 = .ok (.getfield 12, 3) := by decide +kernel
theorem dX10_when_4 : decode cX10_when 4 = .ok (.iload_n 1, 1) := by decide +kernel
theorem dX10_when_5 : decode cX10_when 5 = .ok (.invokevirtual 148, 3) := by decide +kernel
theorem dX10_when_8 : decode cX10_when 8 = .ok (.ifCond .eq 12, 3) := by decide +kernel
theorem dX10_when_11 : decode cX10_when 11 = .ok (.iload_n 2, 1) := by decide +kernel
theorem dX10_when_12 : decode cX10_when 12 = .ok (.ifCond .lt 8, 3) := by decide +kernel
theorem dX10_when_15 : decode cX10_when 15 = .ok (.iload_n 2, 1) := by decide +kernel
theorem dX10_when_16 : decode cX10_when 16 = .ok (.iconst 2, 1) := by decide +kernel
theorem dX10_when_17 : decode cX10_when 17 = .ok (.if_icmp .le 5, 3) := by decide +kernel
theorem dX10_when_20 : decode cX10_when 20 = .ok (.iconst (-1), 1) := by decide +kernel
theorem dX10_when_21 : decode cX10_when 21 = .ok (.ireturn, 1) := by decide +kernel
theorem dX10_when_22 : decode cX10_when 22 = .ok (.aload_n 0, 1) := by decide +kernel
theorem dX10_when_23 : decode cX10_when 23 = .ok (.getfield 16, 3) := by decide +kernel
theorem dX10_when_26 : decode cX10_when 26 = .ok (.aload_n 0, 1) := by decide +kernel
theorem dX10_when_27 : decode cX10_when 27 = .ok (.getfield 12, 3) := by decide +kernel
theorem dX10_when_30 : decode cX10_when 30 = .ok (.invokevirtual 98, 3) := by decide +kernel
theorem dX10_when_33 : decode cX10_when 33 = .ok (.aload_n 0, 1) := by decide +kernel
theorem dX10_when_34 : decode cX10_when 34 = .ok (.getfield 16, 3) := by decide +kernel
theorem dX10_when_37 : decode cX10_when 37 = .ok (.getfield 151, 3) := by decide +kernel
theorem dX10_when_40 : decode cX10_when 40 = .ok (.iload_n 1, 1) := by decide +kernel
theorem dX10_when_41 : decode cX10_when 41 = .ok (.aaload, 1) := by decide +kernel
theorem dX10_when_42 : decode cX10_when 42 = .ok (.astore_n 3, 1) := by decide +kernel
theorem dX10_when_43 : decode cX10_when 43 = .ok (.iconst 0, 1) := by decide +kernel
theorem dX10_when_44 : decode cX10_when 44 = .ok (.istore 4, 2) := by decide +kernel
theorem dX10_when_46 : decode cX10_when 46 = .ok (.iconst 0, 1) := by decide +kernel
theorem dX10_when_47 : decode cX10_when 47 = .ok (.istore 5, 2) := by decide +kernel
theorem dX10_when_49 : decode cX10_when 49 = .ok (.iload 5, 2) := by decide +kernel
theorem dX10_when_51 : decode cX10_when 51 = .ok (.bipush 40, 2) := by decide +kernel
theorem dX10_when_53 : decode cX10_when 53 = .ok (.if_icmp .gt 52, 3) := by decide +kernel
theorem dX10_when_56 : decode cX10_when 56 = .ok (.iload_n 2, 1) := by decide +kernel
theorem dX10_when_57 : decode cX10_when 57 = .ok (.ifCond .ne 10, 3) := by decide +kernel
theorem dX10_when_60 : decode cX10_when 60 = .ok (.aload_n 3, 1) := by decide +kernel
theorem dX10_when_61 : decode cX10_when 61 = .ok (.invokevirtual 203, 3) := by decide +kernel
theorem dX10_when_64 : decode cX10_when 64 = .ok (.ifCond .ne 15, 3) := by decide +kernel
theorem dX10_when_67 : decode cX10_when 67 = .ok (.iload_n 2, 1) := by decide +kernel
theorem dX10_when_68 : decode cX10_when 68 = .ok (.iconst 1, 1) := by decide +kernel
theorem dX10_when_69 : decode cX10_when 69 = .ok (.if_icmp .ne 13, 3) := by decide +kernel
theorem dX10_when_72 : decode cX10_when 72 = .ok (.aload_n 3, 1) := by decide +kernel
theorem dX10_when_73 : decode cX10_when 73 = .ok (.invokevirtual 207, 3) := by decide +kernel
theorem dX10_when_76 : decode cX10_when 76 = .ok (.ifCond .eq 6, 3) := by decide +kernel
theorem dX10_when_79 : decode cX10_when 79 = .ok (.iload 5, 2) := by decide +kernel
theorem dX10_when_81 : decode cX10_when 81 = .ok (.ireturn, 1) := by decide +kernel
theorem dX10_when_82 : decode cX10_when 82 = .ok (.aload_n 3, 1) := by decide +kernel
theorem dX10_when_83 : decode cX10_when 83 = .ok (.invokevirtual 210, 3) := by decide +kernel
theorem dX10_when_86 : decode cX10_when 86 = .ok (.ifCond .eq 6, 3) := by decide +kernel
theorem dX10_when_89 : decode cX10_when 89 = .ok (.iinc 4 1, 3) := by decide +kernel
theorem dX10_when_92 : decode cX10_when 92 = .ok (.aload_n 0, 1) := by decide +kernel
theorem dX10_when_93 : decode cX10_when 93 = .ok (.getfield 16, 3) := by decide +kernel
theorem dX10_when_96 : decode cX10_when 96 = .ok (.invokevirtual 213, 3) := by decide +kernel
theorem dX10_when_99 : decode cX10_when 99 = .ok (.iinc 5 1, 3) := by decide +kernel
theorem dX10_when_102 : decode cX10_when 102 = .ok (.goto (-53), 3) := by decide +kernel
theorem dX10_when_105 : decode cX10_when 105 = .ok (.iload_n 2, 1) := by decide +kernel
theorem dX10_when_106 : decode cX10_when 106 = .ok (.iconst 2, 1) := by decide +kernel
theorem dX10_when_107 : decode cX10_when 107 = .ok (.if_icmp .ne 8, 3) := by decide +kernel
theorem dX10_when_110 : decode cX10_when 110 = .ok (.iload 4, 2) := by decide +kernel
theorem dX10_when_112 : decode cX10_when 112 = .ok (.goto 5, 3) := by decide +kernel
theorem dX10_when_115 : decode cX10_when 115 = .ok (.bipush (-4), 2) := by decide +kernel
theorem dX10_when_117 : decode cX10_when 117 = .ok (.ireturn, 1) := by decide +kernel
theorem dX10_places_0 : decode cX10_places 0 = .ok (.iload_n 2, 1) := by decide +kernel
theorem dX10_places_1 : decode cX10_places 1 = .ok (.bipush 10, 2) := by decide +kernel
theorem dX10_places_3 : decode cX10_places 3 = .ok (.isub, 1) := by decide +kernel
theorem dX10_places_4 : decode cX10_places 4 = .ok (.istore_n 3, 1) := by decide +kernel
theorem dX10_places_5 : decode cX10_places 5 = .ok (.iload_n 1, 1) := by decide +kernel
theorem dX10_places_6 : decode cX10_places 6 = .ok (.ifCond .lt 24, 3) := by decide +kernel
theorem dX10_places_9 : decode cX10_places 9 = .ok (.iload_n 1, 1) := by decide +kernel
theorem dX10_places_10 : decode cX10_places 10 = .ok (.bipush 20, 2) := by decide +kernel
theorem dX10_places_12 : decode cX10_places 12 = .ok (.if_icmp .gt 18, 3) := by decide +kernel
theorem dX10_places_15 : decode cX10_places 15 = .ok (.iload_n 2, 1) := by decide +kernel
theorem dX10_places_16 : decode cX10_places 16 = .ok (.ifCond .eq 16, 3) := by decide +kernel
theorem dX10_places_19 : decode cX10_places 19 = .ok (.aload_n 0, 1) := by decide +kernel
theorem dX10_places_20 : decode cX10_places 20 = .ok (.getfield 12, 3) := by decide +kernel
theorem dX10_places_23 : decode cX10_places 23 = .ok (.iload_n 3, 1) := by decide +kernel
theorem dX10_places_24 : decode cX10_places 24 = .ok (.invokevirtual 148, 3) := by decide +kernel
theorem dX10_places_27 : decode cX10_places 27 = .ok (.ifCond .ne 5, 3) := by decide +kernel
theorem dX10_places_30 : decode cX10_places 30 = .ok (.iconst (-1), 1) := by decide +kernel
theorem dX10_places_31 : decode cX10_places 31 = .ok (.ireturn, 1) := by decide +kernel
theorem dX10_places_32 : decode cX10_places 32 = .ok (.aload_n 0, 1) := by decide +kernel
theorem dX10_places_33 : decode cX10_places 33 = .ok (.getfield 44, 3) := by decide +kernel
theorem dX10_places_36 : decode cX10_places 36 = .ok (.aload_n 0, 1) := by decide +kernel
theorem dX10_places_37 : decode cX10_places 37 = .ok (.getfield 12, 3) := by decide +kernel
theorem dX10_places_40 : decode cX10_places 40 = .ok (.aload_n 0, 1) := by decide +kernel
theorem dX10_places_41 : decode cX10_places 41 = .ok (.getfield 37, 3) := by decide +kernel
theorem dX10_places_44 : decode cX10_places 44 = .ok (.iload_n 1, 1) := by decide +kernel
theorem dX10_places_45 : decode cX10_places 45 = .ok (.invokevirtual 216, 3) := by decide +kernel
theorem dX10_places_48 : decode cX10_places 48 = .ok (.iload_n 2, 1) := by decide +kernel
theorem dX10_places_49 : decode cX10_places 49 = .ok (.ifCond .ne 13, 3) := by decide +kernel
theorem dX10_places_52 : decode cX10_places 52 = .ok (.aload_n 0, 1) := by decide +kernel
theorem dX10_places_53 : decode cX10_places 53 = .ok (.getfield 44, 3) := by decide +kernel
theorem dX10_places_56 : decode cX10_places 56 = .ok (.iconst 0, 1) := by decide +kernel
theorem dX10_places_57 : decode cX10_places 57 = .ok (.iconst 0, 1) := by decide +kernel
theorem dX10_places_58 : decode cX10_places 58 = .ok (.invokevirtual 220, 3) := by decide +kernel
theorem dX10_places_61 : decode cX10_places 61 = .ok (.ireturn, 1) := by decide +kernel
theorem dX10_places_62 : decode cX10_places 62 = .ok (.aload_n 0, 1) := by decide +kernel
theorem dX10_places_63 : decode cX10_places 63 = .ok (.getfield 44, 3) := by decide +kernel
theorem dX10_places_66 : decode cX10_places 66 = .ok (.aload_n 0, 1) := by decide +kernel
theorem dX10_places_67 : decode cX10_places 67 = .ok (.getfield 12, 3) := by decide +kernel
theorem dX10_places_70 : decode cX10_places 70 = .ok (.getfield 105, 3) := by decide +kernel
theorem dX10_places_73 : decode cX10_places 73 = .ok (.invokevirtual 224, 3) := by decide +kernel
theorem dX10_places_76 : decode cX10_places 76 = .ok (.invokevirtual 228, 3) := by decide +kernel
theorem dX10_places_79 : decode cX10_places 79 = .ok (.aload_n 0, 1) := by decide +kernel
theorem dX10_places_80 : decode cX10_places 80 = .ok (.getfield 44, 3) := by decide +kernel
theorem dX10_places_83 : decode cX10_places 83 = .ok (.getfield 231, 3) := by decide +kernel
theorem dX10_places_86 : decode cX10_places 86 = .ok (.iload_n 3, 1) := by decide +kernel
theorem dX10_places_87 : decode cX10_places 87 = .ok (.iaload, 1) := by decide +kernel
theorem dX10_places_88 : decode cX10_places 88 = .ok (.ireturn, 1) := by decide +kernel
theorem dX10_flip_0 : decode cX10_flip 0 = .ok (.aload_n 0, 1) := by decide +kernel
theorem dX10_flip_1 : decode cX10_flip 1 = .ok (.getfield 12, 3) := by decide +kernel
theorem dX10_flip_4 : decode cX10_flip 4 = .ok (.iload_n 1, 1) := by decide +kernel
theorem dX10_flip_5 : decode cX10_flip 5 = .ok (.invokevirtual 148, 3) := by decide +kernel
theorem dX10_flip_8 : decode cX10_flip 8 = .ok (.ifCond .eq 14, 3) := by decide +kernel
theorem dX10_flip_11 : decode cX10_flip 11 = .ok (.iload_n 2, 1) := by decide +kernel
theorem dX10_flip_12 : decode cX10_flip 12 = .ok (.iconst 1, 1) := by decide +kernel
theorem dX10_flip_13 : decode cX10_flip 13 = .ok (.if_icmp .lt 9, 3) := by decide +kernel
theorem dX10_flip_16 : decode cX10_flip 16 = .ok (.iload_n 2, 1) := by decide +kernel
theorem dX10_flip_17 : decode cX10_flip 17 = .ok (.bipush 20, 2) := by decide +kernel
theorem dX10_flip_19 : decode cX10_flip 19 = .ok (.if_icmp .le 5, 3) := by decide +kernel
theorem dX10_flip_22 : decode cX10_flip 22 = .ok (.iconst (-1), 1) := by decide +kernel
theorem dX10_flip_23 : decode cX10_flip 23 = .ok (.ireturn, 1) := by decide +kernel
theorem dX10_flip_24 : decode cX10_flip 24 = .ok (.aload_n 0, 1) := by decide +kernel
theorem dX10_flip_25 : decode cX10_flip 25 = .ok (.getfield 12, 3) := by decide +kernel
theorem dX10_flip_28 : decode cX10_flip 28 = .ok (.getfield 151, 3) := by decide +kernel
theorem dX10_flip_31 : decode cX10_flip 31 = .ok (.iload_n 1, 1) := by decide +kernel
theorem dX10_flip_32 : decode cX10_flip 32 = .ok (.aaload, 1) := by decide +kernel
theorem dX10_flip_33 : decode cX10_flip 33 = .ok (.astore_n 3, 1) := by decide +kernel
theorem dX10_flip_34 : decode cX10_flip 34 = .ok (.aload_n 0, 1) := by decide +kernel
theorem dX10_flip_35 : decode cX10_flip 35 = .ok (.getfield 37, 3) := by decide +kernel
theorem dX10_flip_38 : decode cX10_flip 38 = .ok (.aload_n 0, 1) := by decide +kernel
theorem dX10_flip_39 : decode cX10_flip 39 = .ok (.getfield 12, 3) := by decide +kernel
theorem dX10_flip_42 : decode cX10_flip 42 = .ok (.getfield 105, 3) := by decide +kernel
theorem dX10_flip_45 : decode cX10_flip 45 = .ok (.aload_n 3, 1) := by decide +kernel
theorem dX10_flip_46 : decode cX10_flip 46 = .ok (.getfield 181, 3) := by decide +kernel
theorem dX10_flip_49 : decode cX10_flip 49 = .ok (.iload_n 2, 1) := by decide +kernel
theorem dX10_flip_50 : decode cX10_flip 50 = .ok (.invokevirtual 234, 3) := by decide +kernel
theorem dX10_flip_53 : decode cX10_flip 53 = .ok (.aload_n 0, 1) := by decide +kernel
theorem dX10_flip_54 : decode cX10_flip 54 = .ok (.getfield 37, 3) := by decide +kernel
theorem dX10_flip_57 : decode cX10_flip 57 = .ok (.aload_n 3, 1) := by decide +kernel
theorem dX10_flip_58 : decode cX10_flip 58 = .ok (.getfield 190, 3) := by decide +kernel
theorem dX10_flip_61 : decode cX10_flip 61 = .ok (.iload_n 2, 1) := by decide +kernel
theorem dX10_flip_62 : decode cX10_flip 62 = .ok (.invokevirtual 238, 3) := by decide +kernel
theorem dX10_flip_65 : decode cX10_flip 65 = .ok (.istore 4, 2) := by decide +kernel
theorem dX10_flip_67 : decode cX10_flip 67 = .ok (.iconst 0, 1) := by decide +kernel
theorem dX10_flip_68 : decode cX10_flip 68 = .ok (.istore 5, 2) := by decide +kernel
theorem dX10_flip_70 : decode cX10_flip 70 = .ok (.iload 5, 2) := by decide +kernel
theorem dX10_flip_72 : decode cX10_flip 72 = .ok (.iload_n 2, 1) := by decide +kernel
theorem dX10_flip_73 : decode cX10_flip 73 = .ok (.if_icmp .ge 57, 3) := by decide +kernel
theorem dX10_flip_76 : decode cX10_flip 76 = .ok (.aload_n 0, 1) := by decide +kernel
theorem dX10_flip_77 : decode cX10_flip 77 = .ok (.getfield 37, 3) := by decide +kernel
theorem dX10_flip_80 : decode cX10_flip 80 = .ok (.aload_n 3, 1) := by decide +kernel
theorem dX10_flip_81 : decode cX10_flip 81 = .ok (.getfield 190, 3) := by decide +kernel
theorem dX10_flip_84 : decode cX10_flip 84 = .ok (.iconst 0, 1) := by decide +kernel
theorem dX10_flip_85 : decode cX10_flip 85 = .ok (.iload 5, 2) := by decide +kernel
theorem dX10_flip_87 : decode cX10_flip 87 = .ok (.invokevirtual 241, 3) := by decide +kernel
theorem dX10_flip_90 : decode cX10_flip 90 = .ok (.istore 6, 2) := by decide +kernel
theorem dX10_flip_92 : decode cX10_flip 92 = .ok (.aload_n 0, 1) := by decide +kernel
theorem dX10_flip_93 : decode cX10_flip 93 = .ok (.getfield 37, 3) := by decide +kernel
theorem dX10_flip_96 : decode cX10_flip 96 = .ok (.aload_n 3, 1) := by decide +kernel
theorem dX10_flip_97 : decode cX10_flip 97 = .ok (.getfield 190, 3) := by decide +kernel
theorem dX10_flip_100 : decode cX10_flip 100 = .ok (.iload 5, 2) := by decide +kernel
theorem dX10_flip_102 : decode cX10_flip 102 = .ok (.iload_n 2, 1) := by decide +kernel
theorem dX10_flip_103 : decode cX10_flip 103 = .ok (.invokevirtual 241, 3) := by decide +kernel
theorem dX10_flip_106 : decode cX10_flip 106 = .ok (.istore 7, 2) := by decide +kernel
theorem dX10_flip_108 : decode cX10_flip 108 = .ok (.aload_n 3, 1) := by decide +kernel
theorem dX10_flip_109 : decode cX10_flip 109 = .ok (.iload 4, 2) := by decide +kernel
theorem dX10_flip_111 : decode cX10_flip 111 = .ok (.iload 6, 2) := by decide +kernel
theorem dX10_flip_113 : decode cX10_flip 113 = .ok (.iload 7, 2) := by decide +kernel
theorem dX10_flip_115 : decode cX10_flip 115 = .ok (.invokevirtual 245, 3) := by decide +kernel
theorem dX10_flip_118 : decode cX10_flip 118 = .ok (.ifCond .eq 6, 3) := by decide +kernel
theorem dX10_flip_121 : decode cX10_flip 121 = .ok (.iload 5, 2) := by decide +kernel
theorem dX10_flip_123 : decode cX10_flip 123 = .ok (.ireturn, 1) := by decide +kernel
theorem dX10_flip_124 : decode cX10_flip 124 = .ok (.iinc 5 1, 3) := by decide +kernel
theorem dX10_flip_127 : decode cX10_flip 127 = .ok (.goto (-57), 3) := by decide +kernel
theorem dX10_flip_130 : decode cX10_flip 130 = .ok (.bipush (-4), 2) := by decide +kernel
theorem dX10_flip_132 : decode cX10_flip 132 = .ok (.ireturn, 1) := by decide +kernel
theorem dX10_least_0 : decode cX10_least 0 = .ok (.aload_n 0, 1) := by decide +kernel
theorem dX10_least_1 : decode cX10_least 1 = .ok (.getfield 12, 3) := by decide +kernel
theorem dX10_least_4 : decode cX10_least 4 = .ok (.iload_n 1, 1) := by decide +kernel
theorem dX10_least_5 : decode cX10_least 5 = .ok (.invokevirtual 148, 3) := by decide +kernel
theorem dX10_least_8 : decode cX10_least 8 = .ok (.ifCond .eq 14, 3) := by decide +kernel
theorem dX10_least_11 : decode cX10_least 11 = .ok (.iload_n 2, 1) := by decide +kernel
theorem dX10_least_12 : decode cX10_least 12 = .ok (.iconst 1, 1) := by decide +kernel
theorem dX10_least_13 : decode cX10_least 13 = .ok (.if_icmp .lt 9, 3) := by decide +kernel
theorem dX10_least_16 : decode cX10_least 16 = .ok (.iload_n 2, 1) := by decide +kernel
theorem dX10_least_17 : decode cX10_least 17 = .ok (.bipush 20, 2) := by decide +kernel
theorem dX10_least_19 : decode cX10_least 19 = .ok (.if_icmp .le 5, 3) := by decide +kernel
theorem dX10_least_22 : decode cX10_least 22 = .ok (.iconst (-1), 1) := by decide +kernel
theorem dX10_least_23 : decode cX10_least 23 = .ok (.ireturn, 1) := by decide +kernel
theorem dX10_least_24 : decode cX10_least 24 = .ok (.aload_n 0, 1) := by decide +kernel
theorem dX10_least_25 : decode cX10_least 25 = .ok (.getfield 12, 3) := by decide +kernel
theorem dX10_least_28 : decode cX10_least 28 = .ok (.getfield 151, 3) := by decide +kernel
theorem dX10_least_31 : decode cX10_least 31 = .ok (.iload_n 1, 1) := by decide +kernel
theorem dX10_least_32 : decode cX10_least 32 = .ok (.aaload, 1) := by decide +kernel
theorem dX10_least_33 : decode cX10_least 33 = .ok (.astore_n 3, 1) := by decide +kernel
theorem dX10_least_34 : decode cX10_least 34 = .ok (.aload_n 3, 1) := by decide +kernel
theorem dX10_least_35 : decode cX10_least 35 = .ok (.getfield 181, 3) := by decide +kernel
theorem dX10_least_38 : decode cX10_least 38 = .ok (.bipush (-4), 2) := by decide +kernel
theorem dX10_least_40 : decode cX10_least 40 = .ok (.if_icmp .ne 6, 3) := by decide +kernel
theorem dX10_least_43 : decode cX10_least 43 = .ok (.bipush (-2), 2) := by decide +kernel
theorem dX10_least_45 : decode cX10_least 45 = .ok (.ireturn, 1) := by decide +kernel
theorem dX10_least_46 : decode cX10_least 46 = .ok (.iconst 0, 1) := by decide +kernel
theorem dX10_least_47 : decode cX10_least 47 = .ok (.istore 4, 2) := by decide +kernel
theorem dX10_least_49 : decode cX10_least 49 = .ok (.iload 4, 2) := by decide +kernel
theorem dX10_least_51 : decode cX10_least 51 = .ok (.bipush 99, 2) := by decide +kernel
theorem dX10_least_53 : decode cX10_least 53 = .ok (.if_icmp .gt 99, 3) := by decide +kernel
theorem dX10_least_56 : decode cX10_least 56 = .ok (.aload_n 0, 1) := by decide +kernel
theorem dX10_least_57 : decode cX10_least 57 = .ok (.getfield 37, 3) := by decide +kernel
theorem dX10_least_60 : decode cX10_least 60 = .ok (.aload_n 0, 1) := by decide +kernel
theorem dX10_least_61 : decode cX10_least 61 = .ok (.getfield 12, 3) := by decide +kernel
theorem dX10_least_64 : decode cX10_least 64 = .ok (.getfield 105, 3) := by decide +kernel
theorem dX10_least_67 : decode cX10_least 67 = .ok (.aload_n 3, 1) := by decide +kernel
theorem dX10_least_68 : decode cX10_least 68 = .ok (.getfield 181, 3) := by decide +kernel
theorem dX10_least_71 : decode cX10_least 71 = .ok (.invokevirtual 248, 3) := by decide +kernel
theorem dX10_least_74 : decode cX10_least 74 = .ok (.aload_n 0, 1) := by decide +kernel
theorem dX10_least_75 : decode cX10_least 75 = .ok (.getfield 37, 3) := by decide +kernel
theorem dX10_least_78 : decode cX10_least 78 = .ok (.iload 4, 2) := by decide +kernel
theorem dX10_least_80 : decode cX10_least 80 = .ok (.aload_n 3, 1) := by decide +kernel
theorem dX10_least_81 : decode cX10_least 81 = .ok (.getfield 181, 3) := by decide +kernel
theorem dX10_least_84 : decode cX10_least 84 = .ok (.iconst 1, 1) := by decide +kernel
theorem dX10_least_85 : decode cX10_least 85 = .ok (.invokevirtual 252, 3) := by decide +kernel
theorem dX10_least_88 : decode cX10_least 88 = .ok (.aload_n 0, 1) := by decide +kernel
theorem dX10_least_89 : decode cX10_least 89 = .ok (.getfield 37, 3) := by decide +kernel
theorem dX10_least_92 : decode cX10_least 92 = .ok (.aload_n 0, 1) := by decide +kernel
theorem dX10_least_93 : decode cX10_least 93 = .ok (.getfield 12, 3) := by decide +kernel
theorem dX10_least_96 : decode cX10_least 96 = .ok (.getfield 105, 3) := by decide +kernel
theorem dX10_least_99 : decode cX10_least 99 = .ok (.aload_n 3, 1) := by decide +kernel
theorem dX10_least_100 : decode cX10_least 100 = .ok (.getfield 181, 3) := by decide +kernel
theorem dX10_least_103 : decode cX10_least 103 = .ok (.invokevirtual 256, 3) := by decide +kernel
theorem dX10_least_106 : decode cX10_least 106 = .ok (.aload_n 0, 1) := by decide +kernel
theorem dX10_least_107 : decode cX10_least 107 = .ok (.getfield 12, 3) := by decide +kernel
theorem dX10_least_110 : decode cX10_least 110 = .ok (.getfield 105, 3) := by decide +kernel
theorem dX10_least_113 : decode cX10_least 113 = .ok (.aload_n 3, 1) := by decide +kernel
theorem dX10_least_114 : decode cX10_least 114 = .ok (.getfield 181, 3) := by decide +kernel
theorem dX10_least_117 : decode cX10_least 117 = .ok (.invokevirtual 259, 3) := by decide +kernel
theorem dX10_least_120 : decode cX10_least 120 = .ok (.iload_n 2, 1) := by decide +kernel
theorem dX10_least_121 : decode cX10_least 121 = .ok (.invokevirtual 262, 3) := by decide +kernel
theorem dX10_least_124 : decode cX10_least 124 = .ok (.aload_n 3, 1) := by decide +kernel
theorem dX10_least_125 : decode cX10_least 125 = .ok (.aload_n 0, 1) := by decide +kernel
theorem dX10_least_126 : decode cX10_least 126 = .ok (.getfield 37, 3) := by decide +kernel
theorem dX10_least_129 : decode cX10_least 129 = .ok (.aload_n 3, 1) := by decide +kernel
theorem dX10_least_130 : decode cX10_least 130 = .ok (.getfield 190, 3) := by decide +kernel
theorem dX10_least_133 : decode cX10_least 133 = .ok (.iload_n 2, 1) := by decide +kernel
theorem dX10_least_134 : decode cX10_least 134 = .ok (.invokevirtual 238, 3) := by decide +kernel
theorem dX10_least_137 : decode cX10_least 137 = .ok (.invokevirtual 265, 3) := by decide +kernel
theorem dX10_least_140 : decode cX10_least 140 = .ok (.ifCond .eq 6, 3) := by decide +kernel
theorem dX10_least_143 : decode cX10_least 143 = .ok (.iload 4, 2) := by decide +kernel
theorem dX10_least_145 : decode cX10_least 145 = .ok (.ireturn, 1) := by decide +kernel
theorem dX10_least_146 : decode cX10_least 146 = .ok (.iinc 4 1, 3) := by decide +kernel
theorem dX10_least_149 : decode cX10_least 149 = .ok (.goto (-100), 3) := by decide +kernel
theorem dX10_least_152 : decode cX10_least 152 = .ok (.bipush (-4), 2) := by decide +kernel
theorem dX10_least_154 : decode cX10_least 154 = .ok (.ireturn, 1) := by decide +kernel
theorem dX10_best_0 : decode cX10_best 0 = .ok (.iload_n 1, 1) := by decide +kernel
theorem dX10_best_1 : decode cX10_best 1 = .ok (.ifCond .lt 8, 3) := by decide +kernel
theorem dX10_best_4 : decode cX10_best 4 = .ok (.iload_n 1, 1) := by decide +kernel
theorem dX10_best_5 : decode cX10_best 5 = .ok (.iconst 1, 1) := by decide +kernel
theorem dX10_best_6 : decode cX10_best 6 = .ok (.if_icmp .le 5, 3) := by decide +kernel
theorem dX10_best_9 : decode cX10_best 9 = .ok (.iconst (-1), 1) := by decide +kernel
theorem dX10_best_10 : decode cX10_best 10 = .ok (.ireturn, 1) := by decide +kernel
theorem dX10_best_11 : decode cX10_best 11 = .ok (.aload_n 0, 1) := by decide +kernel
theorem dX10_best_12 : decode cX10_best 12 = .ok (.getfield 16, 3) := by decide +kernel
theorem dX10_best_15 : decode cX10_best 15 = .ok (.aload_n 0, 1) := by decide +kernel
theorem dX10_best_16 : decode cX10_best 16 = .ok (.getfield 12, 3) := by decide +kernel
theorem dX10_best_19 : decode cX10_best 19 = .ok (.invokevirtual 98, 3) := by decide +kernel
theorem dX10_best_22 : decode cX10_best 22 = .ok (.iconst 0, 1) := by decide +kernel
theorem dX10_best_23 : decode cX10_best 23 = .ok (.istore_n 2, 1) := by decide +kernel
theorem dX10_best_24 : decode cX10_best 24 = .ok (.iconst 0, 1) := by decide +kernel
theorem dX10_best_25 : decode cX10_best 25 = .ok (.istore_n 3, 1) := by decide +kernel
theorem dX10_best_26 : decode cX10_best 26 = .ok (.iconst 0, 1) := by decide +kernel
theorem dX10_best_27 : decode cX10_best 27 = .ok (.istore 4, 2) := by decide +kernel
theorem dX10_best_29 : decode cX10_best 29 = .ok (.iload 4, 2) := by decide +kernel
theorem dX10_best_31 : decode cX10_best 31 = .ok (.bipush 20, 2) := by decide +kernel
theorem dX10_best_33 : decode cX10_best 33 = .ok (.if_icmp .gt 38, 3) := by decide +kernel
theorem dX10_best_36 : decode cX10_best 36 = .ok (.aload_n 0, 1) := by decide +kernel
theorem dX10_best_37 : decode cX10_best 37 = .ok (.getfield 16, 3) := by decide +kernel
theorem dX10_best_40 : decode cX10_best 40 = .ok (.iconst 2, 1) := by decide +kernel
theorem dX10_best_41 : decode cX10_best 41 = .ok (.invokevirtual 200, 3) := by decide +kernel
theorem dX10_best_44 : decode cX10_best 44 = .ok (.istore 5, 2) := by decide +kernel
theorem dX10_best_46 : decode cX10_best 46 = .ok (.iload 5, 2) := by decide +kernel
theorem dX10_best_48 : decode cX10_best 48 = .ok (.iload_n 3, 1) := by decide +kernel
theorem dX10_best_49 : decode cX10_best 49 = .ok (.if_icmp .le 9, 3) := by decide +kernel
theorem dX10_best_52 : decode cX10_best 52 = .ok (.iload 5, 2) := by decide +kernel
theorem dX10_best_54 : decode cX10_best 54 = .ok (.istore_n 3, 1) := by decide +kernel
theorem dX10_best_55 : decode cX10_best 55 = .ok (.iload 4, 2) := by decide +kernel
theorem dX10_best_57 : decode cX10_best 57 = .ok (.istore_n 2, 1) := by decide +kernel
theorem dX10_best_58 : decode cX10_best 58 = .ok (.aload_n 0, 1) := by decide +kernel
theorem dX10_best_59 : decode cX10_best 59 = .ok (.getfield 16, 3) := by decide +kernel
theorem dX10_best_62 : decode cX10_best 62 = .ok (.invokevirtual 213, 3) := by decide +kernel
theorem dX10_best_65 : decode cX10_best 65 = .ok (.iinc 4 1, 3) := by decide +kernel
theorem dX10_best_68 : decode cX10_best 68 = .ok (.goto (-39), 3) := by decide +kernel
theorem dX10_best_71 : decode cX10_best 71 = .ok (.iload_n 1, 1) := by decide +kernel
theorem dX10_best_72 : decode cX10_best 72 = .ok (.ifCond .ne 7, 3) := by decide +kernel
theorem dX10_best_75 : decode cX10_best 75 = .ok (.iload_n 2, 1) := by decide +kernel
theorem dX10_best_76 : decode cX10_best 76 = .ok (.goto 4, 3) := by decide +kernel
theorem dX10_best_79 : decode cX10_best 79 = .ok (.iload_n 3, 1) := by decide +kernel
theorem dX10_best_80 : decode cX10_best 80 = .ok (.ireturn, 1) := by decide +kernel
theorem dX10_feel_0 : decode cX10_feel 0 = .ok (.iload_n 1, 1) := by decide +kernel
theorem dX10_feel_1 : decode cX10_feel 1 = .ok (.ifCond .lt 30, 3) := by decide +kernel
theorem dX10_feel_4 : decode cX10_feel 4 = .ok (.iload_n 1, 1) := by decide +kernel
theorem dX10_feel_5 : decode cX10_feel 5 = .ok (.bipush 20, 2) := by decide +kernel
theorem dX10_feel_7 : decode cX10_feel 7 = .ok (.if_icmp .gt 24, 3) := by decide +kernel
theorem dX10_feel_10 : decode cX10_feel 10 = .ok (.aload_n 0, 1) := by decide +kernel
theorem dX10_feel_11 : decode cX10_feel 11 = .ok (.getfield 12, 3) := by decide +kernel
theorem dX10_feel_14 : decode cX10_feel 14 = .ok (.getfield 105, 3) := by decide +kernel
theorem dX10_feel_17 : decode cX10_feel 17 = .ok (.iload_n 2, 1) := by decide +kernel
theorem dX10_feel_18 : decode cX10_feel 18 = .ok (.invokevirtual 132, 3) := by decide +kernel
theorem dX10_feel_21 : decode cX10_feel 21 = .ok (.ifCond .eq 10, 3) := by decide +kernel
theorem dX10_feel_24 : decode cX10_feel 24 = .ok (.iload_n 3, 1) := by decide +kernel
theorem dX10_feel_25 : decode cX10_feel 25 = .ok (.invokestatic 161, 3) := by decide +kernel
theorem dX10_feel_28 : decode cX10_feel 28 = .ok (.ifCond .ne 5, 3) := by decide +kernel
theorem dX10_feel_31 : decode cX10_feel 31 = .ok (.iconst (-1), 1) := by decide +kernel
theorem dX10_feel_32 : decode cX10_feel 32 = .ok (.ireturn, 1) := by decide +kernel
theorem dX10_feel_33 : decode cX10_feel 33 = .ok (.aload_n 0, 1) := by decide +kernel
theorem dX10_feel_34 : decode cX10_feel 34 = .ok (.getfield 12, 3) := by decide +kernel
theorem dX10_feel_37 : decode cX10_feel 37 = .ok (.iload_n 1, 1) := by decide +kernel
theorem dX10_feel_38 : decode cX10_feel 38 = .ok (.iload_n 2, 1) := by decide +kernel
theorem dX10_feel_39 : decode cX10_feel 39 = .ok (.iload_n 3, 1) := by decide +kernel
theorem dX10_feel_40 : decode cX10_feel 40 = .ok (.invokevirtual 268, 3) := by decide +kernel
theorem dX10_feel_43 : decode cX10_feel 43 = .ok (.ifCond .eq 13, 3) := by decide +kernel
theorem dX10_feel_46 : decode cX10_feel 46 = .ok (.aload_n 0, 1) := by decide +kernel
theorem dX10_feel_47 : decode cX10_feel 47 = .ok (.getfield 12, 3) := by decide +kernel
theorem dX10_feel_50 : decode cX10_feel 50 = .ok (.getfield 271, 3) := by decide +kernel
theorem dX10_feel_53 : decode cX10_feel 53 = .ok (.goto 5, 3) := by decide +kernel
theorem dX10_feel_56 : decode cX10_feel 56 = .ok (.bipush (-3), 2) := by decide +kernel
theorem dX10_feel_58 : decode cX10_feel 58 = .ok (.ireturn, 1) := by decide +kernel
theorem dX10_forget_0 : decode cX10_forget 0 = .ok (.iload_n 1, 1) := by decide +kernel
theorem dX10_forget_1 : decode cX10_forget 1 = .ok (.ifCond .lt 14, 3) := by decide +kernel
theorem dX10_forget_4 : decode cX10_forget 4 = .ok (.iload_n 1, 1) := by decide +kernel
theorem dX10_forget_5 : decode cX10_forget 5 = .ok (.aload_n 0, 1) := by decide +kernel
theorem dX10_forget_6 : decode cX10_forget 6 = .ok (.getfield 12, 3) := by decide +kernel
theorem dX10_forget_9 : decode cX10_forget 9 = .ok (.getfield 271, 3) := by decide +kernel
theorem dX10_forget_12 : decode cX10_forget 12 = .ok (.if_icmp .le 5, 3) := by decide +kernel
theorem dX10_forget_15 : decode cX10_forget 15 = .ok (.iconst (-1), 1) := by decide +kernel
theorem dX10_forget_16 : decode cX10_forget 16 = .ok (.ireturn, 1) := by decide +kernel
theorem dX10_forget_17 : decode cX10_forget 17 = .ok (.aload_n 0, 1) := by decide +kernel
theorem dX10_forget_18 : decode cX10_forget 18 = .ok (.getfield 12, 3) := by decide +kernel
theorem dX10_forget_21 : decode cX10_forget 21 = .ok (.getfield 271, 3) := by decide +kernel
theorem dX10_forget_24 : decode cX10_forget 24 = .ok (.istore_n 2, 1) := by decide +kernel
theorem dX10_forget_25 : decode cX10_forget 25 = .ok (.aload_n 0, 1) := by decide +kernel
theorem dX10_forget_26 : decode cX10_forget 26 = .ok (.getfield 12, 3) := by decide +kernel
theorem dX10_forget_29 : decode cX10_forget 29 = .ok (.iload_n 1, 1) := by decide +kernel
theorem dX10_forget_30 : decode cX10_forget 30 = .ok (.putfield 271, 3) := by decide +kernel
theorem dX10_forget_33 : decode cX10_forget 33 = .ok (.iload_n 2, 1) := by decide +kernel
theorem dX10_forget_34 : decode cX10_forget 34 = .ok (.ireturn, 1) := by decide +kernel
theorem dX10_fits_0 : decode cX10_fits 0 = .ok (.iload_n 1, 1) := by decide +kernel
theorem dX10_fits_1 : decode cX10_fits 1 = .ok (.ifCond .lt 8, 3) := by decide +kernel
theorem dX10_fits_4 : decode cX10_fits 4 = .ok (.iload_n 1, 1) := by decide +kernel
theorem dX10_fits_5 : decode cX10_fits 5 = .ok (.iconst 2, 1) := by decide +kernel
theorem dX10_fits_6 : decode cX10_fits 6 = .ok (.if_icmp .le 5, 3) := by decide +kernel
theorem dX10_fits_9 : decode cX10_fits 9 = .ok (.iconst (-1), 1) := by decide +kernel
theorem dX10_fits_10 : decode cX10_fits 10 = .ok (.ireturn, 1) := by decide +kernel
theorem dX10_fits_11 : decode cX10_fits 11 = .ok (.aload_n 0, 1) := by decide +kernel
theorem dX10_fits_12 : decode cX10_fits 12 = .ok (.getfield 58, 3) := by decide +kernel
theorem dX10_fits_15 : decode cX10_fits 15 = .ok (.aload_n 0, 1) := by decide +kernel
theorem dX10_fits_16 : decode cX10_fits 16 = .ok (.getfield 12, 3) := by decide +kernel
theorem dX10_fits_19 : decode cX10_fits 19 = .ok (.aload_n 0, 1) := by decide +kernel
theorem dX10_fits_20 : decode cX10_fits 20 = .ok (.getfield 37, 3) := by decide +kernel
theorem dX10_fits_23 : decode cX10_fits 23 = .ok (.invokevirtual 274, 3) := by decide +kernel
theorem dX10_fits_26 : decode cX10_fits 26 = .ok (.iload_n 1, 1) := by decide +kernel
theorem dX10_fits_27 : decode cX10_fits 27 = .ok (.lookupswitch 41 #[(0, 25), (1, 33)], 25) := by decide +kernel
theorem dX10_fits_52 : decode cX10_fits 52 = .ok (.aload_n 0, 1) := by decide +kernel
theorem dX10_fits_53 : decode cX10_fits 53 = .ok (.getfield 58, 3) := by decide +kernel
theorem dX10_fits_56 : decode cX10_fits 56 = .ok (.getfield 278, 3) := by decide +kernel
theorem dX10_fits_59 : decode cX10_fits 59 = .ok (.ireturn, 1) := by decide +kernel
theorem dX10_fits_60 : decode cX10_fits 60 = .ok (.aload_n 0, 1) := by decide +kernel
theorem dX10_fits_61 : decode cX10_fits 61 = .ok (.getfield 58, 3) := by decide +kernel
theorem dX10_fits_64 : decode cX10_fits 64 = .ok (.getfield 281, 3) := by decide +kernel
theorem dX10_fits_67 : decode cX10_fits 67 = .ok (.ireturn, 1) := by decide +kernel
theorem dX10_fits_68 : decode cX10_fits 68 = .ok (.aload_n 0, 1) := by decide +kernel
theorem dX10_fits_69 : decode cX10_fits 69 = .ok (.getfield 58, 3) := by decide +kernel
theorem dX10_fits_72 : decode cX10_fits 72 = .ok (.getfield 284, 3) := by decide +kernel
theorem dX10_fits_75 : decode cX10_fits 75 = .ok (.ireturn, 1) := by decide +kernel
theorem dX10_lies_0 : decode cX10_lies 0 = .ok (.aload_n 0, 1) := by decide +kernel
theorem dX10_lies_1 : decode cX10_lies 1 = .ok (.getfield 12, 3) := by decide +kernel
theorem dX10_lies_4 : decode cX10_lies 4 = .ok (.iload_n 1, 1) := by decide +kernel
theorem dX10_lies_5 : decode cX10_lies 5 = .ok (.invokevirtual 148, 3) := by decide +kernel
theorem dX10_lies_8 : decode cX10_lies 8 = .ok (.ifCond .eq 26, 3) := by decide +kernel
theorem dX10_lies_11 : decode cX10_lies 11 = .ok (.aload_n 0, 1) := by decide +kernel
theorem dX10_lies_12 : decode cX10_lies 12 = .ok (.getfield 12, 3) := by decide +kernel
theorem dX10_lies_15 : decode cX10_lies 15 = .ok (.getfield 105, 3) := by decide +kernel
theorem dX10_lies_18 : decode cX10_lies 18 = .ok (.iload_n 2, 1) := by decide +kernel
theorem dX10_lies_19 : decode cX10_lies 19 = .ok (.invokevirtual 132, 3) := by decide +kernel
theorem dX10_lies_22 : decode cX10_lies 22 = .ok (.ifCond .eq 12, 3) := by decide +kernel
theorem dX10_lies_25 : decode cX10_lies 25 = .ok (.iload_n 3, 1) := by decide +kernel
theorem dX10_lies_26 : decode cX10_lies 26 = .ok (.ifCond .lt 8, 3) := by decide +kernel
theorem dX10_lies_29 : decode cX10_lies 29 = .ok (.iload_n 3, 1) := by decide +kernel
theorem dX10_lies_30 : decode cX10_lies 30 = .ok (.iconst 1, 1) := by decide +kernel
theorem dX10_lies_31 : decode cX10_lies 31 = .ok (.if_icmp .le 7, 3) := by decide +kernel
theorem dX10_lies_34 : decode cX10_lies 34 = .ok (.ldc2_w 287, 3) := by decide +kernel
theorem dX10_lies_37 : decode cX10_lies 37 = .ok (.lreturn, 1) := by decide +kernel
theorem dX10_lies_38 : decode cX10_lies 38 = .ok (.aload_n 0, 1) := by decide +kernel
theorem dX10_lies_39 : decode cX10_lies 39 = .ok (.getfield 12, 3) := by decide +kernel
theorem dX10_lies_42 : decode cX10_lies 42 = .ok (.getfield 151, 3) := by decide +kernel
theorem dX10_lies_45 : decode cX10_lies 45 = .ok (.iload_n 1, 1) := by decide +kernel
theorem dX10_lies_46 : decode cX10_lies 46 = .ok (.aaload, 1) := by decide +kernel
theorem dX10_lies_47 : decode cX10_lies 47 = .ok (.getfield 193, 3) := by decide +kernel
theorem dX10_lies_50 : decode cX10_lies 50 = .ok (.istore 4, 2) := by decide +kernel
theorem dX10_lies_52 : decode cX10_lies 52 = .ok (.iload 4, 2) := by decide +kernel
theorem dX10_lies_54 : decode cX10_lies 54 = .ok (.bipush (-4), 2) := by decide +kernel
theorem dX10_lies_56 : decode cX10_lies 56 = .ok (.if_icmp .ne 7, 3) := by decide +kernel
theorem dX10_lies_59 : decode cX10_lies 59 = .ok (.ldc2_w 289, 3) := by decide +kernel
theorem dX10_lies_62 : decode cX10_lies 62 = .ok (.lreturn, 1) := by decide +kernel
theorem dX10_lies_63 : decode cX10_lies 63 = .ok (.aload_n 0, 1) := by decide +kernel
theorem dX10_lies_64 : decode cX10_lies 64 = .ok (.getfield 65, 3) := by decide +kernel
theorem dX10_lies_67 : decode cX10_lies 67 = .ok (.aload_n 0, 1) := by decide +kernel
theorem dX10_lies_68 : decode cX10_lies 68 = .ok (.getfield 12, 3) := by decide +kernel
theorem dX10_lies_71 : decode cX10_lies 71 = .ok (.iload 4, 2) := by decide +kernel
theorem dX10_lies_73 : decode cX10_lies 73 = .ok (.invokevirtual 291, 3) := by decide +kernel
theorem dX10_lies_76 : decode cX10_lies 76 = .ok (.istore 5, 2) := by decide +kernel
theorem dX10_lies_78 : decode cX10_lies 78 = .ok (.iload 5, 2) := by decide +kernel
theorem dX10_lies_80 : decode cX10_lies 80 = .ok (.ifCond .ne 7, 3) := by decide +kernel
theorem dX10_lies_83 : decode cX10_lies 83 = .ok (.ldc2_w 295, 3) := by decide +kernel
theorem dX10_lies_86 : decode cX10_lies 86 = .ok (.lreturn, 1) := by decide +kernel
theorem dX10_lies_87 : decode cX10_lies 87 = .ok (.aload_n 0, 1) := by decide +kernel
theorem dX10_lies_88 : decode cX10_lies 88 = .ok (.getfield 65, 3) := by decide +kernel
theorem dX10_lies_91 : decode cX10_lies 91 = .ok (.aload_n 0, 1) := by decide +kernel
theorem dX10_lies_92 : decode cX10_lies 92 = .ok (.getfield 12, 3) := by decide +kernel
theorem dX10_lies_95 : decode cX10_lies 95 = .ok (.iload 4, 2) := by decide +kernel
theorem dX10_lies_97 : decode cX10_lies 97 = .ok (.iload_n 2, 1) := by decide +kernel
theorem dX10_lies_98 : decode cX10_lies 98 = .ok (.invokevirtual 297, 3) := by decide +kernel
theorem dX10_lies_101 : decode cX10_lies 101 = .ok (.i2l, 1) := by decide +kernel
theorem dX10_lies_102 : decode cX10_lies 102 = .ok (.iload 5, 2) := by decide +kernel
theorem dX10_lies_104 : decode cX10_lies 104 = .ok (.i2l, 1) := by decide +kernel
theorem dX10_lies_105 : decode cX10_lies 105 = .ok (.iload_n 3, 1) := by decide +kernel
theorem dX10_lies_106 : decode cX10_lies 106 = .ok (.invokestatic 301, 3) := by decide +kernel
theorem dX10_lies_109 : decode cX10_lies 109 = .ok (.lreturn, 1) := by decide +kernel
theorem dX10_next_0 : decode cX10_next 0 = .ok (.iload_n 1, 1) := by decide +kernel
theorem dX10_next_1 : decode cX10_next 1 = .ok (.ifCond .lt 8, 3) := by decide +kernel
theorem dX10_next_4 : decode cX10_next 4 = .ok (.iload_n 1, 1) := by decide +kernel
theorem dX10_next_5 : decode cX10_next 5 = .ok (.iconst 2, 1) := by decide +kernel
theorem dX10_next_6 : decode cX10_next 6 = .ok (.if_icmp .le 7, 3) := by decide +kernel
theorem dX10_next_9 : decode cX10_next 9 = .ok (.ldc2_w 287, 3) := by decide +kernel
theorem dX10_next_12 : decode cX10_next 12 = .ok (.lreturn, 1) := by decide +kernel
theorem dX10_next_13 : decode cX10_next 13 = .ok (.aload_n 0, 1) := by decide +kernel
theorem dX10_next_14 : decode cX10_next 14 = .ok (.getfield 65, 3) := by decide +kernel
theorem dX10_next_17 : decode cX10_next 17 = .ok (.aload_n 0, 1) := by decide +kernel
theorem dX10_next_18 : decode cX10_next 18 = .ok (.getfield 12, 3) := by decide +kernel
theorem dX10_next_21 : decode cX10_next 21 = .ok (.invokevirtual 305, 3) := by decide +kernel
theorem dX10_next_24 : decode cX10_next 24 = .ok (.aload_n 0, 1) := by decide +kernel
theorem dX10_next_25 : decode cX10_next 25 = .ok (.getfield 65, 3) := by decide +kernel
theorem dX10_next_28 : decode cX10_next 28 = .ok (.getfield 308, 3) := by decide +kernel
theorem dX10_next_31 : decode cX10_next 31 = .ok (.bipush (-4), 2) := by decide +kernel
theorem dX10_next_33 : decode cX10_next 33 = .ok (.if_icmp .ne 7, 3) := by decide +kernel
theorem dX10_next_36 : decode cX10_next 36 = .ok (.ldc2_w 295, 3) := by decide +kernel
theorem dX10_next_39 : decode cX10_next 39 = .ok (.lreturn, 1) := by decide +kernel
theorem dX10_next_40 : decode cX10_next 40 = .ok (.iload_n 1, 1) := by decide +kernel
theorem dX10_next_41 : decode cX10_next 41 = .ok (.ifCond .ne 14, 3) := by decide +kernel
theorem dX10_next_44 : decode cX10_next 44 = .ok (.aload_n 0, 1) := by decide +kernel
theorem dX10_next_45 : decode cX10_next 45 = .ok (.getfield 65, 3) := by decide +kernel
theorem dX10_next_48 : decode cX10_next 48 = .ok (.getfield 308, 3) := by decide +kernel
theorem dX10_next_51 : decode cX10_next 51 = .ok (.i2l, 1) := by decide +kernel
theorem dX10_next_52 : decode cX10_next 52 = .ok (.goto 20, 3) := by decide +kernel
theorem dX10_next_55 : decode cX10_next 55 = .ok (.aload_n 0, 1) := by decide +kernel
theorem dX10_next_56 : decode cX10_next 56 = .ok (.getfield 65, 3) := by decide +kernel
theorem dX10_next_59 : decode cX10_next 59 = .ok (.getfield 311, 3) := by decide +kernel
theorem dX10_next_62 : decode cX10_next 62 = .ok (.i2l, 1) := by decide +kernel
theorem dX10_next_63 : decode cX10_next 63 = .ok (.ldc2_w 314, 3) := by decide +kernel
theorem dX10_next_66 : decode cX10_next 66 = .ok (.iload_n 1, 1) := by decide +kernel
theorem dX10_next_67 : decode cX10_next 67 = .ok (.iconst 1, 1) := by decide +kernel
theorem dX10_next_68 : decode cX10_next 68 = .ok (.isub, 1) := by decide +kernel
theorem dX10_next_69 : decode cX10_next 69 = .ok (.invokestatic 301, 3) := by decide +kernel
theorem dX10_next_72 : decode cX10_next 72 = .ok (.lreturn, 1) := by decide +kernel
theorem dX10_takes_0 : decode cX10_takes 0 = .ok (.iload_n 1, 1) := by decide +kernel
theorem dX10_takes_1 : decode cX10_takes 1 = .ok (.ifCond .ge 5, 3) := by decide +kernel
theorem dX10_takes_4 : decode cX10_takes 4 = .ok (.iconst (-1), 1) := by decide +kernel
theorem dX10_takes_5 : decode cX10_takes 5 = .ok (.ireturn, 1) := by decide +kernel
theorem dX10_takes_6 : decode cX10_takes 6 = .ok (.iload_n 1, 1) := by decide +kernel
theorem dX10_takes_7 : decode cX10_takes 7 = .ok (.aload_n 0, 1) := by decide +kernel
theorem dX10_takes_8 : decode cX10_takes 8 = .ok (.getfield 12, 3) := by decide +kernel
theorem dX10_takes_11 : decode cX10_takes 11 = .ok (.getfield 126, 3) := by decide +kernel
theorem dX10_takes_14 : decode cX10_takes 14 = .ok (.if_icmp .lt 6, 3) := by decide +kernel
theorem dX10_takes_17 : decode cX10_takes 17 = .ok (.bipush (-4), 2) := by decide +kernel
theorem dX10_takes_19 : decode cX10_takes 19 = .ok (.ireturn, 1) := by decide +kernel
theorem dX10_takes_20 : decode cX10_takes 20 = .ok (.iconst 0, 1) := by decide +kernel
theorem dX10_takes_21 : decode cX10_takes 21 = .ok (.istore_n 2, 1) := by decide +kernel
theorem dX10_takes_22 : decode cX10_takes 22 = .ok (.bipush (-4), 2) := by decide +kernel
theorem dX10_takes_24 : decode cX10_takes 24 = .ok (.istore_n 3, 1) := by decide +kernel
theorem dX10_takes_25 : decode cX10_takes 25 = .ok (.iconst 0, 1) := by decide +kernel
theorem dX10_takes_26 : decode cX10_takes 26 = .ok (.istore 4, 2) := by decide +kernel
theorem dX10_takes_28 : decode cX10_takes 28 = .ok (.iload 4, 2) := by decide +kernel
theorem dX10_takes_30 : decode cX10_takes 30 = .ok (.iload_n 1, 1) := by decide +kernel
theorem dX10_takes_31 : decode cX10_takes 31 = .ok (.if_icmp .gt 24, 3) := by decide +kernel
theorem dX10_takes_34 : decode cX10_takes 34 = .ok (.aload_n 0, 1) := by decide +kernel
theorem dX10_takes_35 : decode cX10_takes 35 = .ok (.getfield 12, 3) := by decide +kernel
theorem dX10_takes_38 : decode cX10_takes 38 = .ok (.iload_n 2, 1) := by decide +kernel
theorem dX10_takes_39 : decode cX10_takes 39 = .ok (.invokevirtual 316, 3) := by decide +kernel
theorem dX10_takes_42 : decode cX10_takes 42 = .ok (.istore_n 3, 1) := by decide +kernel
theorem dX10_takes_43 : decode cX10_takes 43 = .ok (.iload_n 2, 1) := by decide +kernel
theorem dX10_takes_44 : decode cX10_takes 44 = .ok (.iconst 1, 1) := by decide +kernel
theorem dX10_takes_45 : decode cX10_takes 45 = .ok (.iload_n 3, 1) := by decide +kernel
theorem dX10_takes_46 : decode cX10_takes 46 = .ok (.ishl, 1) := by decide +kernel
theorem dX10_takes_47 : decode cX10_takes 47 = .ok (.ior, 1) := by decide +kernel
theorem dX10_takes_48 : decode cX10_takes 48 = .ok (.istore_n 2, 1) := by decide +kernel
theorem dX10_takes_49 : decode cX10_takes 49 = .ok (.iinc 4 1, 3) := by decide +kernel
theorem dX10_takes_52 : decode cX10_takes 52 = .ok (.goto (-24), 3) := by decide +kernel
theorem dX10_takes_55 : decode cX10_takes 55 = .ok (.iload_n 3, 1) := by decide +kernel
theorem dX10_takes_56 : decode cX10_takes 56 = .ok (.ireturn, 1) := by decide +kernel
theorem dX10_morning_0 : decode cX10_morning 0 = .ok (.iload_n 1, 1) := by decide +kernel
theorem dX10_morning_1 : decode cX10_morning 1 = .ok (.ifCond .lt 8, 3) := by decide +kernel
theorem dX10_morning_4 : decode cX10_morning 4 = .ok (.iload_n 1, 1) := by decide +kernel
theorem dX10_morning_5 : decode cX10_morning 5 = .ok (.iconst 3, 1) := by decide +kernel
theorem dX10_morning_6 : decode cX10_morning 6 = .ok (.if_icmp .le 7, 3) := by decide +kernel
theorem dX10_morning_9 : decode cX10_morning 9 = .ok (.ldc2_w 287, 3) := by decide +kernel
theorem dX10_morning_12 : decode cX10_morning 12 = .ok (.lreturn, 1) := by decide +kernel
theorem dX10_morning_13 : decode cX10_morning 13 = .ok (.lconst 0, 1) := by decide +kernel
theorem dX10_morning_14 : decode cX10_morning 14 = .ok (.lstore_n 2, 1) := by decide +kernel
theorem dX10_morning_15 : decode cX10_morning 15 = .ok (.lconst 1, 1) := by decide +kernel
theorem dX10_morning_16 : decode cX10_morning 16 = .ok (.lstore 4, 2) := by decide +kernel
theorem dX10_morning_18 : decode cX10_morning 18 = .ok (.lconst 1, 1) := by decide +kernel
theorem dX10_morning_19 : decode cX10_morning 19 = .ok (.lstore 6, 2) := by decide +kernel
theorem dX10_morning_21 : decode cX10_morning 21 = .ok (.iconst 0, 1) := by decide +kernel
theorem dX10_morning_22 : decode cX10_morning 22 = .ok (.istore 8, 2) := by decide +kernel
theorem dX10_morning_24 : decode cX10_morning 24 = .ok (.iload 8, 2) := by decide +kernel
theorem dX10_morning_26 : decode cX10_morning 26 = .ok (.aload_n 0, 1) := by decide +kernel
theorem dX10_morning_27 : decode cX10_morning 27 = .ok (.getfield 12, 3) := by decide +kernel
theorem dX10_morning_30 : decode cX10_morning 30 = .ok (.getfield 126, 3) := by decide +kernel
theorem dX10_morning_33 : decode cX10_morning 33 = .ok (.if_icmp .ge 66, 3) := by decide +kernel
theorem dX10_morning_36 : decode cX10_morning 36 = .ok (.aload_n 0, 1) := by decide +kernel
theorem dX10_morning_37 : decode cX10_morning 37 = .ok (.getfield 12, 3) := by decide +kernel
theorem dX10_morning_40 : decode cX10_morning 40 = .ok (.getfield 151, 3) := by decide +kernel
theorem dX10_morning_43 : decode cX10_morning 43 = .ok (.iload 8, 2) := by decide +kernel
theorem dX10_morning_45 : decode cX10_morning 45 = .ok (.aaload, 1) := by decide +kernel
theorem dX10_morning_46 : decode cX10_morning 46 = .ok (.getfield 181, 3) := by decide +kernel
theorem dX10_morning_49 : decode cX10_morning 49 = .ok (.istore 9, 2) := by decide +kernel
theorem dX10_morning_51 : decode cX10_morning 51 = .ok (.iload 9, 2) := by decide +kernel
theorem dX10_morning_53 : decode cX10_morning 53 = .ok (.bipush (-4), 2) := by decide +kernel
theorem dX10_morning_55 : decode cX10_morning 55 = .ok (.if_icmp .eq 38, 3) := by decide +kernel
theorem dX10_morning_58 : decode cX10_morning 58 = .ok (.iconst 1, 1) := by decide +kernel
theorem dX10_morning_59 : decode cX10_morning 59 = .ok (.iconst 2, 1) := by decide +kernel
theorem dX10_morning_60 : decode cX10_morning 60 = .ok (.iload 9, 2) := by decide +kernel
theorem dX10_morning_62 : decode cX10_morning 62 = .ok (.iconst 3, 1) := by decide +kernel
theorem dX10_morning_63 : decode cX10_morning 63 = .ok (.irem, 1) := by decide +kernel
theorem dX10_morning_64 : decode cX10_morning 64 = .ok (.imul, 1) := by decide +kernel
theorem dX10_morning_65 : decode cX10_morning 65 = .ok (.iadd, 1) := by decide +kernel
theorem dX10_morning_66 : decode cX10_morning 66 = .ok (.istore 10, 2) := by decide +kernel
theorem dX10_morning_68 : decode cX10_morning 68 = .ok (.lload_n 2, 1) := by decide +kernel
theorem dX10_morning_69 : decode cX10_morning 69 = .ok (.iload 10, 2) := by decide +kernel
theorem dX10_morning_71 : decode cX10_morning 71 = .ok (.i2l, 1) := by decide +kernel
theorem dX10_morning_72 : decode cX10_morning 72 = .ok (.ladd, 1) := by decide +kernel
theorem dX10_morning_73 : decode cX10_morning 73 = .ok (.lstore_n 2, 1) := by decide +kernel
theorem dX10_morning_74 : decode cX10_morning 74 = .ok (.lload 4, 2) := by decide +kernel
theorem dX10_morning_76 : decode cX10_morning 76 = .ok (.bipush 10, 2) := by decide +kernel
theorem dX10_morning_78 : decode cX10_morning 78 = .ok (.iload 10, 2) := by decide +kernel
theorem dX10_morning_80 : decode cX10_morning 80 = .ok (.isub, 1) := by decide +kernel
theorem dX10_morning_81 : decode cX10_morning 81 = .ok (.i2l, 1) := by decide +kernel
theorem dX10_morning_82 : decode cX10_morning 82 = .ok (.lmul, 1) := by decide +kernel
theorem dX10_morning_83 : decode cX10_morning 83 = .ok (.lstore 4, 2) := by decide +kernel
theorem dX10_morning_85 : decode cX10_morning 85 = .ok (.lload 6, 2) := by decide +kernel
theorem dX10_morning_87 : decode cX10_morning 87 = .ok (.ldc2_w 319, 3) := by decide +kernel
theorem dX10_morning_90 : decode cX10_morning 90 = .ok (.lmul, 1) := by decide +kernel
theorem dX10_morning_91 : decode cX10_morning 91 = .ok (.lstore 6, 2) := by decide +kernel
theorem dX10_morning_93 : decode cX10_morning 93 = .ok (.iinc 8 1, 3) := by decide +kernel
theorem dX10_morning_96 : decode cX10_morning 96 = .ok (.goto (-72), 3) := by decide +kernel
theorem dX10_morning_99 : decode cX10_morning 99 = .ok (.iload_n 1, 1) := by decide +kernel
theorem dX10_morning_100 : decode cX10_morning 100 = .ok (.iconst 2, 1) := by decide +kernel
theorem dX10_morning_101 : decode cX10_morning 101 = .ok (.if_icmp .ge 14, 3) := by decide +kernel
theorem dX10_morning_104 : decode cX10_morning 104 = .ok (.lload_n 2, 1) := by decide +kernel
theorem dX10_morning_105 : decode cX10_morning 105 = .ok (.ldc2_w 319, 3) := by decide +kernel
theorem dX10_morning_108 : decode cX10_morning 108 = .ok (.iload_n 1, 1) := by decide +kernel
theorem dX10_morning_109 : decode cX10_morning 109 = .ok (.invokestatic 301, 3) := by decide +kernel
theorem dX10_morning_112 : decode cX10_morning 112 = .ok (.goto 13, 3) := by decide +kernel
theorem dX10_morning_115 : decode cX10_morning 115 = .ok (.lload 4, 2) := by decide +kernel
theorem dX10_morning_117 : decode cX10_morning 117 = .ok (.lload 6, 2) := by decide +kernel
theorem dX10_morning_119 : decode cX10_morning 119 = .ok (.iload_n 1, 1) := by decide +kernel
theorem dX10_morning_120 : decode cX10_morning 120 = .ok (.iconst 2, 1) := by decide +kernel
theorem dX10_morning_121 : decode cX10_morning 121 = .ok (.isub, 1) := by decide +kernel
theorem dX10_morning_122 : decode cX10_morning 122 = .ok (.invokestatic 301, 3) := by decide +kernel
theorem dX10_morning_125 : decode cX10_morning 125 = .ok (.lreturn, 1) := by decide +kernel
theorem dX10_drift_0 : decode cX10_drift 0 = .ok (.iload_n 2, 1) := by decide +kernel
theorem dX10_drift_1 : decode cX10_drift 1 = .ok (.iconst 1, 1) := by decide +kernel
theorem dX10_drift_2 : decode cX10_drift 2 = .ok (.if_icmp .lt 18, 3) := by decide +kernel
theorem dX10_drift_5 : decode cX10_drift 5 = .ok (.iload_n 2, 1) := by decide +kernel
theorem dX10_drift_6 : decode cX10_drift 6 = .ok (.bipush 60, 2) := by decide +kernel
theorem dX10_drift_8 : decode cX10_drift 8 = .ok (.if_icmp .gt 12, 3) := by decide +kernel
theorem dX10_drift_11 : decode cX10_drift 11 = .ok (.iload_n 3, 1) := by decide +kernel
theorem dX10_drift_12 : decode cX10_drift 12 = .ok (.ifCond .lt 8, 3) := by decide +kernel
theorem dX10_drift_15 : decode cX10_drift 15 = .ok (.iload_n 3, 1) := by decide +kernel
theorem dX10_drift_16 : decode cX10_drift 16 = .ok (.iconst 1, 1) := by decide +kernel
theorem dX10_drift_17 : decode cX10_drift 17 = .ok (.if_icmp .le 5, 3) := by decide +kernel
theorem dX10_drift_20 : decode cX10_drift 20 = .ok (.iconst (-1), 1) := by decide +kernel
theorem dX10_drift_21 : decode cX10_drift 21 = .ok (.ireturn, 1) := by decide +kernel
theorem dX10_drift_22 : decode cX10_drift 22 = .ok (.aload_n 0, 1) := by decide +kernel
theorem dX10_drift_23 : decode cX10_drift 23 = .ok (.getfield 12, 3) := by decide +kernel
theorem dX10_drift_26 : decode cX10_drift 26 = .ok (.getfield 126, 3) := by decide +kernel
theorem dX10_drift_29 : decode cX10_drift 29 = .ok (.istore 4, 2) := by decide +kernel
theorem dX10_drift_31 : decode cX10_drift 31 = .ok (.iload 4, 2) := by decide +kernel
theorem dX10_drift_33 : decode cX10_drift 33 = .ok (.ifCond .ne 6, 3) := by decide +kernel
theorem dX10_drift_36 : decode cX10_drift 36 = .ok (.bipush (-2), 2) := by decide +kernel
theorem dX10_drift_38 : decode cX10_drift 38 = .ok (.ireturn, 1) := by decide +kernel
theorem dX10_drift_39 : decode cX10_drift 39 = .ok (.aload_n 0, 1) := by decide +kernel
theorem dX10_drift_40 : decode cX10_drift 40 = .ok (.getfield 16, 3) := by decide +kernel
theorem dX10_drift_43 : decode cX10_drift 43 = .ok (.aload_n 0, 1) := by decide +kernel
theorem dX10_drift_44 : decode cX10_drift 44 = .ok (.getfield 12, 3) := by decide +kernel
theorem dX10_drift_47 : decode cX10_drift 47 = .ok (.invokevirtual 98, 3) := by decide +kernel
theorem dX10_drift_50 : decode cX10_drift 50 = .ok (.iload_n 1, 1) := by decide +kernel
theorem dX10_drift_51 : decode cX10_drift 51 = .ok (.istore 5, 2) := by decide +kernel
theorem dX10_drift_53 : decode cX10_drift 53 = .ok (.iconst 0, 1) := by decide +kernel
theorem dX10_drift_54 : decode cX10_drift 54 = .ok (.istore 6, 2) := by decide +kernel
theorem dX10_drift_56 : decode cX10_drift 56 = .ok (.iload 6, 2) := by decide +kernel
theorem dX10_drift_58 : decode cX10_drift 58 = .ok (.iload_n 2, 1) := by decide +kernel
theorem dX10_drift_59 : decode cX10_drift 59 = .ok (.if_icmp .ge 56, 3) := by decide +kernel
theorem dX10_drift_62 : decode cX10_drift 62 = .ok (.iload 5, 2) := by decide +kernel
theorem dX10_drift_64 : decode cX10_drift 64 = .ok (.invokestatic 321, 3) := by decide +kernel
theorem dX10_drift_67 : decode cX10_drift 67 = .ok (.istore 5, 2) := by decide +kernel
theorem dX10_drift_69 : decode cX10_drift 69 = .ok (.iload 5, 2) := by decide +kernel
theorem dX10_drift_71 : decode cX10_drift 71 = .ok (.invokestatic 324, 3) := by decide +kernel
theorem dX10_drift_74 : decode cX10_drift 74 = .ok (.iload 4, 2) := by decide +kernel
theorem dX10_drift_76 : decode cX10_drift 76 = .ok (.irem, 1) := by decide +kernel
theorem dX10_drift_77 : decode cX10_drift 77 = .ok (.istore 7, 2) := by decide +kernel
theorem dX10_drift_79 : decode cX10_drift 79 = .ok (.iload 5, 2) := by decide +kernel
theorem dX10_drift_81 : decode cX10_drift 81 = .ok (.invokestatic 321, 3) := by decide +kernel
theorem dX10_drift_84 : decode cX10_drift 84 = .ok (.istore 5, 2) := by decide +kernel
theorem dX10_drift_86 : decode cX10_drift 86 = .ok (.aload_n 0, 1) := by decide +kernel
theorem dX10_drift_87 : decode cX10_drift 87 = .ok (.getfield 16, 3) := by decide +kernel
theorem dX10_drift_90 : decode cX10_drift 90 = .ok (.iload 7, 2) := by decide +kernel
theorem dX10_drift_92 : decode cX10_drift 92 = .ok (.iload 5, 2) := by decide +kernel
theorem dX10_drift_94 : decode cX10_drift 94 = .ok (.invokestatic 324, 3) := by decide +kernel
theorem dX10_drift_97 : decode cX10_drift 97 = .ok (.iconst 3, 1) := by decide +kernel
theorem dX10_drift_98 : decode cX10_drift 98 = .ok (.irem, 1) := by decide +kernel
theorem dX10_drift_99 : decode cX10_drift 99 = .ok (.invokevirtual 327, 3) := by decide +kernel
theorem dX10_drift_102 : decode cX10_drift 102 = .ok (.aload_n 0, 1) := by decide +kernel
theorem dX10_drift_103 : decode cX10_drift 103 = .ok (.getfield 16, 3) := by decide +kernel
theorem dX10_drift_106 : decode cX10_drift 106 = .ok (.invokevirtual 213, 3) := by decide +kernel
theorem dX10_drift_109 : decode cX10_drift 109 = .ok (.iinc 6 1, 3) := by decide +kernel
theorem dX10_drift_112 : decode cX10_drift 112 = .ok (.goto (-56), 3) := by decide +kernel
theorem dX10_drift_115 : decode cX10_drift 115 = .ok (.aload_n 0, 1) := by decide +kernel
theorem dX10_drift_116 : decode cX10_drift 116 = .ok (.getfield 16, 3) := by decide +kernel
theorem dX10_drift_119 : decode cX10_drift 119 = .ok (.iload_n 3, 1) := by decide +kernel
theorem dX10_drift_120 : decode cX10_drift 120 = .ok (.ifCond .ne 7, 3) := by decide +kernel
theorem dX10_drift_123 : decode cX10_drift 123 = .ok (.iconst 2, 1) := by decide +kernel
theorem dX10_drift_124 : decode cX10_drift 124 = .ok (.goto 4, 3) := by decide +kernel
theorem dX10_drift_127 : decode cX10_drift 127 = .ok (.iconst 1, 1) := by decide +kernel
theorem dX10_drift_128 : decode cX10_drift 128 = .ok (.invokevirtual 200, 3) := by decide +kernel
theorem dX10_drift_131 : decode cX10_drift 131 = .ok (.ireturn, 1) := by decide +kernel
theorem dX10_keep_0 : decode cX10_keep 0 = .ok (.iload_n 1, 1) := by decide +kernel
theorem dX10_keep_1 : decode cX10_keep 1 = .ok (.ifCond .lt 8, 3) := by decide +kernel
theorem dX10_keep_4 : decode cX10_keep 4 = .ok (.iload_n 1, 1) := by decide +kernel
theorem dX10_keep_5 : decode cX10_keep 5 = .ok (.iconst 1, 1) := by decide +kernel
theorem dX10_keep_6 : decode cX10_keep 6 = .ok (.if_icmp .le 5, 3) := by decide +kernel
theorem dX10_keep_9 : decode cX10_keep 9 = .ok (.iconst (-1), 1) := by decide +kernel
theorem dX10_keep_10 : decode cX10_keep 10 = .ok (.ireturn, 1) := by decide +kernel
theorem dX10_keep_11 : decode cX10_keep 11 = .ok (.aload_n 0, 1) := by decide +kernel
theorem dX10_keep_12 : decode cX10_keep 12 = .ok (.getfield 23, 3) := by decide +kernel
theorem dX10_keep_15 : decode cX10_keep 15 = .ok (.iload_n 1, 1) := by decide +kernel
theorem dX10_keep_16 : decode cX10_keep 16 = .ok (.baload, 1) := by decide +kernel
theorem dX10_keep_17 : decode cX10_keep 17 = .ok (.ifCond .eq 7, 3) := by decide +kernel
theorem dX10_keep_20 : decode cX10_keep 20 = .ok (.iconst 1, 1) := by decide +kernel
theorem dX10_keep_21 : decode cX10_keep 21 = .ok (.goto 4, 3) := by decide +kernel
theorem dX10_keep_24 : decode cX10_keep 24 = .ok (.iconst 0, 1) := by decide +kernel
theorem dX10_keep_25 : decode cX10_keep 25 = .ok (.istore_n 2, 1) := by decide +kernel
theorem dX10_keep_26 : decode cX10_keep 26 = .ok (.aload_n 0, 1) := by decide +kernel
theorem dX10_keep_27 : decode cX10_keep 27 = .ok (.getfield 19, 3) := by decide +kernel
theorem dX10_keep_30 : decode cX10_keep 30 = .ok (.iload_n 1, 1) := by decide +kernel
theorem dX10_keep_31 : decode cX10_keep 31 = .ok (.aaload, 1) := by decide +kernel
theorem dX10_keep_32 : decode cX10_keep 32 = .ok (.aload_n 0, 1) := by decide +kernel
theorem dX10_keep_33 : decode cX10_keep 33 = .ok (.getfield 12, 3) := by decide +kernel
theorem dX10_keep_36 : decode cX10_keep 36 = .ok (.invokevirtual 98, 3) := by decide +kernel
theorem dX10_keep_39 : decode cX10_keep 39 = .ok (.aload_n 0, 1) := by decide +kernel
theorem dX10_keep_40 : decode cX10_keep 40 = .ok (.getfield 23, 3) := by decide +kernel
theorem dX10_keep_43 : decode cX10_keep 43 = .ok (.iload_n 1, 1) := by decide +kernel
theorem dX10_keep_44 : decode cX10_keep 44 = .ok (.iconst 1, 1) := by decide +kernel
theorem dX10_keep_45 : decode cX10_keep 45 = .ok (.bastore, 1) := by decide +kernel
theorem dX10_keep_46 : decode cX10_keep 46 = .ok (.iload_n 2, 1) := by decide +kernel
theorem dX10_keep_47 : decode cX10_keep 47 = .ok (.ireturn, 1) := by decide +kernel
theorem dX10_back_0 : decode cX10_back 0 = .ok (.iload_n 1, 1) := by decide +kernel
theorem dX10_back_1 : decode cX10_back 1 = .ok (.ifCond .lt 8, 3) := by decide +kernel
theorem dX10_back_4 : decode cX10_back 4 = .ok (.iload_n 1, 1) := by decide +kernel
theorem dX10_back_5 : decode cX10_back 5 = .ok (.iconst 1, 1) := by decide +kernel
theorem dX10_back_6 : decode cX10_back 6 = .ok (.if_icmp .le 5, 3) := by decide +kernel
theorem dX10_back_9 : decode cX10_back 9 = .ok (.iconst (-1), 1) := by decide +kernel
theorem dX10_back_10 : decode cX10_back 10 = .ok (.ireturn, 1) := by decide +kernel
theorem dX10_back_11 : decode cX10_back 11 = .ok (.aload_n 0, 1) := by decide +kernel
theorem dX10_back_12 : decode cX10_back 12 = .ok (.getfield 23, 3) := by decide +kernel
theorem dX10_back_15 : decode cX10_back 15 = .ok (.iload_n 1, 1) := by decide +kernel
theorem dX10_back_16 : decode cX10_back 16 = .ok (.baload, 1) := by decide +kernel
theorem dX10_back_17 : decode cX10_back 17 = .ok (.ifCond .ne 6, 3) := by decide +kernel
theorem dX10_back_20 : decode cX10_back 20 = .ok (.bipush (-2), 2) := by decide +kernel
theorem dX10_back_22 : decode cX10_back 22 = .ok (.ireturn, 1) := by decide +kernel
theorem dX10_back_23 : decode cX10_back 23 = .ok (.aload_n 0, 1) := by decide +kernel
theorem dX10_back_24 : decode cX10_back 24 = .ok (.getfield 12, 3) := by decide +kernel
theorem dX10_back_27 : decode cX10_back 27 = .ok (.aload_n 0, 1) := by decide +kernel
theorem dX10_back_28 : decode cX10_back 28 = .ok (.getfield 19, 3) := by decide +kernel
theorem dX10_back_31 : decode cX10_back 31 = .ok (.iload_n 1, 1) := by decide +kernel
theorem dX10_back_32 : decode cX10_back 32 = .ok (.aaload, 1) := by decide +kernel
theorem dX10_back_33 : decode cX10_back 33 = .ok (.invokevirtual 98, 3) := by decide +kernel
theorem dX10_back_36 : decode cX10_back 36 = .ok (.aload_n 0, 1) := by decide +kernel
theorem dX10_back_37 : decode cX10_back 37 = .ok (.getfield 12, 3) := by decide +kernel
theorem dX10_back_40 : decode cX10_back 40 = .ok (.getfield 123, 3) := by decide +kernel
theorem dX10_back_43 : decode cX10_back 43 = .ok (.ireturn, 1) := by decide +kernel
theorem dX10_sheet_0 : decode cX10_sheet 0 = .ok (.iload_n 1, 1) := by decide +kernel
theorem dX10_sheet_1 : decode cX10_sheet 1 = .ok (.invokestatic 331, 3) := by decide +kernel
theorem dX10_sheet_4 : decode cX10_sheet 4 = .ok (.ifCond .eq 16, 3) := by decide +kernel
theorem dX10_sheet_7 : decode cX10_sheet 7 = .ok (.iload_n 2, 1) := by decide +kernel
theorem dX10_sheet_8 : decode cX10_sheet 8 = .ok (.invokestatic 334, 3) := by decide +kernel
theorem dX10_sheet_11 : decode cX10_sheet 11 = .ok (.ifCond .eq 9, 3) := by decide +kernel
theorem dX10_sheet_14 : decode cX10_sheet 14 = .ok (.iload_n 3, 1) := by decide +kernel
theorem dX10_sheet_15 : decode cX10_sheet 15 = .ok (.bipush 40, 2) := by decide +kernel
theorem dX10_sheet_17 : decode cX10_sheet 17 = .ok (.if_icmp .le 5, 3) := by decide +kernel
theorem dX10_sheet_20 : decode cX10_sheet 20 = .ok (.iconst (-1), 1) := by decide +kernel
theorem dX10_sheet_21 : decode cX10_sheet 21 = .ok (.ireturn, 1) := by decide +kernel
theorem dX10_sheet_22 : decode cX10_sheet 22 = .ok (.iload_n 3, 1) := by decide +kernel
theorem dX10_sheet_23 : decode cX10_sheet 23 = .ok (.ifCond .ge 6, 3) := by decide +kernel
theorem dX10_sheet_26 : decode cX10_sheet 26 = .ok (.bipush (-14), 2) := by decide +kernel
theorem dX10_sheet_28 : decode cX10_sheet 28 = .ok (.ireturn, 1) := by decide +kernel
theorem dX10_sheet_29 : decode cX10_sheet 29 = .ok (.aload_n 0, 1) := by decide +kernel
theorem dX10_sheet_30 : decode cX10_sheet 30 = .ok (.getfield 51, 3) := by decide +kernel
theorem dX10_sheet_33 : decode cX10_sheet 33 = .ok (.iload_n 1, 1) := by decide +kernel
theorem dX10_sheet_34 : decode cX10_sheet 34 = .ok (.aaload, 1) := by decide +kernel
theorem dX10_sheet_35 : decode cX10_sheet 35 = .ok (.iload_n 2, 1) := by decide +kernel
theorem dX10_sheet_36 : decode cX10_sheet 36 = .ok (.iload_n 3, 1) := by decide +kernel
theorem dX10_sheet_37 : decode cX10_sheet 37 = .ok (.invokevirtual 337, 3) := by decide +kernel
theorem dX10_sheet_40 : decode cX10_sheet 40 = .ok (.iconst 1, 1) := by decide +kernel
theorem dX10_sheet_41 : decode cX10_sheet 41 = .ok (.ireturn, 1) := by decide +kernel
theorem dX10_lay_0 : decode cX10_lay 0 = .ok (.iload_n 1, 1) := by decide +kernel
theorem dX10_lay_1 : decode cX10_lay 1 = .ok (.invokestatic 331, 3) := by decide +kernel
theorem dX10_lay_4 : decode cX10_lay 4 = .ok (.ifCond .ne 5, 3) := by decide +kernel
theorem dX10_lay_7 : decode cX10_lay 7 = .ok (.iconst (-1), 1) := by decide +kernel
theorem dX10_lay_8 : decode cX10_lay 8 = .ok (.ireturn, 1) := by decide +kernel
theorem dX10_lay_9 : decode cX10_lay 9 = .ok (.aload_n 0, 1) := by decide +kernel
theorem dX10_lay_10 : decode cX10_lay 10 = .ok (.getfield 51, 3) := by decide +kernel
theorem dX10_lay_13 : decode cX10_lay 13 = .ok (.iload_n 1, 1) := by decide +kernel
theorem dX10_lay_14 : decode cX10_lay 14 = .ok (.aaload, 1) := by decide +kernel
theorem dX10_lay_15 : decode cX10_lay 15 = .ok (.iload_n 2, 1) := by decide +kernel
theorem dX10_lay_16 : decode cX10_lay 16 = .ok (.invokevirtual 340, 3) := by decide +kernel
theorem dX10_lay_19 : decode cX10_lay 19 = .ok (.istore 4, 2) := by decide +kernel
theorem dX10_lay_21 : decode cX10_lay 21 = .ok (.iload 4, 2) := by decide +kernel
theorem dX10_lay_23 : decode cX10_lay 23 = .ok (.ifCond .eq 9, 3) := by decide +kernel
theorem dX10_lay_26 : decode cX10_lay 26 = .ok (.bipush (-10), 2) := by decide +kernel
theorem dX10_lay_28 : decode cX10_lay 28 = .ok (.iload 4, 2) := by decide +kernel
theorem dX10_lay_30 : decode cX10_lay 30 = .ok (.isub, 1) := by decide +kernel
theorem dX10_lay_31 : decode cX10_lay 31 = .ok (.ireturn, 1) := by decide +kernel
theorem dX10_lay_32 : decode cX10_lay 32 = .ok (.aload_n 0, 1) := by decide +kernel
theorem dX10_lay_33 : decode cX10_lay 33 = .ok (.getfield 51, 3) := by decide +kernel
theorem dX10_lay_36 : decode cX10_lay 36 = .ok (.iload_n 1, 1) := by decide +kernel
theorem dX10_lay_37 : decode cX10_lay 37 = .ok (.aaload, 1) := by decide +kernel
theorem dX10_lay_38 : decode cX10_lay 38 = .ok (.iload_n 2, 1) := by decide +kernel
theorem dX10_lay_39 : decode cX10_lay 39 = .ok (.iload_n 3, 1) := by decide +kernel
theorem dX10_lay_40 : decode cX10_lay 40 = .ok (.invokevirtual 343, 3) := by decide +kernel
theorem dX10_lay_43 : decode cX10_lay 43 = .ok (.iconst 1, 1) := by decide +kernel
theorem dX10_lay_44 : decode cX10_lay 44 = .ok (.ireturn, 1) := by decide +kernel
theorem dX10_read_0 : decode cX10_read 0 = .ok (.iload_n 1, 1) := by decide +kernel
theorem dX10_read_1 : decode cX10_read 1 = .ok (.invokestatic 331, 3) := by decide +kernel
theorem dX10_read_4 : decode cX10_read 4 = .ok (.ifCond .eq 22, 3) := by decide +kernel
theorem dX10_read_7 : decode cX10_read 7 = .ok (.iload_n 2, 1) := by decide +kernel
theorem dX10_read_8 : decode cX10_read 8 = .ok (.invokestatic 334, 3) := by decide +kernel
theorem dX10_read_11 : decode cX10_read 11 = .ok (.ifCond .eq 15, 3) := by decide +kernel
theorem dX10_read_14 : decode cX10_read 14 = .ok (.iload 4, 2) := by decide +kernel
theorem dX10_read_16 : decode cX10_read 16 = .ok (.ifCond .lt 10, 3) := by decide +kernel
theorem dX10_read_19 : decode cX10_read 19 = .ok (.iload 4, 2) := by decide +kernel
theorem dX10_read_21 : decode cX10_read 21 = .ok (.bipush 13, 2) := by decide +kernel
theorem dX10_read_23 : decode cX10_read 23 = .ok (.if_icmp .le 5, 3) := by decide +kernel
theorem dX10_read_26 : decode cX10_read 26 = .ok (.iconst (-1), 1) := by decide +kernel
theorem dX10_read_27 : decode cX10_read 27 = .ok (.ireturn, 1) := by decide +kernel
theorem dX10_read_28 : decode cX10_read 28 = .ok (.aload_n 0, 1) := by decide +kernel
theorem dX10_read_29 : decode cX10_read 29 = .ok (.getfield 51, 3) := by decide +kernel
theorem dX10_read_32 : decode cX10_read 32 = .ok (.iload_n 1, 1) := by decide +kernel
theorem dX10_read_33 : decode cX10_read 33 = .ok (.aaload, 1) := by decide +kernel
theorem dX10_read_34 : decode cX10_read 34 = .ok (.astore 5, 2) := by decide +kernel
theorem dX10_read_36 : decode cX10_read 36 = .ok (.aload_n 0, 1) := by decide +kernel
theorem dX10_read_37 : decode cX10_read 37 = .ok (.getfield 12, 3) := by decide +kernel
theorem dX10_read_40 : decode cX10_read 40 = .ok (.getfield 126, 3) := by decide +kernel
theorem dX10_read_43 : decode cX10_read 43 = .ok (.istore 6, 2) := by decide +kernel
theorem dX10_read_45 : decode cX10_read 45 = .ok (.iconst 0, 1) := by decide +kernel
theorem dX10_read_46 : decode cX10_read 46 = .ok (.istore 7, 2) := by decide +kernel
theorem dX10_read_48 : decode cX10_read 48 = .ok (.iconst 0, 1) := by decide +kernel
theorem dX10_read_49 : decode cX10_read 49 = .ok (.istore 8, 2) := by decide +kernel
theorem dX10_read_51 : decode cX10_read 51 = .ok (.iload 8, 2) := by decide +kernel
theorem dX10_read_53 : decode cX10_read 53 = .ok (.iload 4, 2) := by decide +kernel
theorem dX10_read_55 : decode cX10_read 55 = .ok (.if_icmp .ge 75, 3) := by decide +kernel
theorem dX10_read_58 : decode cX10_read 58 = .ok (.iload 7, 2) := by decide +kernel
theorem dX10_read_60 : decode cX10_read 60 = .ok (.ifCond .ne 70, 3) := by decide +kernel
theorem dX10_read_63 : decode cX10_read 63 = .ok (.iload_n 3, 1) := by decide +kernel
theorem dX10_read_64 : decode cX10_read 64 = .ok (.iconst 2, 1) := by decide +kernel
theorem dX10_read_65 : decode cX10_read 65 = .ok (.iload 8, 2) := by decide +kernel
theorem dX10_read_67 : decode cX10_read 67 = .ok (.imul, 1) := by decide +kernel
theorem dX10_read_68 : decode cX10_read 68 = .ok (.iadd, 1) := by decide +kernel
theorem dX10_read_69 : decode cX10_read 69 = .ok (.istore 9, 2) := by decide +kernel
theorem dX10_read_71 : decode cX10_read 71 = .ok (.aload 5, 2) := by decide +kernel
theorem dX10_read_73 : decode cX10_read 73 = .ok (.iload_n 2, 1) := by decide +kernel
theorem dX10_read_74 : decode cX10_read 74 = .ok (.iload 9, 2) := by decide +kernel
theorem dX10_read_76 : decode cX10_read 76 = .ok (.invokevirtual 346, 3) := by decide +kernel
theorem dX10_read_79 : decode cX10_read 79 = .ok (.istore 7, 2) := by decide +kernel
theorem dX10_read_81 : decode cX10_read 81 = .ok (.iload 7, 2) := by decide +kernel
theorem dX10_read_83 : decode cX10_read 83 = .ok (.ifCond .ne 41, 3) := by decide +kernel
theorem dX10_read_86 : decode cX10_read 86 = .ok (.aload_n 0, 1) := by decide +kernel
theorem dX10_read_87 : decode cX10_read 87 = .ok (.aload 5, 2) := by decide +kernel
theorem dX10_read_89 : decode cX10_read 89 = .ok (.iload 9, 2) := by decide +kernel
theorem dX10_read_91 : decode cX10_read 91 = .ok (.invokevirtual 349, 3) := by decide +kernel
theorem dX10_read_94 : decode cX10_read 94 = .ok (.aload 5, 2) := by decide +kernel
theorem dX10_read_96 : decode cX10_read 96 = .ok (.iload 9, 2) := by decide +kernel
theorem dX10_read_98 : decode cX10_read 98 = .ok (.iconst 1, 1) := by decide +kernel
theorem dX10_read_99 : decode cX10_read 99 = .ok (.iadd, 1) := by decide +kernel
theorem dX10_read_100 : decode cX10_read 100 = .ok (.invokevirtual 349, 3) := by decide +kernel
theorem dX10_read_103 : decode cX10_read 103 = .ok (.invokevirtual 352, 3) := by decide +kernel
theorem dX10_read_106 : decode cX10_read 106 = .ok (.ifCond .ne 18, 3) := by decide +kernel
theorem dX10_read_109 : decode cX10_read 109 = .ok (.aload_n 0, 1) := by decide +kernel
theorem dX10_read_110 : decode cX10_read 110 = .ok (.getfield 12, 3) := by decide +kernel
theorem dX10_read_113 : decode cX10_read 113 = .ok (.iload 6, 2) := by decide +kernel
theorem dX10_read_115 : decode cX10_read 115 = .ok (.putfield 126, 3) := by decide +kernel
theorem dX10_read_118 : decode cX10_read 118 = .ok (.bipush (-20), 2) := by decide +kernel
theorem dX10_read_120 : decode cX10_read 120 = .ok (.iload 8, 2) := by decide +kernel
theorem dX10_read_122 : decode cX10_read 122 = .ok (.isub, 1) := by decide +kernel
theorem dX10_read_123 : decode cX10_read 123 = .ok (.ireturn, 1) := by decide +kernel
theorem dX10_read_124 : decode cX10_read 124 = .ok (.iinc 8 1, 3) := by decide +kernel
theorem dX10_read_127 : decode cX10_read 127 = .ok (.goto (-76), 3) := by decide +kernel
theorem dX10_read_130 : decode cX10_read 130 = .ok (.aload_n 0, 1) := by decide +kernel
theorem dX10_read_131 : decode cX10_read 131 = .ok (.iload 7, 2) := by decide +kernel
theorem dX10_read_133 : decode cX10_read 133 = .ok (.putfield 355, 3) := by decide +kernel
theorem dX10_read_136 : decode cX10_read 136 = .ok (.aload_n 0, 1) := by decide +kernel
theorem dX10_read_137 : decode cX10_read 137 = .ok (.getfield 12, 3) := by decide +kernel
theorem dX10_read_140 : decode cX10_read 140 = .ok (.getfield 126, 3) := by decide +kernel
theorem dX10_read_143 : decode cX10_read 143 = .ok (.iload 6, 2) := by decide +kernel
theorem dX10_read_145 : decode cX10_read 145 = .ok (.isub, 1) := by decide +kernel
theorem dX10_read_146 : decode cX10_read 146 = .ok (.ireturn, 1) := by decide +kernel
theorem dX10_torn_0 : decode cX10_torn 0 = .ok (.aload_n 0, 1) := by decide +kernel
theorem dX10_torn_1 : decode cX10_torn 1 = .ok (.getfield 355, 3) := by decide +kernel
theorem dX10_torn_4 : decode cX10_torn 4 = .ok (.ireturn, 1) := by decide +kernel
theorem dX10_count_0 : decode cX10_count 0 = .ok (.iload_n 1, 1) := by decide +kernel
theorem dX10_count_1 : decode cX10_count 1 = .ok (.tableswitch 157 0 8 #[51, 60, 69, 78, 87, 95, 125, 136, 146], 51) := by decide +kernel
theorem dX10_count_52 : decode cX10_count 52 = .ok (.aload_n 0, 1) := by decide +kernel
theorem dX10_count_53 : decode cX10_count 53 = .ok (.getfield 12, 3) := by decide +kernel
theorem dX10_count_56 : decode cX10_count 56 = .ok (.iconst 0, 1) := by decide +kernel
theorem dX10_count_57 : decode cX10_count 57 = .ok (.invokevirtual 200, 3) := by decide +kernel
theorem dX10_count_60 : decode cX10_count 60 = .ok (.ireturn, 1) := by decide +kernel
theorem dX10_count_61 : decode cX10_count 61 = .ok (.aload_n 0, 1) := by decide +kernel
theorem dX10_count_62 : decode cX10_count 62 = .ok (.getfield 12, 3) := by decide +kernel
theorem dX10_count_65 : decode cX10_count 65 = .ok (.iconst 1, 1) := by decide +kernel
theorem dX10_count_66 : decode cX10_count 66 = .ok (.invokevirtual 200, 3) := by decide +kernel
theorem dX10_count_69 : decode cX10_count 69 = .ok (.ireturn, 1) := by decide +kernel
theorem dX10_count_70 : decode cX10_count 70 = .ok (.aload_n 0, 1) := by decide +kernel
theorem dX10_count_71 : decode cX10_count 71 = .ok (.getfield 12, 3) := by decide +kernel
theorem dX10_count_74 : decode cX10_count 74 = .ok (.iconst 2, 1) := by decide +kernel
theorem dX10_count_75 : decode cX10_count 75 = .ok (.invokevirtual 200, 3) := by decide +kernel
theorem dX10_count_78 : decode cX10_count 78 = .ok (.ireturn, 1) := by decide +kernel
theorem dX10_count_79 : decode cX10_count 79 = .ok (.aload_n 0, 1) := by decide +kernel
theorem dX10_count_80 : decode cX10_count 80 = .ok (.getfield 12, 3) := by decide +kernel
theorem dX10_count_83 : decode cX10_count 83 = .ok (.iconst 3, 1) := by decide +kernel
theorem dX10_count_84 : decode cX10_count 84 = .ok (.invokevirtual 200, 3) := by decide +kernel
theorem dX10_count_87 : decode cX10_count 87 = .ok (.ireturn, 1) := by decide +kernel
theorem dX10_count_88 : decode cX10_count 88 = .ok (.aload_n 0, 1) := by decide +kernel
theorem dX10_count_89 : decode cX10_count 89 = .ok (.getfield 12, 3) := by decide +kernel
theorem dX10_count_92 : decode cX10_count 92 = .ok (.getfield 271, 3) := by decide +kernel
theorem dX10_count_95 : decode cX10_count 95 = .ok (.ireturn, 1) := by decide +kernel
theorem dX10_count_96 : decode cX10_count 96 = .ok (.aload_n 0, 1) := by decide +kernel
theorem dX10_count_97 : decode cX10_count 97 = .ok (.getfield 23, 3) := by decide +kernel
theorem dX10_count_100 : decode cX10_count 100 = .ok (.iconst 0, 1) := by decide +kernel
theorem dX10_count_101 : decode cX10_count 101 = .ok (.baload, 1) := by decide +kernel
theorem dX10_count_102 : decode cX10_count 102 = .ok (.ifCond .eq 7, 3) := by decide +kernel
theorem dX10_count_105 : decode cX10_count 105 = .ok (.iconst 1, 1) := by decide +kernel
theorem dX10_count_106 : decode cX10_count 106 = .ok (.goto 4, 3) := by decide +kernel
theorem dX10_count_109 : decode cX10_count 109 = .ok (.iconst 0, 1) := by decide +kernel
theorem dX10_count_110 : decode cX10_count 110 = .ok (.aload_n 0, 1) := by decide +kernel
theorem dX10_count_111 : decode cX10_count 111 = .ok (.getfield 23, 3) := by decide +kernel
theorem dX10_count_114 : decode cX10_count 114 = .ok (.iconst 1, 1) := by decide +kernel
theorem dX10_count_115 : decode cX10_count 115 = .ok (.baload, 1) := by decide +kernel
theorem dX10_count_116 : decode cX10_count 116 = .ok (.ifCond .eq 7, 3) := by decide +kernel
theorem dX10_count_119 : decode cX10_count 119 = .ok (.iconst 1, 1) := by decide +kernel
theorem dX10_count_120 : decode cX10_count 120 = .ok (.goto 4, 3) := by decide +kernel
theorem dX10_count_123 : decode cX10_count 123 = .ok (.iconst 0, 1) := by decide +kernel
theorem dX10_count_124 : decode cX10_count 124 = .ok (.iadd, 1) := by decide +kernel
theorem dX10_count_125 : decode cX10_count 125 = .ok (.ireturn, 1) := by decide +kernel
theorem dX10_count_126 : decode cX10_count 126 = .ok (.aload_n 0, 1) := by decide +kernel
theorem dX10_count_127 : decode cX10_count 127 = .ok (.getfield 30, 3) := by decide +kernel
theorem dX10_count_130 : decode cX10_count 130 = .ok (.getfield 69, 3) := by decide +kernel
theorem dX10_count_133 : decode cX10_count 133 = .ok (.getfield 79, 3) := by decide +kernel
theorem dX10_count_136 : decode cX10_count 136 = .ok (.ireturn, 1) := by decide +kernel
theorem dX10_count_137 : decode cX10_count 137 = .ok (.aload_n 0, 1) := by decide +kernel
theorem dX10_count_138 : decode cX10_count 138 = .ok (.getfield 51, 3) := by decide +kernel
theorem dX10_count_141 : decode cX10_count 141 = .ok (.iconst 0, 1) := by decide +kernel
theorem dX10_count_142 : decode cX10_count 142 = .ok (.aaload, 1) := by decide +kernel
theorem dX10_count_143 : decode cX10_count 143 = .ok (.getfield 358, 3) := by decide +kernel
theorem dX10_count_146 : decode cX10_count 146 = .ok (.ireturn, 1) := by decide +kernel
theorem dX10_count_147 : decode cX10_count 147 = .ok (.aload_n 0, 1) := by decide +kernel
theorem dX10_count_148 : decode cX10_count 148 = .ok (.getfield 12, 3) := by decide +kernel
theorem dX10_count_151 : decode cX10_count 151 = .ok (.getfield 105, 3) := by decide +kernel
theorem dX10_count_154 : decode cX10_count 154 = .ok (.invokevirtual 359, 3) := by decide +kernel
theorem dX10_count_157 : decode cX10_count 157 = .ok (.ireturn, 1) := by decide +kernel
theorem dX10_count_158 : decode cX10_count 158 = .ok (.iconst (-1), 1) := by decide +kernel
theorem dX10_count_159 : decode cX10_count 159 = .ok (.ireturn, 1) := by decide +kernel
theorem dX10_bringSort_0 : decode cX10_bringSort 0 = .ok (.iload_n 1, 1) := by decide +kernel
theorem dX10_bringSort_1 : decode cX10_bringSort 1 = .ok (.iload_n 2, 1) := by decide +kernel
theorem dX10_bringSort_2 : decode cX10_bringSort 2 = .ok (.invokestatic 171, 3) := by decide +kernel
theorem dX10_bringSort_5 : decode cX10_bringSort 5 = .ok (.ifCond .eq 19, 3) := by decide +kernel
theorem dX10_bringSort_8 : decode cX10_bringSort 8 = .ok (.aload_n 0, 1) := by decide +kernel
theorem dX10_bringSort_9 : decode cX10_bringSort 9 = .ok (.getfield 12, 3) := by decide +kernel
theorem dX10_bringSort_12 : decode cX10_bringSort 12 = .ok (.iload_n 1, 1) := by decide +kernel
theorem dX10_bringSort_13 : decode cX10_bringSort 13 = .ok (.iload_n 2, 1) := by decide +kernel
theorem dX10_bringSort_14 : decode cX10_bringSort 14 = .ok (.invokevirtual 175, 3) := by decide +kernel
theorem dX10_bringSort_17 : decode cX10_bringSort 17 = .ok (.ifCond .eq 7, 3) := by decide +kernel
theorem dX10_bringSort_20 : decode cX10_bringSort 20 = .ok (.iconst 1, 1) := by decide +kernel
theorem dX10_bringSort_21 : decode cX10_bringSort 21 = .ok (.goto 4, 3) := by decide +kernel
theorem dX10_bringSort_24 : decode cX10_bringSort 24 = .ok (.iconst 0, 1) := by decide +kernel
theorem dX10_bringSort_25 : decode cX10_bringSort 25 = .ok (.ireturn, 1) := by decide +kernel
theorem dX10_isSort_0 : decode cX10_isSort 0 = .ok (.iload_n 0, 1) := by decide +kernel
theorem dX10_isSort_1 : decode cX10_isSort 1 = .ok (.iconst 1, 1) := by decide +kernel
theorem dX10_isSort_2 : decode cX10_isSort 2 = .ok (.if_icmp .lt 22, 3) := by decide +kernel
theorem dX10_isSort_5 : decode cX10_isSort 5 = .ok (.iload_n 0, 1) := by decide +kernel
theorem dX10_isSort_6 : decode cX10_isSort 6 = .ok (.bipush 9, 2) := by decide +kernel
theorem dX10_isSort_8 : decode cX10_isSort 8 = .ok (.if_icmp .gt 16, 3) := by decide +kernel
theorem dX10_isSort_11 : decode cX10_isSort 11 = .ok (.iload_n 1, 1) := by decide +kernel
theorem dX10_isSort_12 : decode cX10_isSort 12 = .ok (.ifCond .lt 12, 3) := by decide +kernel
theorem dX10_isSort_15 : decode cX10_isSort 15 = .ok (.iload_n 1, 1) := by decide +kernel
theorem dX10_isSort_16 : decode cX10_isSort 16 = .ok (.iconst 2, 1) := by decide +kernel
theorem dX10_isSort_17 : decode cX10_isSort 17 = .ok (.if_icmp .gt 7, 3) := by decide +kernel
theorem dX10_isSort_20 : decode cX10_isSort 20 = .ok (.iconst 1, 1) := by decide +kernel
theorem dX10_isSort_21 : decode cX10_isSort 21 = .ok (.goto 4, 3) := by decide +kernel
theorem dX10_isSort_24 : decode cX10_isSort 24 = .ok (.iconst 0, 1) := by decide +kernel
theorem dX10_isSort_25 : decode cX10_isSort 25 = .ok (.ireturn, 1) := by decide +kernel
theorem dX10_isHeat_0 : decode cX10_isHeat 0 = .ok (.iload_n 0, 1) := by decide +kernel
theorem dX10_isHeat_1 : decode cX10_isHeat 1 = .ok (.ifCond .lt 13, 3) := by decide +kernel
theorem dX10_isHeat_4 : decode cX10_isHeat 4 = .ok (.iload_n 0, 1) := by decide +kernel
theorem dX10_isHeat_5 : decode cX10_isHeat 5 = .ok (.bipush 99, 2) := by decide +kernel
theorem dX10_isHeat_7 : decode cX10_isHeat 7 = .ok (.if_icmp .gt 7, 3) := by decide +kernel
theorem dX10_isHeat_10 : decode cX10_isHeat 10 = .ok (.iconst 1, 1) := by decide +kernel
theorem dX10_isHeat_11 : decode cX10_isHeat 11 = .ok (.goto 4, 3) := by decide +kernel
theorem dX10_isHeat_14 : decode cX10_isHeat 14 = .ok (.iconst 0, 1) := by decide +kernel
theorem dX10_isHeat_15 : decode cX10_isHeat 15 = .ok (.ireturn, 1) := by decide +kernel
theorem dX10_isSheet_0 : decode cX10_isSheet 0 = .ok (.iload_n 0, 1) := by decide +kernel
theorem dX10_isSheet_1 : decode cX10_isSheet 1 = .ok (.ifCond .lt 12, 3) := by decide +kernel
theorem dX10_isSheet_4 : decode cX10_isSheet 4 = .ok (.iload_n 0, 1) := by decide +kernel
theorem dX10_isSheet_5 : decode cX10_isSheet 5 = .ok (.iconst 4, 1) := by decide +kernel
theorem dX10_isSheet_6 : decode cX10_isSheet 6 = .ok (.if_icmp .ge 7, 3) := by decide +kernel
theorem dX10_isSheet_9 : decode cX10_isSheet 9 = .ok (.iconst 1, 1) := by decide +kernel
theorem dX10_isSheet_10 : decode cX10_isSheet 10 = .ok (.goto 4, 3) := by decide +kernel
theorem dX10_isSheet_13 : decode cX10_isSheet 13 = .ok (.iconst 0, 1) := by decide +kernel
theorem dX10_isSheet_14 : decode cX10_isSheet 14 = .ok (.ireturn, 1) := by decide +kernel
theorem dX10_isLane_0 : decode cX10_isLane 0 = .ok (.iload_n 0, 1) := by decide +kernel
theorem dX10_isLane_1 : decode cX10_isLane 1 = .ok (.ifCond .lt 12, 3) := by decide +kernel
theorem dX10_isLane_4 : decode cX10_isLane 4 = .ok (.iload_n 0, 1) := by decide +kernel
theorem dX10_isLane_5 : decode cX10_isLane 5 = .ok (.iconst 2, 1) := by decide +kernel
theorem dX10_isLane_6 : decode cX10_isLane 6 = .ok (.if_icmp .gt 7, 3) := by decide +kernel
theorem dX10_isLane_9 : decode cX10_isLane 9 = .ok (.iconst 1, 1) := by decide +kernel
theorem dX10_isLane_10 : decode cX10_isLane 10 = .ok (.goto 4, 3) := by decide +kernel
theorem dX10_isLane_13 : decode cX10_isLane 13 = .ok (.iconst 0, 1) := by decide +kernel
theorem dX10_isLane_14 : decode cX10_isLane 14 = .ok (.ireturn, 1) := by decide +kernel
theorem dX10_stepSeed_0 : decode cX10_stepSeed 0 = .ok (.iload_n 0, 1) := by decide +kernel
theorem dX10_stepSeed_1 : decode cX10_stepSeed 1 = .ok (.ldc_w 362, 3) := by decide +kernel
theorem dX10_stepSeed_4 : decode cX10_stepSeed 4 = .ok (.imul, 1) := by decide +kernel
theorem dX10_stepSeed_5 : decode cX10_stepSeed 5 = .ok (.sipush 12345, 3) := by decide +kernel
theorem dX10_stepSeed_8 : decode cX10_stepSeed 8 = .ok (.iadd, 1) := by decide +kernel
theorem dX10_stepSeed_9 : decode cX10_stepSeed 9 = .ok (.ireturn, 1) := by decide +kernel
theorem dX10_seedBits_0 : decode cX10_seedBits 0 = .ok (.iload_n 0, 1) := by decide +kernel
theorem dX10_seedBits_1 : decode cX10_seedBits 1 = .ok (.bipush 16, 2) := by decide +kernel
theorem dX10_seedBits_3 : decode cX10_seedBits 3 = .ok (.iushr, 1) := by decide +kernel
theorem dX10_seedBits_4 : decode cX10_seedBits 4 = .ok (.sipush 32767, 3) := by decide +kernel
theorem dX10_seedBits_7 : decode cX10_seedBits 7 = .ok (.iand, 1) := by decide +kernel
theorem dX10_seedBits_8 : decode cX10_seedBits 8 = .ok (.ireturn, 1) := by decide +kernel
theorem dX10_fractionPart_0 : decode cX10_fractionPart 0 = .ok (.lload_n 0, 1) := by decide +kernel
theorem dX10_fractionPart_1 : decode cX10_fractionPart 1 = .ok (.lload_n 2, 1) := by decide +kernel
theorem dX10_fractionPart_2 : decode cX10_fractionPart 2 = .ok (.invokestatic 363, 3) := by decide +kernel
theorem dX10_fractionPart_5 : decode cX10_fractionPart 5 = .ok (.lstore 5, 2) := by decide +kernel
theorem dX10_fractionPart_7 : decode cX10_fractionPart 7 = .ok (.lload 5, 2) := by decide +kernel
theorem dX10_fractionPart_9 : decode cX10_fractionPart 9 = .ok (.lconst 0, 1) := by decide +kernel
theorem dX10_fractionPart_10 : decode cX10_fractionPart 10 = .ok (.lcmp, 1) := by decide +kernel
theorem dX10_fractionPart_11 : decode cX10_fractionPart 11 = .ok (.ifCond .ne 7, 3) := by decide +kernel
theorem dX10_fractionPart_14 : decode cX10_fractionPart 14 = .ok (.iload 4, 2) := by decide +kernel
theorem dX10_fractionPart_16 : decode cX10_fractionPart 16 = .ok (.i2l, 1) := by decide +kernel
theorem dX10_fractionPart_17 : decode cX10_fractionPart 17 = .ok (.lreturn, 1) := by decide +kernel
theorem dX10_fractionPart_18 : decode cX10_fractionPart 18 = .ok (.iload 4, 2) := by decide +kernel
theorem dX10_fractionPart_20 : decode cX10_fractionPart 20 = .ok (.ifCond .ne 7, 3) := by decide +kernel
theorem dX10_fractionPart_23 : decode cX10_fractionPart 23 = .ok (.lload_n 0, 1) := by decide +kernel
theorem dX10_fractionPart_24 : decode cX10_fractionPart 24 = .ok (.goto 4, 3) := by decide +kernel
theorem dX10_fractionPart_27 : decode cX10_fractionPart 27 = .ok (.lload_n 2, 1) := by decide +kernel
theorem dX10_fractionPart_28 : decode cX10_fractionPart 28 = .ok (.lload 5, 2) := by decide +kernel
theorem dX10_fractionPart_30 : decode cX10_fractionPart 30 = .ok (.ldiv, 1) := by decide +kernel
theorem dX10_fractionPart_31 : decode cX10_fractionPart 31 = .ok (.lreturn, 1) := by decide +kernel
theorem dX10_commonDivisor_0 : decode cX10_commonDivisor 0 = .ok (.lload_n 0, 1) := by decide +kernel
theorem dX10_commonDivisor_1 : decode cX10_commonDivisor 1 = .ok (.lstore 4, 2) := by decide +kernel
theorem dX10_commonDivisor_3 : decode cX10_commonDivisor 3 = .ok (.lload_n 2, 1) := by decide +kernel
theorem dX10_commonDivisor_4 : decode cX10_commonDivisor 4 = .ok (.lstore 6, 2) := by decide +kernel
theorem dX10_commonDivisor_6 : decode cX10_commonDivisor 6 = .ok (.iconst 0, 1) := by decide +kernel
theorem dX10_commonDivisor_7 : decode cX10_commonDivisor 7 = .ok (.istore 8, 2) := by decide +kernel
theorem dX10_commonDivisor_9 : decode cX10_commonDivisor 9 = .ok (.iload 8, 2) := by decide +kernel
theorem dX10_commonDivisor_11 : decode cX10_commonDivisor 11 = .ok (.sipush 200, 3) := by decide +kernel
theorem dX10_commonDivisor_14 : decode cX10_commonDivisor 14 = .ok (.if_icmp .ge 31, 3) := by decide +kernel
theorem dX10_commonDivisor_17 : decode cX10_commonDivisor 17 = .ok (.lload 6, 2) := by decide +kernel
theorem dX10_commonDivisor_19 : decode cX10_commonDivisor 19 = .ok (.lconst 0, 1) := by decide +kernel
theorem dX10_commonDivisor_20 : decode cX10_commonDivisor 20 = .ok (.lcmp, 1) := by decide +kernel
theorem dX10_commonDivisor_21 : decode cX10_commonDivisor 21 = .ok (.ifCond .eq 24, 3) := by decide +kernel
theorem dX10_commonDivisor_24 : decode cX10_commonDivisor 24 = .ok (.lload 4, 2) := by decide +kernel
theorem dX10_commonDivisor_26 : decode cX10_commonDivisor 26 = .ok (.lload 6, 2) := by decide +kernel
theorem dX10_commonDivisor_28 : decode cX10_commonDivisor 28 = .ok (.lrem, 1) := by decide +kernel
theorem dX10_commonDivisor_29 : decode cX10_commonDivisor 29 = .ok (.lstore 9, 2) := by decide +kernel
theorem dX10_commonDivisor_31 : decode cX10_commonDivisor 31 = .ok (.lload 6, 2) := by decide +kernel
theorem dX10_commonDivisor_33 : decode cX10_commonDivisor 33 = .ok (.lstore 4, 2) := by decide +kernel
theorem dX10_commonDivisor_35 : decode cX10_commonDivisor 35 = .ok (.lload 9, 2) := by decide +kernel
theorem dX10_commonDivisor_37 : decode cX10_commonDivisor 37 = .ok (.lstore 6, 2) := by decide +kernel
theorem dX10_commonDivisor_39 : decode cX10_commonDivisor 39 = .ok (.iinc 8 1, 3) := by decide +kernel
theorem dX10_commonDivisor_42 : decode cX10_commonDivisor 42 = .ok (.goto (-33), 3) := by decide +kernel
theorem dX10_commonDivisor_45 : decode cX10_commonDivisor 45 = .ok (.lload 4, 2) := by decide +kernel
theorem dX10_commonDivisor_47 : decode cX10_commonDivisor 47 = .ok (.lreturn, 1) := by decide +kernel
