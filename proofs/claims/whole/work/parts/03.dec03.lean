theorem dX8_init_0 : decode cX8_init 0 = .ok (.aload_n 0, 1) := by decide +kernel
theorem dX8_init_1 : decode cX8_init 1 = .ok (.invokespecial 1, 3) := by decide +kernel
theorem dX8_init_4 : decode cX8_init 4 = .ok (.aload_n 0, 1) := by decide +kernel
theorem dX8_init_5 : decode cX8_init 5 = .ok (.new 7, 3) := by decide +kernel
theorem dX8_init_8 : decode cX8_init 8 = .ok (.dup, 1) := by decide +kernel
theorem dX8_init_9 : decode cX8_init 9 = .ok (.invokespecial 9, 3) := by decide +kernel
theorem dX8_init_12 : decode cX8_init 12 = .ok (.putfield 10, 3) := by decide +kernel
theorem dX8_init_15 : decode cX8_init 15 = .ok (.aload_n 0, 1) := by decide +kernel
theorem dX8_init_16 : decode cX8_init 16 = .ok (.iconst 2, 1) := by decide +kernel
theorem dX8_init_17 : decode cX8_init 17 = .ok (.anewarray 7, 3) := by decide +kernel
theorem dX8_init_20 : decode cX8_init 20 = .ok (.putfield 16, 3) := by decide +kernel
theorem dX8_init_23 : decode cX8_init 23 = .ok (.aload_n 0, 1) := by decide +kernel
theorem dX8_init_24 : decode cX8_init 24 = .ok (.iconst 2, 1) := by decide +kernel
theorem dX8_init_25 : decode cX8_init 25 = .ok (.newarray .boolean, 2) := by decide +kernel
theorem dX8_init_27 : decode cX8_init 27 = .ok (.putfield 20, 3) := by decide +kernel
theorem dX8_init_30 : decode cX8_init 30 = .ok (.aload_n 0, 1) := by decide +kernel
theorem dX8_init_31 : decode cX8_init 31 = .ok (.new 24, 3) := by decide +kernel
theorem dX8_init_34 : decode cX8_init 34 = .ok (.dup, 1) := by decide +kernel
theorem dX8_init_35 : decode cX8_init 35 = .ok (.iconst 4, 1) := by decide +kernel
theorem dX8_init_36 : decode cX8_init 36 = .ok (.bipush 6, 2) := by decide +kernel
theorem dX8_init_38 : decode cX8_init 38 = .ok (.invokespecial 26, 3) := by decide +kernel
theorem dX8_init_41 : decode cX8_init 41 = .ok (.putfield 29, 3) := by decide +kernel
theorem dX8_init_44 : decode cX8_init 44 = .ok (.aload_n 0, 1) := by decide +kernel
theorem dX8_init_45 : decode cX8_init 45 = .ok (.new 24, 3) := by decide +kernel
theorem dX8_init_48 : decode cX8_init 48 = .ok (.dup, 1) := by decide +kernel
theorem dX8_init_49 : decode cX8_init 49 = .ok (.iconst 1, 1) := by decide +kernel
theorem dX8_init_50 : decode cX8_init 50 = .ok (.sipush 160, 3) := by decide +kernel
theorem dX8_init_53 : decode cX8_init 53 = .ok (.invokespecial 26, 3) := by decide +kernel
theorem dX8_init_56 : decode cX8_init 56 = .ok (.putfield 33, 3) := by decide +kernel
theorem dX8_init_59 : decode cX8_init 59 = .ok (.aload_n 0, 1) := by decide +kernel
theorem dX8_init_60 : decode cX8_init 60 = .ok (.new 36, 3) := by decide +kernel
theorem dX8_init_63 : decode cX8_init 63 = .ok (.dup, 1) := by decide +kernel
theorem dX8_init_64 : decode cX8_init 64 = .ok (.aload_n 0, 1) := by decide +kernel
theorem dX8_init_65 : decode cX8_init 65 = .ok (.getfield 33, 3) := by decide +kernel
theorem dX8_init_68 : decode cX8_init 68 = .ok (.invokespecial 38, 3) := by decide +kernel
theorem dX8_init_71 : decode cX8_init 71 = .ok (.putfield 41, 3) := by decide +kernel
theorem dX8_init_74 : decode cX8_init 74 = .ok (.aload_n 0, 1) := by decide +kernel
theorem dX8_init_75 : decode cX8_init 75 = .ok (.iconst 4, 1) := by decide +kernel
theorem dX8_init_76 : decode cX8_init 76 = .ok (.anewarray 45, 3) := by decide +kernel
theorem dX8_init_79 : decode cX8_init 79 = .ok (.putfield 47, 3) := by decide +kernel
theorem dX8_init_82 : decode cX8_init 82 = .ok (.aload_n 0, 1) := by decide +kernel
theorem dX8_init_83 : decode cX8_init 83 = .ok (.new 51, 3) := by decide +kernel
theorem dX8_init_86 : decode cX8_init 86 = .ok (.dup, 1) := by decide +kernel
theorem dX8_init_87 : decode cX8_init 87 = .ok (.invokespecial 53, 3) := by decide +kernel
theorem dX8_init_90 : decode cX8_init 90 = .ok (.putfield 54, 3) := by decide +kernel
theorem dX8_init_93 : decode cX8_init 93 = .ok (.aload_n 0, 1) := by decide +kernel
theorem dX8_init_94 : decode cX8_init 94 = .ok (.new 58, 3) := by decide +kernel
theorem dX8_init_97 : decode cX8_init 97 = .ok (.dup, 1) := by decide +kernel
theorem dX8_init_98 : decode cX8_init 98 = .ok (.invokespecial 60, 3) := by decide +kernel
theorem dX8_init_101 : decode cX8_init 101 = .ok (.putfield 61, 3) := by decide +kernel
theorem dX8_init_104 : decode cX8_init 104 = .ok (.aload_n 0, 1) := by decide +kernel
theorem dX8_init_105 : decode cX8_init 105 = .ok (.new 65, 3) := by decide +kernel
theorem dX8_init_108 : decode cX8_init 108 = .ok (.dup, 1) := by decide +kernel
theorem dX8_init_109 : decode cX8_init 109 = .ok (.invokespecial 67, 3) := by decide +kernel
theorem dX8_init_112 : decode cX8_init 112 = .ok (.putfield 68, 3) := by decide +kernel
theorem dX8_init_115 : decode cX8_init 115 = .ok (.aload_n 0, 1) := by decide +kernel
theorem dX8_init_116 : decode cX8_init 116 = .ok (.bipush 10, 2) := by decide +kernel
theorem dX8_init_118 : decode cX8_init 118 = .ok (.newarray .int, 2) := by decide +kernel
theorem dX8_init_120 : decode cX8_init 120 = .ok (.putfield 72, 3) := by decide +kernel
theorem dX8_init_123 : decode cX8_init 123 = .ok (.aload_n 0, 1) := by decide +kernel
theorem dX8_init_124 : decode cX8_init 124 = .ok (.bipush 90, 2) := by decide +kernel
theorem dX8_init_126 : decode cX8_init 126 = .ok (.newarray .int, 2) := by decide +kernel
theorem dX8_init_128 : decode cX8_init 128 = .ok (.putfield 76, 3) := by decide +kernel
theorem dX8_init_131 : decode cX8_init 131 = .ok (.iconst 0, 1) := by decide +kernel
theorem dX8_init_132 : decode cX8_init 132 = .ok (.istore_n 1, 1) := by decide +kernel
theorem dX8_init_133 : decode cX8_init 133 = .ok (.iload_n 1, 1) := by decide +kernel
theorem dX8_init_134 : decode cX8_init 134 = .ok (.iconst 2, 1) := by decide +kernel
theorem dX8_init_135 : decode cX8_init 135 = .ok (.if_icmp .ge 22, 3) := by decide +kernel
theorem dX8_init_138 : decode cX8_init 138 = .ok (.aload_n 0, 1) := by decide +kernel
theorem dX8_init_139 : decode cX8_init 139 = .ok (.getfield 16, 3) := by decide +kernel
theorem dX8_init_142 : decode cX8_init 142 = .ok (.iload_n 1, 1) := by decide +kernel
theorem dX8_init_143 : decode cX8_init 143 = .ok (.new 7, 3) := by decide +kernel
theorem dX8_init_146 : decode cX8_init 146 = .ok (.dup, 1) := by decide +kernel
theorem dX8_init_147 : decode cX8_init 147 = .ok (.invokespecial 9, 3) := by decide +kernel
theorem dX8_init_150 : decode cX8_init 150 = .ok (.aastore, 1) := by decide +kernel
theorem dX8_init_151 : decode cX8_init 151 = .ok (.iinc 1 1, 3) := by decide +kernel
theorem dX8_init_154 : decode cX8_init 154 = .ok (.goto (-21), 3) := by decide +kernel
theorem dX8_init_157 : decode cX8_init 157 = .ok (.iconst 0, 1) := by decide +kernel
theorem dX8_init_158 : decode cX8_init 158 = .ok (.istore_n 1, 1) := by decide +kernel
theorem dX8_init_159 : decode cX8_init 159 = .ok (.iload_n 1, 1) := by decide +kernel
theorem dX8_init_160 : decode cX8_init 160 = .ok (.iconst 4, 1) := by decide +kernel
theorem dX8_init_161 : decode cX8_init 161 = .ok (.if_icmp .ge 22, 3) := by decide +kernel
theorem dX8_init_164 : decode cX8_init 164 = .ok (.aload_n 0, 1) := by decide +kernel
theorem dX8_init_165 : decode cX8_init 165 = .ok (.getfield 47, 3) := by decide +kernel
theorem dX8_init_168 : decode cX8_init 168 = .ok (.iload_n 1, 1) := by decide +kernel
theorem dX8_init_169 : decode cX8_init 169 = .ok (.new 45, 3) := by decide +kernel
theorem dX8_init_172 : decode cX8_init 172 = .ok (.dup, 1) := by decide +kernel
theorem dX8_init_173 : decode cX8_init 173 = .ok (.invokespecial 79, 3) := by decide +kernel
theorem dX8_init_176 : decode cX8_init 176 = .ok (.aastore, 1) := by decide +kernel
theorem dX8_init_177 : decode cX8_init 177 = .ok (.iinc 1 1, 3) := by decide +kernel
theorem dX8_init_180 : decode cX8_init 180 = .ok (.goto (-21), 3) := by decide +kernel
theorem dX8_init_183 : decode cX8_init 183 = .ok (.return_, 1) := by decide +kernel
theorem dX8_feed_0 : decode cX8_feed 0 = .ok (.iload_n 1, 1) := by decide +kernel
theorem dX8_feed_1 : decode cX8_feed 1 = .ok (.ifCond .lt 9, 3) := by decide +kernel
theorem dX8_feed_4 : decode cX8_feed 4 = .ok (.iload_n 1, 1) := by decide +kernel
theorem dX8_feed_5 : decode cX8_feed 5 = .ok (.bipush 127, 2) := by decide +kernel
theorem dX8_feed_7 : decode cX8_feed 7 = .ok (.if_icmp .le 5, 3) := by decide +kernel
theorem dX8_feed_10 : decode cX8_feed 10 = .ok (.iconst (-1), 1) := by decide +kernel
theorem dX8_feed_11 : decode cX8_feed 11 = .ok (.ireturn, 1) := by decide +kernel
theorem dX8_feed_12 : decode cX8_feed 12 = .ok (.aload_n 0, 1) := by decide +kernel
theorem dX8_feed_13 : decode cX8_feed 13 = .ok (.getfield 33, 3) := by decide +kernel
theorem dX8_feed_16 : decode cX8_feed 16 = .ok (.iload_n 1, 1) := by decide +kernel
theorem dX8_feed_17 : decode cX8_feed 17 = .ok (.iconst 0, 1) := by decide +kernel
theorem dX8_feed_18 : decode cX8_feed 18 = .ok (.iconst 0, 1) := by decide +kernel
theorem dX8_feed_19 : decode cX8_feed 19 = .ok (.iconst 0, 1) := by decide +kernel
theorem dX8_feed_20 : decode cX8_feed 20 = .ok (.invokevirtual 80, 3) := by decide +kernel
theorem dX8_feed_23 : decode cX8_feed 23 = .ok (.ireturn, 1) := by decide +kernel
theorem dX8_end_0 : decode cX8_end 0 = .ok (.aload_n 0, 1) := by decide +kernel
theorem dX8_end_1 : decode cX8_end 1 = .ok (.getfield 33, 3) := by decide +kernel
theorem dX8_end_4 : decode cX8_end 4 = .ok (.iload_n 1, 1) := by decide +kernel
theorem dX8_end_5 : decode cX8_end 5 = .ok (.invokevirtual 84, 3) := by decide +kernel
theorem dX8_end_8 : decode cX8_end 8 = .ok (.ireturn, 1) := by decide +kernel
theorem dX8_text_0 : decode cX8_text 0 = .ok (.aload_n 0, 1) := by decide +kernel
theorem dX8_text_1 : decode cX8_text 1 = .ok (.getfield 41, 3) := by decide +kernel
theorem dX8_text_4 : decode cX8_text 4 = .ok (.invokevirtual 88, 3) := by decide +kernel
theorem dX8_text_7 : decode cX8_text 7 = .ok (.aload_n 0, 1) := by decide +kernel
theorem dX8_text_8 : decode cX8_text 8 = .ok (.getfield 33, 3) := by decide +kernel
theorem dX8_text_11 : decode cX8_text 11 = .ok (.iconst 0, 1) := by decide +kernel
theorem dX8_text_12 : decode cX8_text 12 = .ok (.invokevirtual 84, 3) := by decide +kernel
theorem dX8_text_15 : decode cX8_text 15 = .ok (.pop, 1) := by decide +kernel
theorem dX8_text_16 : decode cX8_text 16 = .ok (.aload_n 0, 1) := by decide +kernel
theorem dX8_text_17 : decode cX8_text 17 = .ok (.aload_n 0, 1) := by decide +kernel
theorem dX8_text_18 : decode cX8_text 18 = .ok (.getfield 41, 3) := by decide +kernel
theorem dX8_text_21 : decode cX8_text 21 = .ok (.getfield 91, 3) := by decide +kernel
theorem dX8_text_24 : decode cX8_text 24 = .ok (.putfield 95, 3) := by decide +kernel
theorem dX8_text_27 : decode cX8_text 27 = .ok (.aload_n 0, 1) := by decide +kernel
theorem dX8_text_28 : decode cX8_text 28 = .ok (.getfield 95, 3) := by decide +kernel
theorem dX8_text_31 : decode cX8_text 31 = .ok (.ifCond .eq 14, 3) := by decide +kernel
theorem dX8_text_34 : decode cX8_text 34 = .ok (.bipush (-10), 2) := by decide +kernel
theorem dX8_text_36 : decode cX8_text 36 = .ok (.aload_n 0, 1) := by decide +kernel
theorem dX8_text_37 : decode cX8_text 37 = .ok (.getfield 41, 3) := by decide +kernel
theorem dX8_text_40 : decode cX8_text 40 = .ok (.getfield 98, 3) := by decide +kernel
theorem dX8_text_43 : decode cX8_text 43 = .ok (.isub, 1) := by decide +kernel
theorem dX8_text_44 : decode cX8_text 44 = .ok (.ireturn, 1) := by decide +kernel
theorem dX8_text_45 : decode cX8_text 45 = .ok (.aload_n 0, 1) := by decide +kernel
theorem dX8_text_46 : decode cX8_text 46 = .ok (.getfield 10, 3) := by decide +kernel
theorem dX8_text_49 : decode cX8_text 49 = .ok (.aload_n 0, 1) := by decide +kernel
theorem dX8_text_50 : decode cX8_text 50 = .ok (.getfield 41, 3) := by decide +kernel
theorem dX8_text_53 : decode cX8_text 53 = .ok (.getfield 101, 3) := by decide +kernel
theorem dX8_text_56 : decode cX8_text 56 = .ok (.invokevirtual 104, 3) := by decide +kernel
theorem dX8_text_59 : decode cX8_text 59 = .ok (.aload_n 0, 1) := by decide +kernel
theorem dX8_text_60 : decode cX8_text 60 = .ok (.getfield 29, 3) := by decide +kernel
theorem dX8_text_63 : decode cX8_text 63 = .ok (.iconst 0, 1) := by decide +kernel
theorem dX8_text_64 : decode cX8_text 64 = .ok (.invokevirtual 84, 3) := by decide +kernel
theorem dX8_text_67 : decode cX8_text 67 = .ok (.pop, 1) := by decide +kernel
theorem dX8_text_68 : decode cX8_text 68 = .ok (.iconst 0, 1) := by decide +kernel
theorem dX8_text_69 : decode cX8_text 69 = .ok (.istore_n 1, 1) := by decide +kernel
theorem dX8_text_70 : decode cX8_text 70 = .ok (.iload_n 1, 1) := by decide +kernel
theorem dX8_text_71 : decode cX8_text 71 = .ok (.iconst 2, 1) := by decide +kernel
theorem dX8_text_72 : decode cX8_text 72 = .ok (.if_icmp .ge 16, 3) := by decide +kernel
theorem dX8_text_75 : decode cX8_text 75 = .ok (.aload_n 0, 1) := by decide +kernel
theorem dX8_text_76 : decode cX8_text 76 = .ok (.getfield 20, 3) := by decide +kernel
theorem dX8_text_79 : decode cX8_text 79 = .ok (.iload_n 1, 1) := by decide +kernel
theorem dX8_text_80 : decode cX8_text 80 = .ok (.iconst 0, 1) := by decide +kernel
theorem dX8_text_81 : decode cX8_text 81 = .ok (.bastore, 1) := by decide +kernel
theorem dX8_text_82 : decode cX8_text 82 = .ok (.iinc 1 1, 3) := by decide +kernel
theorem dX8_text_85 : decode cX8_text 85 = .ok (.goto (-15), 3) := by decide +kernel
theorem dX8_text_88 : decode cX8_text 88 = .ok (.aload_n 0, 1) := by decide +kernel
theorem dX8_text_89 : decode cX8_text 89 = .ok (.getfield 41, 3) := by decide +kernel
theorem dX8_text_92 : decode cX8_text 92 = .ok (.getfield 108, 3) := by decide +kernel
theorem dX8_text_95 : decode cX8_text 95 = .ok (.ireturn, 1) := by decide +kernel
theorem dX8_fault_0 : decode cX8_fault 0 = .ok (.aload_n 0, 1) := by decide +kernel
theorem dX8_fault_1 : decode cX8_fault 1 = .ok (.getfield 95, 3) := by decide +kernel
theorem dX8_fault_4 : decode cX8_fault 4 = .ok (.ireturn, 1) := by decide +kernel
theorem dX8_rule_0 : decode cX8_rule 0 = .ok (.iload_n 1, 1) := by decide +kernel
theorem dX8_rule_1 : decode cX8_rule 1 = .ok (.tableswitch 117 0 5 #[39, 50, 61, 72, 83, 91], 39) := by decide +kernel
theorem dX8_rule_40 : decode cX8_rule 40 = .ok (.aload_n 0, 1) := by decide +kernel
theorem dX8_rule_41 : decode cX8_rule 41 = .ok (.getfield 10, 3) := by decide +kernel
theorem dX8_rule_44 : decode cX8_rule 44 = .ok (.getfield 111, 3) := by decide +kernel
theorem dX8_rule_47 : decode cX8_rule 47 = .ok (.getfield 114, 3) := by decide +kernel
theorem dX8_rule_50 : decode cX8_rule 50 = .ok (.ireturn, 1) := by decide +kernel
theorem dX8_rule_51 : decode cX8_rule 51 = .ok (.aload_n 0, 1) := by decide +kernel
theorem dX8_rule_52 : decode cX8_rule 52 = .ok (.getfield 10, 3) := by decide +kernel
theorem dX8_rule_55 : decode cX8_rule 55 = .ok (.getfield 117, 3) := by decide +kernel
theorem dX8_rule_58 : decode cX8_rule 58 = .ok (.getfield 114, 3) := by decide +kernel
theorem dX8_rule_61 : decode cX8_rule 61 = .ok (.ireturn, 1) := by decide +kernel
theorem dX8_rule_62 : decode cX8_rule 62 = .ok (.aload_n 0, 1) := by decide +kernel
theorem dX8_rule_63 : decode cX8_rule 63 = .ok (.getfield 10, 3) := by decide +kernel
theorem dX8_rule_66 : decode cX8_rule 66 = .ok (.getfield 120, 3) := by decide +kernel
theorem dX8_rule_69 : decode cX8_rule 69 = .ok (.getfield 114, 3) := by decide +kernel
theorem dX8_rule_72 : decode cX8_rule 72 = .ok (.ireturn, 1) := by decide +kernel
theorem dX8_rule_73 : decode cX8_rule 73 = .ok (.aload_n 0, 1) := by decide +kernel
theorem dX8_rule_74 : decode cX8_rule 74 = .ok (.getfield 10, 3) := by decide +kernel
theorem dX8_rule_77 : decode cX8_rule 77 = .ok (.getfield 123, 3) := by decide +kernel
theorem dX8_rule_80 : decode cX8_rule 80 = .ok (.getfield 114, 3) := by decide +kernel
theorem dX8_rule_83 : decode cX8_rule 83 = .ok (.ireturn, 1) := by decide +kernel
theorem dX8_rule_84 : decode cX8_rule 84 = .ok (.aload_n 0, 1) := by decide +kernel
theorem dX8_rule_85 : decode cX8_rule 85 = .ok (.getfield 10, 3) := by decide +kernel
theorem dX8_rule_88 : decode cX8_rule 88 = .ok (.invokevirtual 126, 3) := by decide +kernel
theorem dX8_rule_91 : decode cX8_rule 91 = .ok (.ireturn, 1) := by decide +kernel
theorem dX8_rule_92 : decode cX8_rule 92 = .ok (.aload_n 0, 1) := by decide +kernel
theorem dX8_rule_93 : decode cX8_rule 93 = .ok (.getfield 54, 3) := by decide +kernel
theorem dX8_rule_96 : decode cX8_rule 96 = .ok (.aload_n 0, 1) := by decide +kernel
theorem dX8_rule_97 : decode cX8_rule 97 = .ok (.getfield 10, 3) := by decide +kernel
theorem dX8_rule_100 : decode cX8_rule 100 = .ok (.aload_n 0, 1) := by decide +kernel
theorem dX8_rule_101 : decode cX8_rule 101 = .ok (.getfield 10, 3) := by decide +kernel
theorem dX8_rule_104 : decode cX8_rule 104 = .ok (.getfield 130, 3) := by decide +kernel
theorem dX8_rule_107 : decode cX8_rule 107 = .ok (.invokevirtual 133, 3) := by decide +kernel
theorem dX8_rule_110 : decode cX8_rule 110 = .ok (.aload_n 0, 1) := by decide +kernel
theorem dX8_rule_111 : decode cX8_rule 111 = .ok (.getfield 54, 3) := by decide +kernel
theorem dX8_rule_114 : decode cX8_rule 114 = .ok (.invokevirtual 137, 3) := by decide +kernel
theorem dX8_rule_117 : decode cX8_rule 117 = .ok (.ireturn, 1) := by decide +kernel
theorem dX8_rule_118 : decode cX8_rule 118 = .ok (.iconst (-1), 1) := by decide +kernel
theorem dX8_rule_119 : decode cX8_rule 119 = .ok (.ireturn, 1) := by decide +kernel
theorem dX8_one_0 : decode cX8_one 0 = .ok (.aload_n 0, 1) := by decide +kernel
theorem dX8_one_1 : decode cX8_one 1 = .ok (.getfield 10, 3) := by decide +kernel
theorem dX8_one_4 : decode cX8_one 4 = .ok (.iload_n 1, 1) := by decide +kernel
theorem dX8_one_5 : decode cX8_one 5 = .ok (.invokevirtual 140, 3) := by decide +kernel
theorem dX8_one_8 : decode cX8_one 8 = .ok (.ifCond .ne 5, 3) := by decide +kernel
theorem dX8_one_11 : decode cX8_one 11 = .ok (.iconst (-1), 1) := by decide +kernel
theorem dX8_one_12 : decode cX8_one 12 = .ok (.ireturn, 1) := by decide +kernel
theorem dX8_one_13 : decode cX8_one 13 = .ok (.iload_n 2, 1) := by decide +kernel
theorem dX8_one_14 : decode cX8_one 14 = .ok (.tableswitch 97 0 4 #[34, 43, 52, 61, 70], 34) := by decide +kernel
theorem dX8_one_48 : decode cX8_one 48 = .ok (.aload_n 0, 1) := by decide +kernel
theorem dX8_one_49 : decode cX8_one 49 = .ok (.getfield 10, 3) := by decide +kernel
theorem dX8_one_52 : decode cX8_one 52 = .ok (.iload_n 1, 1) := by decide +kernel
theorem dX8_one_53 : decode cX8_one 53 = .ok (.invokevirtual 144, 3) := by decide +kernel
theorem dX8_one_56 : decode cX8_one 56 = .ok (.ireturn, 1) := by decide +kernel
theorem dX8_one_57 : decode cX8_one 57 = .ok (.aload_n 0, 1) := by decide +kernel
theorem dX8_one_58 : decode cX8_one 58 = .ok (.getfield 10, 3) := by decide +kernel
theorem dX8_one_61 : decode cX8_one 61 = .ok (.iload_n 1, 1) := by decide +kernel
theorem dX8_one_62 : decode cX8_one 62 = .ok (.invokevirtual 147, 3) := by decide +kernel
theorem dX8_one_65 : decode cX8_one 65 = .ok (.ireturn, 1) := by decide +kernel
theorem dX8_one_66 : decode cX8_one 66 = .ok (.aload_n 0, 1) := by decide +kernel
theorem dX8_one_67 : decode cX8_one 67 = .ok (.getfield 10, 3) := by decide +kernel
theorem dX8_one_70 : decode cX8_one 70 = .ok (.iload_n 1, 1) := by decide +kernel
theorem dX8_one_71 : decode cX8_one 71 = .ok (.invokevirtual 150, 3) := by decide +kernel
theorem dX8_one_74 : decode cX8_one 74 = .ok (.ireturn, 1) := by decide +kernel
theorem dX8_one_75 : decode cX8_one 75 = .ok (.aload_n 0, 1) := by decide +kernel
theorem dX8_one_76 : decode cX8_one 76 = .ok (.getfield 10, 3) := by decide +kernel
theorem dX8_one_79 : decode cX8_one 79 = .ok (.iload_n 1, 1) := by decide +kernel
theorem dX8_one_80 : decode cX8_one 80 = .ok (.invokevirtual 153, 3) := by decide +kernel
theorem dX8_one_83 : decode cX8_one 83 = .ok (.ireturn, 1) := by decide +kernel
theorem dX8_one_84 : decode cX8_one 84 = .ok (.aload_n 0, 1) := by decide +kernel
theorem dX8_one_85 : decode cX8_one 85 = .ok (.getfield 54, 3) := by decide +kernel
theorem dX8_one_88 : decode cX8_one 88 = .ok (.aload_n 0, 1) := by decide +kernel
theorem dX8_one_89 : decode cX8_one 89 = .ok (.getfield 10, 3) := by decide +kernel
theorem dX8_one_92 : decode cX8_one 92 = .ok (.aload_n 0, 1) := by decide +kernel
theorem dX8_one_93 : decode cX8_one 93 = .ok (.getfield 10, 3) := by decide +kernel
theorem dX8_one_96 : decode cX8_one 96 = .ok (.getfield 130, 3) := by decide +kernel
theorem dX8_one_99 : decode cX8_one 99 = .ok (.invokevirtual 133, 3) := by decide +kernel
theorem dX8_one_102 : decode cX8_one 102 = .ok (.aload_n 0, 1) := by decide +kernel
theorem dX8_one_103 : decode cX8_one 103 = .ok (.getfield 54, 3) := by decide +kernel
theorem dX8_one_106 : decode cX8_one 106 = .ok (.iload_n 1, 1) := by decide +kernel
theorem dX8_one_107 : decode cX8_one 107 = .ok (.invokevirtual 156, 3) := by decide +kernel
theorem dX8_one_110 : decode cX8_one 110 = .ok (.ireturn, 1) := by decide +kernel
theorem dX8_one_111 : decode cX8_one 111 = .ok (.iconst (-1), 1) := by decide +kernel
theorem dX8_one_112 : decode cX8_one 112 = .ok (.ireturn, 1) := by decide +kernel
theorem dX8_thing_0 : decode cX8_thing 0 = .ok (.iload_n 1, 1) := by decide +kernel
theorem dX8_thing_1 : decode cX8_thing 1 = .ok (.invokestatic 159, 3) := by decide +kernel
theorem dX8_thing_4 : decode cX8_thing 4 = .ok (.ifCond .eq 16, 3) := by decide +kernel
theorem dX8_thing_7 : decode cX8_thing 7 = .ok (.iload_n 2, 1) := by decide +kernel
theorem dX8_thing_8 : decode cX8_thing 8 = .ok (.bipush (-4), 2) := by decide +kernel
theorem dX8_thing_10 : decode cX8_thing 10 = .ok (.if_icmp .eq 12, 3) := by decide +kernel
theorem dX8_thing_13 : decode cX8_thing 13 = .ok (.iload_n 2, 1) := by decide +kernel
theorem dX8_thing_14 : decode cX8_thing 14 = .ok (.invokestatic 162, 3) := by decide +kernel
theorem dX8_thing_17 : decode cX8_thing 17 = .ok (.ifCond .ne 5, 3) := by decide +kernel
theorem dX8_thing_20 : decode cX8_thing 20 = .ok (.iconst (-1), 1) := by decide +kernel
theorem dX8_thing_21 : decode cX8_thing 21 = .ok (.ireturn, 1) := by decide +kernel
theorem dX8_thing_22 : decode cX8_thing 22 = .ok (.aload_n 0, 1) := by decide +kernel
theorem dX8_thing_23 : decode cX8_thing 23 = .ok (.getfield 10, 3) := by decide +kernel
theorem dX8_thing_26 : decode cX8_thing 26 = .ok (.iload_n 1, 1) := by decide +kernel
theorem dX8_thing_27 : decode cX8_thing 27 = .ok (.iload_n 2, 1) := by decide +kernel
theorem dX8_thing_28 : decode cX8_thing 28 = .ok (.invokevirtual 165, 3) := by decide +kernel
theorem dX8_thing_31 : decode cX8_thing 31 = .ok (.ireturn, 1) := by decide +kernel
theorem dX8_rota_0 : decode cX8_rota 0 = .ok (.iload_n 1, 1) := by decide +kernel
theorem dX8_rota_1 : decode cX8_rota 1 = .ok (.invokestatic 162, 3) := by decide +kernel
theorem dX8_rota_4 : decode cX8_rota 4 = .ok (.ifCond .eq 15, 3) := by decide +kernel
theorem dX8_rota_7 : decode cX8_rota 7 = .ok (.aload_n 0, 1) := by decide +kernel
theorem dX8_rota_8 : decode cX8_rota 8 = .ok (.getfield 10, 3) := by decide +kernel
theorem dX8_rota_11 : decode cX8_rota 11 = .ok (.getfield 130, 3) := by decide +kernel
theorem dX8_rota_14 : decode cX8_rota 14 = .ok (.iload_n 1, 1) := by decide +kernel
theorem dX8_rota_15 : decode cX8_rota 15 = .ok (.iaload, 1) := by decide +kernel
theorem dX8_rota_16 : decode cX8_rota 16 = .ok (.goto 4, 3) := by decide +kernel
theorem dX8_rota_19 : decode cX8_rota 19 = .ok (.iconst (-1), 1) := by decide +kernel
theorem dX8_rota_20 : decode cX8_rota 20 = .ok (.ireturn, 1) := by decide +kernel
theorem dX8_turn_0 : decode cX8_turn 0 = .ok (.aload_n 0, 1) := by decide +kernel
theorem dX8_turn_1 : decode cX8_turn 1 = .ok (.getfield 10, 3) := by decide +kernel
theorem dX8_turn_4 : decode cX8_turn 4 = .ok (.getfield 117, 3) := by decide +kernel
theorem dX8_turn_7 : decode cX8_turn 7 = .ok (.iload_n 1, 1) := by decide +kernel
theorem dX8_turn_8 : decode cX8_turn 8 = .ok (.iload_n 2, 1) := by decide +kernel
theorem dX8_turn_9 : decode cX8_turn 9 = .ok (.invokevirtual 169, 3) := by decide +kernel
theorem dX8_turn_12 : decode cX8_turn 12 = .ok (.ireturn, 1) := by decide +kernel
theorem dX8_work_0 : decode cX8_work 0 = .ok (.iload_n 2, 1) := by decide +kernel
theorem dX8_work_1 : decode cX8_work 1 = .ok (.iconst 4, 1) := by decide +kernel
theorem dX8_work_2 : decode cX8_work 2 = .ok (.if_icmp .eq 16, 3) := by decide +kernel
theorem dX8_work_5 : decode cX8_work 5 = .ok (.aload_n 0, 1) := by decide +kernel
theorem dX8_work_6 : decode cX8_work 6 = .ok (.getfield 10, 3) := by decide +kernel
theorem dX8_work_9 : decode cX8_work 9 = .ok (.getfield 120, 3) := by decide +kernel
theorem dX8_work_12 : decode cX8_work 12 = .ok (.iload_n 1, 1) := by decide +kernel
theorem dX8_work_13 : decode cX8_work 13 = .ok (.iload_n 2, 1) := by decide +kernel
theorem dX8_work_14 : decode cX8_work 14 = .ok (.invokevirtual 169, 3) := by decide +kernel
theorem dX8_work_17 : decode cX8_work 17 = .ok (.ireturn, 1) := by decide +kernel
theorem dX8_work_18 : decode cX8_work 18 = .ok (.aload_n 0, 1) := by decide +kernel
theorem dX8_work_19 : decode cX8_work 19 = .ok (.getfield 10, 3) := by decide +kernel
theorem dX8_work_22 : decode cX8_work 22 = .ok (.getfield 120, 3) := by decide +kernel
theorem dX8_work_25 : decode cX8_work 25 = .ok (.iload_n 1, 1) := by decide +kernel
theorem dX8_work_26 : decode cX8_work 26 = .ok (.invokevirtual 172, 3) := by decide +kernel
theorem dX8_work_29 : decode cX8_work 29 = .ok (.ifCond .ne 5, 3) := by decide +kernel
theorem dX8_work_32 : decode cX8_work 32 = .ok (.iconst (-1), 1) := by decide +kernel
theorem dX8_work_33 : decode cX8_work 33 = .ok (.ireturn, 1) := by decide +kernel
theorem dX8_work_34 : decode cX8_work 34 = .ok (.aload_n 0, 1) := by decide +kernel
theorem dX8_work_35 : decode cX8_work 35 = .ok (.getfield 54, 3) := by decide +kernel
theorem dX8_work_38 : decode cX8_work 38 = .ok (.aload_n 0, 1) := by decide +kernel
theorem dX8_work_39 : decode cX8_work 39 = .ok (.getfield 10, 3) := by decide +kernel
theorem dX8_work_42 : decode cX8_work 42 = .ok (.aload_n 0, 1) := by decide +kernel
theorem dX8_work_43 : decode cX8_work 43 = .ok (.getfield 10, 3) := by decide +kernel
theorem dX8_work_46 : decode cX8_work 46 = .ok (.getfield 130, 3) := by decide +kernel
theorem dX8_work_49 : decode cX8_work 49 = .ok (.invokevirtual 133, 3) := by decide +kernel
theorem dX8_work_52 : decode cX8_work 52 = .ok (.aload_n 0, 1) := by decide +kernel
theorem dX8_work_53 : decode cX8_work 53 = .ok (.getfield 54, 3) := by decide +kernel
theorem dX8_work_56 : decode cX8_work 56 = .ok (.aload_n 0, 1) := by decide +kernel
theorem dX8_work_57 : decode cX8_work 57 = .ok (.getfield 10, 3) := by decide +kernel
theorem dX8_work_60 : decode cX8_work 60 = .ok (.iload_n 1, 1) := by decide +kernel
theorem dX8_work_61 : decode cX8_work 61 = .ok (.invokevirtual 175, 3) := by decide +kernel
theorem dX8_work_64 : decode cX8_work 64 = .ok (.ifCond .eq 7, 3) := by decide +kernel
theorem dX8_work_67 : decode cX8_work 67 = .ok (.iconst 1, 1) := by decide +kernel
theorem dX8_work_68 : decode cX8_work 68 = .ok (.goto 4, 3) := by decide +kernel
theorem dX8_work_71 : decode cX8_work 71 = .ok (.iconst 0, 1) := by decide +kernel
theorem dX8_work_72 : decode cX8_work 72 = .ok (.ireturn, 1) := by decide +kernel
theorem dX8_telling_0 : decode cX8_telling 0 = .ok (.aload_n 0, 1) := by decide +kernel
theorem dX8_telling_1 : decode cX8_telling 1 = .ok (.getfield 10, 3) := by decide +kernel
theorem dX8_telling_4 : decode cX8_telling 4 = .ok (.getfield 123, 3) := by decide +kernel
theorem dX8_telling_7 : decode cX8_telling 7 = .ok (.iload_n 1, 1) := by decide +kernel
theorem dX8_telling_8 : decode cX8_telling 8 = .ok (.iload_n 2, 1) := by decide +kernel
theorem dX8_telling_9 : decode cX8_telling 9 = .ok (.invokevirtual 169, 3) := by decide +kernel
theorem dX8_telling_12 : decode cX8_telling 12 = .ok (.ireturn, 1) := by decide +kernel
theorem dX8_alter_0 : decode cX8_alter 0 = .ok (.aload_n 0, 1) := by decide +kernel
theorem dX8_alter_1 : decode cX8_alter 1 = .ok (.getfield 10, 3) := by decide +kernel
theorem dX8_alter_4 : decode cX8_alter 4 = .ok (.iload_n 1, 1) := by decide +kernel
theorem dX8_alter_5 : decode cX8_alter 5 = .ok (.invokevirtual 140, 3) := by decide +kernel
theorem dX8_alter_8 : decode cX8_alter 8 = .ok (.ifCond .eq 27, 3) := by decide +kernel
theorem dX8_alter_11 : decode cX8_alter 11 = .ok (.iload_n 2, 1) := by decide +kernel
theorem dX8_alter_12 : decode cX8_alter 12 = .ok (.invokestatic 179, 3) := by decide +kernel
theorem dX8_alter_15 : decode cX8_alter 15 = .ok (.ifCond .eq 20, 3) := by decide +kernel
theorem dX8_alter_18 : decode cX8_alter 18 = .ok (.iload_n 3, 1) := by decide +kernel
theorem dX8_alter_19 : decode cX8_alter 19 = .ok (.ifCond .lt 16, 3) := by decide +kernel
theorem dX8_alter_22 : decode cX8_alter 22 = .ok (.iload_n 3, 1) := by decide +kernel
theorem dX8_alter_23 : decode cX8_alter 23 = .ok (.iload_n 2, 1) := by decide +kernel
theorem dX8_alter_24 : decode cX8_alter 24 = .ok (.ifCond .ne 7, 3) := by decide +kernel
theorem dX8_alter_27 : decode cX8_alter 27 = .ok (.iconst 3, 1) := by decide +kernel
theorem dX8_alter_28 : decode cX8_alter 28 = .ok (.goto 4, 3) := by decide +kernel
theorem dX8_alter_31 : decode cX8_alter 31 = .ok (.iconst 2, 1) := by decide +kernel
theorem dX8_alter_32 : decode cX8_alter 32 = .ok (.if_icmp .le 5, 3) := by decide +kernel
theorem dX8_alter_35 : decode cX8_alter 35 = .ok (.iconst (-1), 1) := by decide +kernel
theorem dX8_alter_36 : decode cX8_alter 36 = .ok (.ireturn, 1) := by decide +kernel
theorem dX8_alter_37 : decode cX8_alter 37 = .ok (.aload_n 0, 1) := by decide +kernel
theorem dX8_alter_38 : decode cX8_alter 38 = .ok (.getfield 10, 3) := by decide +kernel
theorem dX8_alter_41 : decode cX8_alter 41 = .ok (.getfield 111, 3) := by decide +kernel
theorem dX8_alter_44 : decode cX8_alter 44 = .ok (.iload_n 1, 1) := by decide +kernel
theorem dX8_alter_45 : decode cX8_alter 45 = .ok (.iload_n 2, 1) := by decide +kernel
theorem dX8_alter_46 : decode cX8_alter 46 = .ok (.invokevirtual 169, 3) := by decide +kernel
theorem dX8_alter_49 : decode cX8_alter 49 = .ok (.istore 4, 2) := by decide +kernel
theorem dX8_alter_51 : decode cX8_alter 51 = .ok (.aload_n 0, 1) := by decide +kernel
theorem dX8_alter_52 : decode cX8_alter 52 = .ok (.getfield 10, 3) := by decide +kernel
theorem dX8_alter_55 : decode cX8_alter 55 = .ok (.getfield 111, 3) := by decide +kernel
theorem dX8_alter_58 : decode cX8_alter 58 = .ok (.iload_n 1, 1) := by decide +kernel
theorem dX8_alter_59 : decode cX8_alter 59 = .ok (.iload_n 2, 1) := by decide +kernel
theorem dX8_alter_60 : decode cX8_alter 60 = .ok (.iload_n 3, 1) := by decide +kernel
theorem dX8_alter_61 : decode cX8_alter 61 = .ok (.invokevirtual 182, 3) := by decide +kernel
theorem dX8_alter_64 : decode cX8_alter 64 = .ok (.iload 4, 2) := by decide +kernel
theorem dX8_alter_66 : decode cX8_alter 66 = .ok (.ireturn, 1) := by decide +kernel
theorem dX8_paint_0 : decode cX8_paint 0 = .ok (.iload_n 1, 1) := by decide +kernel
theorem dX8_paint_1 : decode cX8_paint 1 = .ok (.invokestatic 159, 3) := by decide +kernel
theorem dX8_paint_4 : decode cX8_paint 4 = .ok (.ifCond .eq 10, 3) := by decide +kernel
theorem dX8_paint_7 : decode cX8_paint 7 = .ok (.iload_n 2, 1) := by decide +kernel
theorem dX8_paint_8 : decode cX8_paint 8 = .ok (.invokestatic 186, 3) := by decide +kernel
theorem dX8_paint_11 : decode cX8_paint 11 = .ok (.ifCond .ne 5, 3) := by decide +kernel
theorem dX8_paint_14 : decode cX8_paint 14 = .ok (.iconst (-1), 1) := by decide +kernel
theorem dX8_paint_15 : decode cX8_paint 15 = .ok (.ireturn, 1) := by decide +kernel
theorem dX8_paint_16 : decode cX8_paint 16 = .ok (.aload_n 0, 1) := by decide +kernel
theorem dX8_paint_17 : decode cX8_paint 17 = .ok (.getfield 10, 3) := by decide +kernel
theorem dX8_paint_20 : decode cX8_paint 20 = .ok (.getfield 189, 3) := by decide +kernel
theorem dX8_paint_23 : decode cX8_paint 23 = .ok (.iload_n 1, 1) := by decide +kernel
theorem dX8_paint_24 : decode cX8_paint 24 = .ok (.iaload, 1) := by decide +kernel
theorem dX8_paint_25 : decode cX8_paint 25 = .ok (.istore_n 3, 1) := by decide +kernel
theorem dX8_paint_26 : decode cX8_paint 26 = .ok (.aload_n 0, 1) := by decide +kernel
theorem dX8_paint_27 : decode cX8_paint 27 = .ok (.getfield 10, 3) := by decide +kernel
theorem dX8_paint_30 : decode cX8_paint 30 = .ok (.getfield 189, 3) := by decide +kernel
theorem dX8_paint_33 : decode cX8_paint 33 = .ok (.iload_n 1, 1) := by decide +kernel
theorem dX8_paint_34 : decode cX8_paint 34 = .ok (.iload_n 2, 1) := by decide +kernel
theorem dX8_paint_35 : decode cX8_paint 35 = .ok (.iastore, 1) := by decide +kernel
theorem dX8_paint_36 : decode cX8_paint 36 = .ok (.iload_n 3, 1) := by decide +kernel
theorem dX8_paint_37 : decode cX8_paint 37 = .ok (.ireturn, 1) := by decide +kernel
theorem dX8_shift_0 : decode cX8_shift 0 = .ok (.aload_n 0, 1) := by decide +kernel
theorem dX8_shift_1 : decode cX8_shift 1 = .ok (.iload_n 1, 1) := by decide +kernel
theorem dX8_shift_2 : decode cX8_shift 2 = .ok (.iload_n 2, 1) := by decide +kernel
theorem dX8_shift_3 : decode cX8_shift 3 = .ok (.invokevirtual 192, 3) := by decide +kernel
theorem dX8_shift_6 : decode cX8_shift 6 = .ok (.ifCond .ne 5, 3) := by decide +kernel
theorem dX8_shift_9 : decode cX8_shift 9 = .ok (.iconst (-1), 1) := by decide +kernel
theorem dX8_shift_10 : decode cX8_shift 10 = .ok (.ireturn, 1) := by decide +kernel
theorem dX8_shift_11 : decode cX8_shift 11 = .ok (.aload_n 0, 1) := by decide +kernel
theorem dX8_shift_12 : decode cX8_shift 12 = .ok (.getfield 10, 3) := by decide +kernel
theorem dX8_shift_15 : decode cX8_shift 15 = .ok (.getfield 130, 3) := by decide +kernel
theorem dX8_shift_18 : decode cX8_shift 18 = .ok (.iload_n 1, 1) := by decide +kernel
theorem dX8_shift_19 : decode cX8_shift 19 = .ok (.iaload, 1) := by decide +kernel
theorem dX8_shift_20 : decode cX8_shift 20 = .ok (.istore_n 3, 1) := by decide +kernel
theorem dX8_shift_21 : decode cX8_shift 21 = .ok (.aload_n 0, 1) := by decide +kernel
theorem dX8_shift_22 : decode cX8_shift 22 = .ok (.getfield 10, 3) := by decide +kernel
theorem dX8_shift_25 : decode cX8_shift 25 = .ok (.getfield 130, 3) := by decide +kernel
theorem dX8_shift_28 : decode cX8_shift 28 = .ok (.iload_n 1, 1) := by decide +kernel
theorem dX8_shift_29 : decode cX8_shift 29 = .ok (.iload_n 2, 1) := by decide +kernel
theorem dX8_shift_30 : decode cX8_shift 30 = .ok (.iastore, 1) := by decide +kernel
theorem dX8_shift_31 : decode cX8_shift 31 = .ok (.iload_n 3, 1) := by decide +kernel
theorem dX8_shift_32 : decode cX8_shift 32 = .ok (.ireturn, 1) := by decide +kernel
theorem dX8_assign_0 : decode cX8_assign 0 = .ok (.aload_n 0, 1) := by decide +kernel
theorem dX8_assign_1 : decode cX8_assign 1 = .ok (.getfield 10, 3) := by decide +kernel
theorem dX8_assign_4 : decode cX8_assign 4 = .ok (.iload_n 1, 1) := by decide +kernel
theorem dX8_assign_5 : decode cX8_assign 5 = .ok (.invokevirtual 140, 3) := by decide +kernel
theorem dX8_assign_8 : decode cX8_assign 8 = .ok (.ifCond .eq 35, 3) := by decide +kernel
theorem dX8_assign_11 : decode cX8_assign 11 = .ok (.iload_n 2, 1) := by decide +kernel
theorem dX8_assign_12 : decode cX8_assign 12 = .ok (.invokestatic 162, 3) := by decide +kernel
theorem dX8_assign_15 : decode cX8_assign 15 = .ok (.ifCond .eq 28, 3) := by decide +kernel
theorem dX8_assign_18 : decode cX8_assign 18 = .ok (.iload_n 3, 1) := by decide +kernel
theorem dX8_assign_19 : decode cX8_assign 19 = .ok (.invokestatic 162, 3) := by decide +kernel
theorem dX8_assign_22 : decode cX8_assign 22 = .ok (.ifCond .eq 21, 3) := by decide +kernel
theorem dX8_assign_25 : decode cX8_assign 25 = .ok (.iload_n 3, 1) := by decide +kernel
theorem dX8_assign_26 : decode cX8_assign 26 = .ok (.iload_n 2, 1) := by decide +kernel
theorem dX8_assign_27 : decode cX8_assign 27 = .ok (.if_icmp .lt 16, 3) := by decide +kernel
theorem dX8_assign_30 : decode cX8_assign 30 = .ok (.iload 4, 2) := by decide +kernel
theorem dX8_assign_32 : decode cX8_assign 32 = .ok (.iconst 1, 1) := by decide +kernel
theorem dX8_assign_33 : decode cX8_assign 33 = .ok (.if_icmp .lt 10, 3) := by decide +kernel
theorem dX8_assign_36 : decode cX8_assign 36 = .ok (.iload 4, 2) := by decide +kernel
theorem dX8_assign_38 : decode cX8_assign 38 = .ok (.bipush 9, 2) := by decide +kernel
theorem dX8_assign_40 : decode cX8_assign 40 = .ok (.if_icmp .le 5, 3) := by decide +kernel
theorem dX8_assign_43 : decode cX8_assign 43 = .ok (.iconst (-1), 1) := by decide +kernel
theorem dX8_assign_44 : decode cX8_assign 44 = .ok (.ireturn, 1) := by decide +kernel
theorem dX8_assign_45 : decode cX8_assign 45 = .ok (.aload_n 0, 1) := by decide +kernel
theorem dX8_assign_46 : decode cX8_assign 46 = .ok (.getfield 10, 3) := by decide +kernel
theorem dX8_assign_49 : decode cX8_assign 49 = .ok (.getfield 120, 3) := by decide +kernel
theorem dX8_assign_52 : decode cX8_assign 52 = .ok (.iload_n 1, 1) := by decide +kernel
theorem dX8_assign_53 : decode cX8_assign 53 = .ok (.iload_n 2, 1) := by decide +kernel
theorem dX8_assign_54 : decode cX8_assign 54 = .ok (.iload_n 3, 1) := by decide +kernel
theorem dX8_assign_55 : decode cX8_assign 55 = .ok (.iload 4, 2) := by decide +kernel
theorem dX8_assign_57 : decode cX8_assign 57 = .ok (.invokevirtual 80, 3) := by decide +kernel
theorem dX8_assign_60 : decode cX8_assign 60 = .ok (.ireturn, 1) := by decide +kernel
theorem dX8_change_0 : decode cX8_change 0 = .ok (.iload_n 1, 1) := by decide +kernel
theorem dX8_change_1 : decode cX8_change 1 = .ok (.invokestatic 162, 3) := by decide +kernel
theorem dX8_change_4 : decode cX8_change 4 = .ok (.ifCond .eq 17, 3) := by decide +kernel
theorem dX8_change_7 : decode cX8_change 7 = .ok (.iload_n 2, 1) := by decide +kernel
theorem dX8_change_8 : decode cX8_change 8 = .ok (.invokestatic 159, 3) := by decide +kernel
theorem dX8_change_11 : decode cX8_change 11 = .ok (.ifCond .eq 10, 3) := by decide +kernel
theorem dX8_change_14 : decode cX8_change 14 = .ok (.iload_n 3, 1) := by decide +kernel
theorem dX8_change_15 : decode cX8_change 15 = .ok (.invokestatic 186, 3) := by decide +kernel
theorem dX8_change_18 : decode cX8_change 18 = .ok (.ifCond .ne 5, 3) := by decide +kernel
theorem dX8_change_21 : decode cX8_change 21 = .ok (.iconst (-1), 1) := by decide +kernel
theorem dX8_change_22 : decode cX8_change 22 = .ok (.ireturn, 1) := by decide +kernel
theorem dX8_change_23 : decode cX8_change 23 = .ok (.aload_n 0, 1) := by decide +kernel
theorem dX8_change_24 : decode cX8_change 24 = .ok (.getfield 10, 3) := by decide +kernel
theorem dX8_change_27 : decode cX8_change 27 = .ok (.getfield 117, 3) := by decide +kernel
theorem dX8_change_30 : decode cX8_change 30 = .ok (.iload_n 1, 1) := by decide +kernel
theorem dX8_change_31 : decode cX8_change 31 = .ok (.iload_n 2, 1) := by decide +kernel
theorem dX8_change_32 : decode cX8_change 32 = .ok (.iload_n 3, 1) := by decide +kernel
theorem dX8_change_33 : decode cX8_change 33 = .ok (.iconst 0, 1) := by decide +kernel
theorem dX8_change_34 : decode cX8_change 34 = .ok (.invokevirtual 80, 3) := by decide +kernel
theorem dX8_change_37 : decode cX8_change 37 = .ok (.ireturn, 1) := by decide +kernel
theorem dX8_tell_0 : decode cX8_tell 0 = .ok (.iload_n 1, 1) := by decide +kernel
theorem dX8_tell_1 : decode cX8_tell 1 = .ok (.invokestatic 162, 3) := by decide +kernel
theorem dX8_tell_4 : decode cX8_tell 4 = .ok (.ifCond .eq 38, 3) := by decide +kernel
theorem dX8_tell_7 : decode cX8_tell 7 = .ok (.aload_n 0, 1) := by decide +kernel
theorem dX8_tell_8 : decode cX8_tell 8 = .ok (.getfield 10, 3) := by decide +kernel
theorem dX8_tell_11 : decode cX8_tell 11 = .ok (.iload_n 2, 1) := by decide +kernel
theorem dX8_tell_12 : decode cX8_tell 12 = .ok (.invokevirtual 140, 3) := by decide +kernel
theorem dX8_tell_15 : decode cX8_tell 15 = .ok (.ifCond .eq 27, 3) := by decide +kernel
theorem dX8_tell_18 : decode cX8_tell 18 = .ok (.aload_n 0, 1) := by decide +kernel
theorem dX8_tell_19 : decode cX8_tell 19 = .ok (.getfield 10, 3) := by decide +kernel
theorem dX8_tell_22 : decode cX8_tell 22 = .ok (.iload_n 3, 1) := by decide +kernel
theorem dX8_tell_23 : decode cX8_tell 23 = .ok (.invokevirtual 140, 3) := by decide +kernel
theorem dX8_tell_26 : decode cX8_tell 26 = .ok (.ifCond .eq 16, 3) := by decide +kernel
theorem dX8_tell_29 : decode cX8_tell 29 = .ok (.iload_n 2, 1) := by decide +kernel
theorem dX8_tell_30 : decode cX8_tell 30 = .ok (.iload_n 3, 1) := by decide +kernel
theorem dX8_tell_31 : decode cX8_tell 31 = .ok (.if_icmp .eq 11, 3) := by decide +kernel
theorem dX8_tell_34 : decode cX8_tell 34 = .ok (.iload 4, 2) := by decide +kernel
theorem dX8_tell_36 : decode cX8_tell 36 = .ok (.invokestatic 159, 3) := by decide +kernel
theorem dX8_tell_39 : decode cX8_tell 39 = .ok (.ifCond .ne 5, 3) := by decide +kernel
theorem dX8_tell_42 : decode cX8_tell 42 = .ok (.iconst (-1), 1) := by decide +kernel
theorem dX8_tell_43 : decode cX8_tell 43 = .ok (.ireturn, 1) := by decide +kernel
theorem dX8_tell_44 : decode cX8_tell 44 = .ok (.aload_n 0, 1) := by decide +kernel
theorem dX8_tell_45 : decode cX8_tell 45 = .ok (.getfield 10, 3) := by decide +kernel
theorem dX8_tell_48 : decode cX8_tell 48 = .ok (.getfield 123, 3) := by decide +kernel
theorem dX8_tell_51 : decode cX8_tell 51 = .ok (.iload_n 1, 1) := by decide +kernel
theorem dX8_tell_52 : decode cX8_tell 52 = .ok (.iload_n 2, 1) := by decide +kernel
theorem dX8_tell_53 : decode cX8_tell 53 = .ok (.iload_n 3, 1) := by decide +kernel
theorem dX8_tell_54 : decode cX8_tell 54 = .ok (.iload 4, 2) := by decide +kernel
theorem dX8_tell_56 : decode cX8_tell 56 = .ok (.invokevirtual 80, 3) := by decide +kernel
theorem dX8_tell_59 : decode cX8_tell 59 = .ok (.ireturn, 1) := by decide +kernel
theorem dX8_drop_0 : decode cX8_drop 0 = .ok (.iload_n 1, 1) := by decide +kernel
theorem dX8_drop_1 : decode cX8_drop 1 = .ok (.tableswitch 63 1 3 #[27, 39, 51], 27) := by decide +kernel
theorem dX8_drop_28 : decode cX8_drop 28 = .ok (.aload_n 0, 1) := by decide +kernel
theorem dX8_drop_29 : decode cX8_drop 29 = .ok (.getfield 10, 3) := by decide +kernel
theorem dX8_drop_32 : decode cX8_drop 32 = .ok (.getfield 117, 3) := by decide +kernel
theorem dX8_drop_35 : decode cX8_drop 35 = .ok (.iload_n 2, 1) := by decide +kernel
theorem dX8_drop_36 : decode cX8_drop 36 = .ok (.invokevirtual 84, 3) := by decide +kernel
theorem dX8_drop_39 : decode cX8_drop 39 = .ok (.ireturn, 1) := by decide +kernel
theorem dX8_drop_40 : decode cX8_drop 40 = .ok (.aload_n 0, 1) := by decide +kernel
theorem dX8_drop_41 : decode cX8_drop 41 = .ok (.getfield 10, 3) := by decide +kernel
theorem dX8_drop_44 : decode cX8_drop 44 = .ok (.getfield 120, 3) := by decide +kernel
theorem dX8_drop_47 : decode cX8_drop 47 = .ok (.iload_n 2, 1) := by decide +kernel
theorem dX8_drop_48 : decode cX8_drop 48 = .ok (.invokevirtual 84, 3) := by decide +kernel
theorem dX8_drop_51 : decode cX8_drop 51 = .ok (.ireturn, 1) := by decide +kernel
theorem dX8_drop_52 : decode cX8_drop 52 = .ok (.aload_n 0, 1) := by decide +kernel
theorem dX8_drop_53 : decode cX8_drop 53 = .ok (.getfield 10, 3) := by decide +kernel
theorem dX8_drop_56 : decode cX8_drop 56 = .ok (.getfield 123, 3) := by decide +kernel
theorem dX8_drop_59 : decode cX8_drop 59 = .ok (.iload_n 2, 1) := by decide +kernel
theorem dX8_drop_60 : decode cX8_drop 60 = .ok (.invokevirtual 84, 3) := by decide +kernel
theorem dX8_drop_63 : decode cX8_drop 63 = .ok (.ireturn, 1) := by decide +kernel
theorem dX8_drop_64 : decode cX8_drop 64 = .ok (.iconst (-1), 1) := by decide +kernel
theorem dX8_drop_65 : decode cX8_drop 65 = .ok (.ireturn, 1) := by decide +kernel
theorem dX8_sees_0 : decode cX8_sees 0 = .ok (.iload_n 1, 1) := by decide +kernel
theorem dX8_sees_1 : decode cX8_sees 1 = .ok (.invokestatic 162, 3) := by decide +kernel
theorem dX8_sees_4 : decode cX8_sees 4 = .ok (.ifCond .eq 21, 3) := by decide +kernel
theorem dX8_sees_7 : decode cX8_sees 7 = .ok (.aload_n 0, 1) := by decide +kernel
theorem dX8_sees_8 : decode cX8_sees 8 = .ok (.getfield 10, 3) := by decide +kernel
theorem dX8_sees_11 : decode cX8_sees 11 = .ok (.aload_n 0, 1) := by decide +kernel
theorem dX8_sees_12 : decode cX8_sees 12 = .ok (.getfield 10, 3) := by decide +kernel
theorem dX8_sees_15 : decode cX8_sees 15 = .ok (.getfield 130, 3) := by decide +kernel
theorem dX8_sees_18 : decode cX8_sees 18 = .ok (.iload_n 1, 1) := by decide +kernel
theorem dX8_sees_19 : decode cX8_sees 19 = .ok (.invokestatic 196, 3) := by decide +kernel
theorem dX8_sees_22 : decode cX8_sees 22 = .ok (.goto 4, 3) := by decide +kernel
theorem dX8_sees_25 : decode cX8_sees 25 = .ok (.iconst (-1), 1) := by decide +kernel
theorem dX8_sees_26 : decode cX8_sees 26 = .ok (.ireturn, 1) := by decide +kernel
theorem dX8_belief_0 : decode cX8_belief 0 = .ok (.aload_n 0, 1) := by decide +kernel
theorem dX8_belief_1 : decode cX8_belief 1 = .ok (.getfield 10, 3) := by decide +kernel
theorem dX8_belief_4 : decode cX8_belief 4 = .ok (.iload_n 1, 1) := by decide +kernel
theorem dX8_belief_5 : decode cX8_belief 5 = .ok (.invokevirtual 140, 3) := by decide +kernel
theorem dX8_belief_8 : decode cX8_belief 8 = .ok (.ifCond .eq 25, 3) := by decide +kernel
theorem dX8_belief_11 : decode cX8_belief 11 = .ok (.iload_n 2, 1) := by decide +kernel
theorem dX8_belief_12 : decode cX8_belief 12 = .ok (.invokestatic 159, 3) := by decide +kernel
theorem dX8_belief_15 : decode cX8_belief 15 = .ok (.ifCond .eq 18, 3) := by decide +kernel
theorem dX8_belief_18 : decode cX8_belief 18 = .ok (.iload_n 3, 1) := by decide +kernel
theorem dX8_belief_19 : decode cX8_belief 19 = .ok (.invokestatic 162, 3) := by decide +kernel
theorem dX8_belief_22 : decode cX8_belief 22 = .ok (.ifCond .eq 11, 3) := by decide +kernel
theorem dX8_belief_25 : decode cX8_belief 25 = .ok (.iload 4, 2) := by decide +kernel
theorem dX8_belief_27 : decode cX8_belief 27 = .ok (.invokestatic 179, 3) := by decide +kernel
theorem dX8_belief_30 : decode cX8_belief 30 = .ok (.ifCond .ne 5, 3) := by decide +kernel
theorem dX8_belief_33 : decode cX8_belief 33 = .ok (.iconst (-1), 1) := by decide +kernel
theorem dX8_belief_34 : decode cX8_belief 34 = .ok (.ireturn, 1) := by decide +kernel
theorem dX8_belief_35 : decode cX8_belief 35 = .ok (.aload_n 0, 1) := by decide +kernel
theorem dX8_belief_36 : decode cX8_belief 36 = .ok (.getfield 61, 3) := by decide +kernel
theorem dX8_belief_39 : decode cX8_belief 39 = .ok (.aload_n 0, 1) := by decide +kernel
theorem dX8_belief_40 : decode cX8_belief 40 = .ok (.getfield 10, 3) := by decide +kernel
theorem dX8_belief_43 : decode cX8_belief 43 = .ok (.aload_n 0, 1) := by decide +kernel
theorem dX8_belief_44 : decode cX8_belief 44 = .ok (.getfield 10, 3) := by decide +kernel
theorem dX8_belief_47 : decode cX8_belief 47 = .ok (.getfield 130, 3) := by decide +kernel
theorem dX8_belief_50 : decode cX8_belief 50 = .ok (.invokevirtual 200, 3) := by decide +kernel
theorem dX8_belief_53 : decode cX8_belief 53 = .ok (.iload 4, 2) := by decide +kernel
theorem dX8_belief_55 : decode cX8_belief 55 = .ok (.ifCond .ne 16, 3) := by decide +kernel
theorem dX8_belief_58 : decode cX8_belief 58 = .ok (.aload_n 0, 1) := by decide +kernel
theorem dX8_belief_59 : decode cX8_belief 59 = .ok (.getfield 61, 3) := by decide +kernel
theorem dX8_belief_62 : decode cX8_belief 62 = .ok (.iload_n 1, 1) := by decide +kernel
theorem dX8_belief_63 : decode cX8_belief 63 = .ok (.iload_n 2, 1) := by decide +kernel
theorem dX8_belief_64 : decode cX8_belief 64 = .ok (.iload_n 3, 1) := by decide +kernel
theorem dX8_belief_65 : decode cX8_belief 65 = .ok (.invokevirtual 203, 3) := by decide +kernel
theorem dX8_belief_68 : decode cX8_belief 68 = .ok (.goto 13, 3) := by decide +kernel
theorem dX8_belief_71 : decode cX8_belief 71 = .ok (.aload_n 0, 1) := by decide +kernel
theorem dX8_belief_72 : decode cX8_belief 72 = .ok (.getfield 61, 3) := by decide +kernel
theorem dX8_belief_75 : decode cX8_belief 75 = .ok (.iload_n 1, 1) := by decide +kernel
theorem dX8_belief_76 : decode cX8_belief 76 = .ok (.iload_n 2, 1) := by decide +kernel
theorem dX8_belief_77 : decode cX8_belief 77 = .ok (.iload_n 3, 1) := by decide +kernel
theorem dX8_belief_78 : decode cX8_belief 78 = .ok (.invokevirtual 207, 3) := by decide +kernel
theorem dX8_belief_81 : decode cX8_belief 81 = .ok (.ireturn, 1) := by decide +kernel
theorem dX8_right_0 : decode cX8_right 0 = .ok (.iload_n 1, 1) := by decide +kernel
theorem dX8_right_1 : decode cX8_right 1 = .ok (.invokestatic 159, 3) := by decide +kernel
theorem dX8_right_4 : decode cX8_right 4 = .ok (.ifCond .eq 17, 3) := by decide +kernel
theorem dX8_right_7 : decode cX8_right 7 = .ok (.iload_n 2, 1) := by decide +kernel
theorem dX8_right_8 : decode cX8_right 8 = .ok (.invokestatic 162, 3) := by decide +kernel
theorem dX8_right_11 : decode cX8_right 11 = .ok (.ifCond .eq 10, 3) := by decide +kernel
theorem dX8_right_14 : decode cX8_right 14 = .ok (.iload_n 3, 1) := by decide +kernel
theorem dX8_right_15 : decode cX8_right 15 = .ok (.invokestatic 179, 3) := by decide +kernel
theorem dX8_right_18 : decode cX8_right 18 = .ok (.ifCond .ne 5, 3) := by decide +kernel
theorem dX8_right_21 : decode cX8_right 21 = .ok (.iconst (-1), 1) := by decide +kernel
theorem dX8_right_22 : decode cX8_right 22 = .ok (.ireturn, 1) := by decide +kernel
theorem dX8_right_23 : decode cX8_right 23 = .ok (.aload_n 0, 1) := by decide +kernel
theorem dX8_right_24 : decode cX8_right 24 = .ok (.getfield 61, 3) := by decide +kernel
theorem dX8_right_27 : decode cX8_right 27 = .ok (.aload_n 0, 1) := by decide +kernel
theorem dX8_right_28 : decode cX8_right 28 = .ok (.getfield 10, 3) := by decide +kernel
theorem dX8_right_31 : decode cX8_right 31 = .ok (.aload_n 0, 1) := by decide +kernel
theorem dX8_right_32 : decode cX8_right 32 = .ok (.getfield 10, 3) := by decide +kernel
theorem dX8_right_35 : decode cX8_right 35 = .ok (.getfield 130, 3) := by decide +kernel
theorem dX8_right_38 : decode cX8_right 38 = .ok (.invokevirtual 200, 3) := by decide +kernel
theorem dX8_right_41 : decode cX8_right 41 = .ok (.iload_n 3, 1) := by decide +kernel
theorem dX8_right_42 : decode cX8_right 42 = .ok (.ifCond .ne 19, 3) := by decide +kernel
theorem dX8_right_45 : decode cX8_right 45 = .ok (.aload_n 0, 1) := by decide +kernel
theorem dX8_right_46 : decode cX8_right 46 = .ok (.getfield 61, 3) := by decide +kernel
theorem dX8_right_49 : decode cX8_right 49 = .ok (.aload_n 0, 1) := by decide +kernel
theorem dX8_right_50 : decode cX8_right 50 = .ok (.getfield 10, 3) := by decide +kernel
theorem dX8_right_53 : decode cX8_right 53 = .ok (.iload_n 1, 1) := by decide +kernel
theorem dX8_right_54 : decode cX8_right 54 = .ok (.iload_n 2, 1) := by decide +kernel
theorem dX8_right_55 : decode cX8_right 55 = .ok (.invokevirtual 210, 3) := by decide +kernel
theorem dX8_right_58 : decode cX8_right 58 = .ok (.goto 16, 3) := by decide +kernel
theorem dX8_right_61 : decode cX8_right 61 = .ok (.aload_n 0, 1) := by decide +kernel
theorem dX8_right_62 : decode cX8_right 62 = .ok (.getfield 61, 3) := by decide +kernel
theorem dX8_right_65 : decode cX8_right 65 = .ok (.aload_n 0, 1) := by decide +kernel
theorem dX8_right_66 : decode cX8_right 66 = .ok (.getfield 10, 3) := by decide +kernel
theorem dX8_right_69 : decode cX8_right 69 = .ok (.iload_n 1, 1) := by decide +kernel
theorem dX8_right_70 : decode cX8_right 70 = .ok (.iload_n 2, 1) := by decide +kernel
theorem dX8_right_71 : decode cX8_right 71 = .ok (.invokevirtual 214, 3) := by decide +kernel
theorem dX8_right_74 : decode cX8_right 74 = .ok (.ireturn, 1) := by decide +kernel
theorem dX8_wrong_0 : decode cX8_wrong 0 = .ok (.aload_n 0, 1) := by decide +kernel
theorem dX8_wrong_1 : decode cX8_wrong 1 = .ok (.getfield 10, 3) := by decide +kernel
theorem dX8_wrong_4 : decode cX8_wrong 4 = .ok (.iload_n 1, 1) := by decide +kernel
theorem dX8_wrong_5 : decode cX8_wrong 5 = .ok (.invokevirtual 140, 3) := by decide +kernel
theorem dX8_wrong_8 : decode cX8_wrong 8 = .ok (.ifCond .eq 10, 3) := by decide +kernel
theorem dX8_wrong_11 : decode cX8_wrong 11 = .ok (.iload_n 2, 1) := by decide +kernel
theorem dX8_wrong_12 : decode cX8_wrong 12 = .ok (.invokestatic 159, 3) := by decide +kernel
theorem dX8_wrong_15 : decode cX8_wrong 15 = .ok (.ifCond .ne 5, 3) := by decide +kernel
theorem dX8_wrong_18 : decode cX8_wrong 18 = .ok (.iconst (-1), 1) := by decide +kernel
theorem dX8_wrong_19 : decode cX8_wrong 19 = .ok (.ireturn, 1) := by decide +kernel
theorem dX8_wrong_20 : decode cX8_wrong 20 = .ok (.aload_n 0, 1) := by decide +kernel
theorem dX8_wrong_21 : decode cX8_wrong 21 = .ok (.getfield 61, 3) := by decide +kernel
theorem dX8_wrong_24 : decode cX8_wrong 24 = .ok (.aload_n 0, 1) := by decide +kernel
theorem dX8_wrong_25 : decode cX8_wrong 25 = .ok (.getfield 10, 3) := by decide +kernel
theorem dX8_wrong_28 : decode cX8_wrong 28 = .ok (.aload_n 0, 1) := by decide +kernel
theorem dX8_wrong_29 : decode cX8_wrong 29 = .ok (.getfield 10, 3) := by decide +kernel
theorem dX8_wrong_32 : decode cX8_wrong 32 = .ok (.getfield 130, 3) := by decide +kernel
theorem dX8_wrong_35 : decode cX8_wrong 35 = .ok (.invokevirtual 200, 3) := by decide +kernel
theorem dX8_wrong_38 : decode cX8_wrong 38 = .ok (.iconst 0, 1) := by decide +kernel
theorem dX8_wrong_39 : decode cX8_wrong 39 = .ok (.istore_n 3, 1) := by decide +kernel
theorem dX8_wrong_40 : decode cX8_wrong 40 = .ok (.iload_n 3, 1) := by decide +kernel
theorem dX8_wrong_41 : decode cX8_wrong 41 = .ok (.bipush 10, 2) := by decide +kernel
theorem dX8_wrong_43 : decode cX8_wrong 43 = .ok (.if_icmp .ge 31, 3) := by decide +kernel
theorem dX8_wrong_46 : decode cX8_wrong 46 = .ok (.aload_n 0, 1) := by decide +kernel
theorem dX8_wrong_47 : decode cX8_wrong 47 = .ok (.getfield 61, 3) := by decide +kernel
theorem dX8_wrong_50 : decode cX8_wrong 50 = .ok (.aload_n 0, 1) := by decide +kernel
theorem dX8_wrong_51 : decode cX8_wrong 51 = .ok (.getfield 10, 3) := by decide +kernel
theorem dX8_wrong_54 : decode cX8_wrong 54 = .ok (.iload_n 2, 1) := by decide +kernel
theorem dX8_wrong_55 : decode cX8_wrong 55 = .ok (.iload_n 3, 1) := by decide +kernel
theorem dX8_wrong_56 : decode cX8_wrong 56 = .ok (.invokevirtual 214, 3) := by decide +kernel
theorem dX8_wrong_59 : decode cX8_wrong 59 = .ok (.iconst 1, 1) := by decide +kernel
theorem dX8_wrong_60 : decode cX8_wrong 60 = .ok (.iload_n 1, 1) := by decide +kernel
theorem dX8_wrong_61 : decode cX8_wrong 61 = .ok (.ishl, 1) := by decide +kernel
theorem dX8_wrong_62 : decode cX8_wrong 62 = .ok (.iand, 1) := by decide +kernel
theorem dX8_wrong_63 : decode cX8_wrong 63 = .ok (.ifCond .eq 5, 3) := by decide +kernel
theorem dX8_wrong_66 : decode cX8_wrong 66 = .ok (.iload_n 3, 1) := by decide +kernel
theorem dX8_wrong_67 : decode cX8_wrong 67 = .ok (.ireturn, 1) := by decide +kernel
theorem dX8_wrong_68 : decode cX8_wrong 68 = .ok (.iinc 3 1, 3) := by decide +kernel
theorem dX8_wrong_71 : decode cX8_wrong 71 = .ok (.goto (-31), 3) := by decide +kernel
theorem dX8_wrong_74 : decode cX8_wrong 74 = .ok (.bipush (-4), 2) := by decide +kernel
theorem dX8_wrong_76 : decode cX8_wrong 76 = .ok (.ireturn, 1) := by decide +kernel
theorem dX8_done_0 : decode cX8_done 0 = .ok (.iload_n 1, 1) := by decide +kernel
theorem dX8_done_1 : decode cX8_done 1 = .ok (.invokestatic 179, 3) := by decide +kernel
theorem dX8_done_4 : decode cX8_done 4 = .ok (.ifCond .ne 5, 3) := by decide +kernel
theorem dX8_done_7 : decode cX8_done 7 = .ok (.iconst (-1), 1) := by decide +kernel
theorem dX8_done_8 : decode cX8_done 8 = .ok (.ireturn, 1) := by decide +kernel
theorem dX8_done_9 : decode cX8_done 9 = .ok (.aload_n 0, 1) := by decide +kernel
theorem dX8_done_10 : decode cX8_done 10 = .ok (.getfield 54, 3) := by decide +kernel
theorem dX8_done_13 : decode cX8_done 13 = .ok (.aload_n 0, 1) := by decide +kernel
theorem dX8_done_14 : decode cX8_done 14 = .ok (.getfield 10, 3) := by decide +kernel
theorem dX8_done_17 : decode cX8_done 17 = .ok (.aload_n 0, 1) := by decide +kernel
theorem dX8_done_18 : decode cX8_done 18 = .ok (.getfield 10, 3) := by decide +kernel
theorem dX8_done_21 : decode cX8_done 21 = .ok (.getfield 130, 3) := by decide +kernel
theorem dX8_done_24 : decode cX8_done 24 = .ok (.invokevirtual 133, 3) := by decide +kernel
theorem dX8_done_27 : decode cX8_done 27 = .ok (.iload_n 1, 1) := by decide +kernel
theorem dX8_done_28 : decode cX8_done 28 = .ok (.ifCond .ne 17, 3) := by decide +kernel
theorem dX8_done_31 : decode cX8_done 31 = .ok (.aload_n 0, 1) := by decide +kernel
theorem dX8_done_32 : decode cX8_done 32 = .ok (.getfield 54, 3) := by decide +kernel
theorem dX8_done_35 : decode cX8_done 35 = .ok (.aload_n 0, 1) := by decide +kernel
theorem dX8_done_36 : decode cX8_done 36 = .ok (.getfield 10, 3) := by decide +kernel
theorem dX8_done_39 : decode cX8_done 39 = .ok (.invokevirtual 217, 3) := by decide +kernel
theorem dX8_done_42 : decode cX8_done 42 = .ok (.goto 14, 3) := by decide +kernel
theorem dX8_done_45 : decode cX8_done 45 = .ok (.aload_n 0, 1) := by decide +kernel
theorem dX8_done_46 : decode cX8_done 46 = .ok (.getfield 54, 3) := by decide +kernel
theorem dX8_done_49 : decode cX8_done 49 = .ok (.aload_n 0, 1) := by decide +kernel
theorem dX8_done_50 : decode cX8_done 50 = .ok (.getfield 10, 3) := by decide +kernel
theorem dX8_done_53 : decode cX8_done 53 = .ok (.invokevirtual 221, 3) := by decide +kernel
theorem dX8_done_56 : decode cX8_done 56 = .ok (.ireturn, 1) := by decide +kernel
theorem dX8_best_0 : decode cX8_best 0 = .ok (.iload_n 1, 1) := by decide +kernel
theorem dX8_best_1 : decode cX8_best 1 = .ok (.ifCond .eq 17, 3) := by decide +kernel
theorem dX8_best_4 : decode cX8_best 4 = .ok (.iload_n 1, 1) := by decide +kernel
theorem dX8_best_5 : decode cX8_best 5 = .ok (.bipush 10, 2) := by decide +kernel
theorem dX8_best_7 : decode cX8_best 7 = .ok (.if_icmp .lt 9, 3) := by decide +kernel
theorem dX8_best_10 : decode cX8_best 10 = .ok (.iload_n 1, 1) := by decide +kernel
theorem dX8_best_11 : decode cX8_best 11 = .ok (.bipush 20, 2) := by decide +kernel
theorem dX8_best_13 : decode cX8_best 13 = .ok (.if_icmp .lt 5, 3) := by decide +kernel
theorem dX8_best_16 : decode cX8_best 16 = .ok (.iconst (-1), 1) := by decide +kernel
theorem dX8_best_17 : decode cX8_best 17 = .ok (.ireturn, 1) := by decide +kernel
theorem dX8_best_18 : decode cX8_best 18 = .ok (.aload_n 0, 1) := by decide +kernel
theorem dX8_best_19 : decode cX8_best 19 = .ok (.getfield 68, 3) := by decide +kernel
theorem dX8_best_22 : decode cX8_best 22 = .ok (.aload_n 0, 1) := by decide +kernel
theorem dX8_best_23 : decode cX8_best 23 = .ok (.getfield 10, 3) := by decide +kernel
theorem dX8_best_26 : decode cX8_best 26 = .ok (.invokevirtual 224, 3) := by decide +kernel
theorem dX8_best_29 : decode cX8_best 29 = .ok (.iload_n 1, 1) := by decide +kernel
theorem dX8_best_30 : decode cX8_best 30 = .ok (.ifCond .ne 13, 3) := by decide +kernel
theorem dX8_best_33 : decode cX8_best 33 = .ok (.aload_n 0, 1) := by decide +kernel
theorem dX8_best_34 : decode cX8_best 34 = .ok (.getfield 68, 3) := by decide +kernel
theorem dX8_best_37 : decode cX8_best 37 = .ok (.getfield 227, 3) := by decide +kernel
theorem dX8_best_40 : decode cX8_best 40 = .ok (.goto 15, 3) := by decide +kernel
theorem dX8_best_43 : decode cX8_best 43 = .ok (.aload_n 0, 1) := by decide +kernel
theorem dX8_best_44 : decode cX8_best 44 = .ok (.getfield 68, 3) := by decide +kernel
theorem dX8_best_47 : decode cX8_best 47 = .ok (.getfield 230, 3) := by decide +kernel
theorem dX8_best_50 : decode cX8_best 50 = .ok (.iload_n 1, 1) := by decide +kernel
theorem dX8_best_51 : decode cX8_best 51 = .ok (.bipush 10, 2) := by decide +kernel
theorem dX8_best_53 : decode cX8_best 53 = .ok (.isub, 1) := by decide +kernel
theorem dX8_best_54 : decode cX8_best 54 = .ok (.iaload, 1) := by decide +kernel
theorem dX8_best_55 : decode cX8_best 55 = .ok (.ireturn, 1) := by decide +kernel
theorem dX8_swap_0 : decode cX8_swap 0 = .ok (.iload_n 1, 1) := by decide +kernel
theorem dX8_swap_1 : decode cX8_swap 1 = .ok (.invokestatic 179, 3) := by decide +kernel
theorem dX8_swap_4 : decode cX8_swap 4 = .ok (.ifCond .ne 5, 3) := by decide +kernel
theorem dX8_swap_7 : decode cX8_swap 7 = .ok (.iconst (-1), 1) := by decide +kernel
theorem dX8_swap_8 : decode cX8_swap 8 = .ok (.ireturn, 1) := by decide +kernel
theorem dX8_swap_9 : decode cX8_swap 9 = .ok (.aload_n 0, 1) := by decide +kernel
theorem dX8_swap_10 : decode cX8_swap 10 = .ok (.aload_n 0, 1) := by decide +kernel
theorem dX8_swap_11 : decode cX8_swap 11 = .ok (.getfield 10, 3) := by decide +kernel
theorem dX8_swap_14 : decode cX8_swap 14 = .ok (.getfield 130, 3) := by decide +kernel
theorem dX8_swap_17 : decode cX8_swap 17 = .ok (.invokevirtual 233, 3) := by decide +kernel
theorem dX8_swap_20 : decode cX8_swap 20 = .ok (.istore_n 2, 1) := by decide +kernel
theorem dX8_swap_21 : decode cX8_swap 21 = .ok (.bipush (-4), 2) := by decide +kernel
theorem dX8_swap_23 : decode cX8_swap 23 = .ok (.istore_n 3, 1) := by decide +kernel
theorem dX8_swap_24 : decode cX8_swap 24 = .ok (.iconst 0, 1) := by decide +kernel
theorem dX8_swap_25 : decode cX8_swap 25 = .ok (.istore 4, 2) := by decide +kernel
theorem dX8_swap_27 : decode cX8_swap 27 = .ok (.iload 4, 2) := by decide +kernel
theorem dX8_swap_29 : decode cX8_swap 29 = .ok (.bipush 10, 2) := by decide +kernel
theorem dX8_swap_31 : decode cX8_swap 31 = .ok (.if_icmp .ge 56, 3) := by decide +kernel
theorem dX8_swap_34 : decode cX8_swap 34 = .ok (.iload 4, 2) := by decide +kernel
theorem dX8_swap_36 : decode cX8_swap 36 = .ok (.iconst 1, 1) := by decide +kernel
theorem dX8_swap_37 : decode cX8_swap 37 = .ok (.iadd, 1) := by decide +kernel
theorem dX8_swap_38 : decode cX8_swap 38 = .ok (.istore 5, 2) := by decide +kernel
theorem dX8_swap_40 : decode cX8_swap 40 = .ok (.iload 5, 2) := by decide +kernel
theorem dX8_swap_42 : decode cX8_swap 42 = .ok (.bipush 10, 2) := by decide +kernel
theorem dX8_swap_44 : decode cX8_swap 44 = .ok (.if_icmp .ge 37, 3) := by decide +kernel
theorem dX8_swap_47 : decode cX8_swap 47 = .ok (.aload_n 0, 1) := by decide +kernel
theorem dX8_swap_48 : decode cX8_swap 48 = .ok (.iload 4, 2) := by decide +kernel
theorem dX8_swap_50 : decode cX8_swap 50 = .ok (.iload 5, 2) := by decide +kernel
theorem dX8_swap_52 : decode cX8_swap 52 = .ok (.invokevirtual 237, 3) := by decide +kernel
theorem dX8_swap_55 : decode cX8_swap 55 = .ok (.istore 6, 2) := by decide +kernel
theorem dX8_swap_57 : decode cX8_swap 57 = .ok (.iload 6, 2) := by decide +kernel
theorem dX8_swap_59 : decode cX8_swap 59 = .ok (.iload_n 2, 1) := by decide +kernel
theorem dX8_swap_60 : decode cX8_swap 60 = .ok (.if_icmp .le 15, 3) := by decide +kernel
theorem dX8_swap_63 : decode cX8_swap 63 = .ok (.iload 6, 2) := by decide +kernel
theorem dX8_swap_65 : decode cX8_swap 65 = .ok (.istore_n 2, 1) := by decide +kernel
theorem dX8_swap_66 : decode cX8_swap 66 = .ok (.bipush 10, 2) := by decide +kernel
theorem dX8_swap_68 : decode cX8_swap 68 = .ok (.iload 4, 2) := by decide +kernel
theorem dX8_swap_70 : decode cX8_swap 70 = .ok (.imul, 1) := by decide +kernel
theorem dX8_swap_71 : decode cX8_swap 71 = .ok (.iload 5, 2) := by decide +kernel
theorem dX8_swap_73 : decode cX8_swap 73 = .ok (.iadd, 1) := by decide +kernel
theorem dX8_swap_74 : decode cX8_swap 74 = .ok (.istore_n 3, 1) := by decide +kernel
theorem dX8_swap_75 : decode cX8_swap 75 = .ok (.iinc 5 1, 3) := by decide +kernel
theorem dX8_swap_78 : decode cX8_swap 78 = .ok (.goto (-38), 3) := by decide +kernel
theorem dX8_swap_81 : decode cX8_swap 81 = .ok (.iinc 4 1, 3) := by decide +kernel
theorem dX8_swap_84 : decode cX8_swap 84 = .ok (.goto (-57), 3) := by decide +kernel
theorem dX8_swap_87 : decode cX8_swap 87 = .ok (.iload_n 3, 1) := by decide +kernel
theorem dX8_swap_88 : decode cX8_swap 88 = .ok (.bipush (-4), 2) := by decide +kernel
theorem dX8_swap_90 : decode cX8_swap 90 = .ok (.if_icmp .eq 7, 3) := by decide +kernel
theorem dX8_swap_93 : decode cX8_swap 93 = .ok (.iload_n 1, 1) := by decide +kernel
theorem dX8_swap_94 : decode cX8_swap 94 = .ok (.ifCond .ne 7, 3) := by decide +kernel
theorem dX8_swap_97 : decode cX8_swap 97 = .ok (.iload_n 3, 1) := by decide +kernel
theorem dX8_swap_98 : decode cX8_swap 98 = .ok (.goto 4, 3) := by decide +kernel
theorem dX8_swap_101 : decode cX8_swap 101 = .ok (.iload_n 2, 1) := by decide +kernel
theorem dX8_swap_102 : decode cX8_swap 102 = .ok (.ireturn, 1) := by decide +kernel
theorem dX8_give_0 : decode cX8_give 0 = .ok (.iload_n 1, 1) := by decide +kernel
theorem dX8_give_1 : decode cX8_give 1 = .ok (.invokestatic 179, 3) := by decide +kernel
theorem dX8_give_4 : decode cX8_give 4 = .ok (.ifCond .ne 5, 3) := by decide +kernel
theorem dX8_give_7 : decode cX8_give 7 = .ok (.iconst (-1), 1) := by decide +kernel
theorem dX8_give_8 : decode cX8_give 8 = .ok (.ireturn, 1) := by decide +kernel
theorem dX8_give_9 : decode cX8_give 9 = .ok (.aload_n 0, 1) := by decide +kernel
theorem dX8_give_10 : decode cX8_give 10 = .ok (.aload_n 0, 1) := by decide +kernel
theorem dX8_give_11 : decode cX8_give 11 = .ok (.getfield 10, 3) := by decide +kernel
theorem dX8_give_14 : decode cX8_give 14 = .ok (.getfield 130, 3) := by decide +kernel
theorem dX8_give_17 : decode cX8_give 17 = .ok (.invokevirtual 233, 3) := by decide +kernel
theorem dX8_give_20 : decode cX8_give 20 = .ok (.istore_n 2, 1) := by decide +kernel
theorem dX8_give_21 : decode cX8_give 21 = .ok (.bipush (-4), 2) := by decide +kernel
theorem dX8_give_23 : decode cX8_give 23 = .ok (.istore_n 3, 1) := by decide +kernel
theorem dX8_give_24 : decode cX8_give 24 = .ok (.iconst 0, 1) := by decide +kernel
theorem dX8_give_25 : decode cX8_give 25 = .ok (.istore 4, 2) := by decide +kernel
theorem dX8_give_27 : decode cX8_give 27 = .ok (.iload 4, 2) := by decide +kernel
theorem dX8_give_29 : decode cX8_give 29 = .ok (.bipush 10, 2) := by decide +kernel
theorem dX8_give_31 : decode cX8_give 31 = .ok (.if_icmp .ge 61, 3) := by decide +kernel
theorem dX8_give_34 : decode cX8_give 34 = .ok (.iconst 0, 1) := by decide +kernel
theorem dX8_give_35 : decode cX8_give 35 = .ok (.istore 5, 2) := by decide +kernel
theorem dX8_give_37 : decode cX8_give 37 = .ok (.iload 5, 2) := by decide +kernel
theorem dX8_give_39 : decode cX8_give 39 = .ok (.aload_n 0, 1) := by decide +kernel
theorem dX8_give_40 : decode cX8_give 40 = .ok (.getfield 10, 3) := by decide +kernel
theorem dX8_give_43 : decode cX8_give 43 = .ok (.getfield 111, 3) := by decide +kernel
theorem dX8_give_46 : decode cX8_give 46 = .ok (.getfield 114, 3) := by decide +kernel
theorem dX8_give_49 : decode cX8_give 49 = .ok (.if_icmp .ge 37, 3) := by decide +kernel
theorem dX8_give_52 : decode cX8_give 52 = .ok (.aload_n 0, 1) := by decide +kernel
theorem dX8_give_53 : decode cX8_give 53 = .ok (.iload 4, 2) := by decide +kernel
theorem dX8_give_55 : decode cX8_give 55 = .ok (.iload 5, 2) := by decide +kernel
theorem dX8_give_57 : decode cX8_give 57 = .ok (.invokevirtual 240, 3) := by decide +kernel
theorem dX8_give_60 : decode cX8_give 60 = .ok (.istore 6, 2) := by decide +kernel
theorem dX8_give_62 : decode cX8_give 62 = .ok (.iload 6, 2) := by decide +kernel
theorem dX8_give_64 : decode cX8_give 64 = .ok (.iload_n 2, 1) := by decide +kernel
theorem dX8_give_65 : decode cX8_give 65 = .ok (.if_icmp .le 15, 3) := by decide +kernel
theorem dX8_give_68 : decode cX8_give 68 = .ok (.iload 6, 2) := by decide +kernel
theorem dX8_give_70 : decode cX8_give 70 = .ok (.istore_n 2, 1) := by decide +kernel
theorem dX8_give_71 : decode cX8_give 71 = .ok (.bipush 10, 2) := by decide +kernel
theorem dX8_give_73 : decode cX8_give 73 = .ok (.iload 4, 2) := by decide +kernel
theorem dX8_give_75 : decode cX8_give 75 = .ok (.imul, 1) := by decide +kernel
theorem dX8_give_76 : decode cX8_give 76 = .ok (.iload 5, 2) := by decide +kernel
theorem dX8_give_78 : decode cX8_give 78 = .ok (.iadd, 1) := by decide +kernel
theorem dX8_give_79 : decode cX8_give 79 = .ok (.istore_n 3, 1) := by decide +kernel
theorem dX8_give_80 : decode cX8_give 80 = .ok (.iinc 5 1, 3) := by decide +kernel
theorem dX8_give_83 : decode cX8_give 83 = .ok (.goto (-46), 3) := by decide +kernel
theorem dX8_give_86 : decode cX8_give 86 = .ok (.iinc 4 1, 3) := by decide +kernel
theorem dX8_give_89 : decode cX8_give 89 = .ok (.goto (-62), 3) := by decide +kernel
theorem dX8_give_92 : decode cX8_give 92 = .ok (.iload_n 3, 1) := by decide +kernel
theorem dX8_give_93 : decode cX8_give 93 = .ok (.bipush (-4), 2) := by decide +kernel
theorem dX8_give_95 : decode cX8_give 95 = .ok (.if_icmp .eq 7, 3) := by decide +kernel
theorem dX8_give_98 : decode cX8_give 98 = .ok (.iload_n 1, 1) := by decide +kernel
theorem dX8_give_99 : decode cX8_give 99 = .ok (.ifCond .ne 7, 3) := by decide +kernel
theorem dX8_give_102 : decode cX8_give 102 = .ok (.iload_n 3, 1) := by decide +kernel
theorem dX8_give_103 : decode cX8_give 103 = .ok (.goto 4, 3) := by decide +kernel
theorem dX8_give_106 : decode cX8_give 106 = .ok (.iload_n 2, 1) := by decide +kernel
theorem dX8_give_107 : decode cX8_give 107 = .ok (.ireturn, 1) := by decide +kernel
theorem dX8_mend_0 : decode cX8_mend 0 = .ok (.iload_n 1, 1) := by decide +kernel
theorem dX8_mend_1 : decode cX8_mend 1 = .ok (.invokestatic 159, 3) := by decide +kernel
theorem dX8_mend_4 : decode cX8_mend 4 = .ok (.ifCond .ne 5, 3) := by decide +kernel
theorem dX8_mend_7 : decode cX8_mend 7 = .ok (.iconst (-1), 1) := by decide +kernel
theorem dX8_mend_8 : decode cX8_mend 8 = .ok (.ireturn, 1) := by decide +kernel
theorem dX8_mend_9 : decode cX8_mend 9 = .ok (.aload_n 0, 1) := by decide +kernel
theorem dX8_mend_10 : decode cX8_mend 10 = .ok (.getfield 61, 3) := by decide +kernel
theorem dX8_mend_13 : decode cX8_mend 13 = .ok (.aload_n 0, 1) := by decide +kernel
theorem dX8_mend_14 : decode cX8_mend 14 = .ok (.getfield 10, 3) := by decide +kernel
theorem dX8_mend_17 : decode cX8_mend 17 = .ok (.aload_n 0, 1) := by decide +kernel
theorem dX8_mend_18 : decode cX8_mend 18 = .ok (.getfield 10, 3) := by decide +kernel
theorem dX8_mend_21 : decode cX8_mend 21 = .ok (.getfield 130, 3) := by decide +kernel
theorem dX8_mend_24 : decode cX8_mend 24 = .ok (.invokevirtual 200, 3) := by decide +kernel
theorem dX8_mend_27 : decode cX8_mend 27 = .ok (.aload_n 0, 1) := by decide +kernel
theorem dX8_mend_28 : decode cX8_mend 28 = .ok (.getfield 61, 3) := by decide +kernel
theorem dX8_mend_31 : decode cX8_mend 31 = .ok (.aload_n 0, 1) := by decide +kernel
theorem dX8_mend_32 : decode cX8_mend 32 = .ok (.getfield 10, 3) := by decide +kernel
theorem dX8_mend_35 : decode cX8_mend 35 = .ok (.iload_n 1, 1) := by decide +kernel
theorem dX8_mend_36 : decode cX8_mend 36 = .ok (.bipush 9, 2) := by decide +kernel
theorem dX8_mend_38 : decode cX8_mend 38 = .ok (.invokevirtual 210, 3) := by decide +kernel
theorem dX8_mend_41 : decode cX8_mend 41 = .ok (.invokestatic 243, 3) := by decide +kernel
theorem dX8_mend_44 : decode cX8_mend 44 = .ok (.istore_n 2, 1) := by decide +kernel
theorem dX8_mend_45 : decode cX8_mend 45 = .ok (.iload_n 2, 1) := by decide +kernel
theorem dX8_mend_46 : decode cX8_mend 46 = .ok (.ifCond .ne 21, 3) := by decide +kernel
theorem dX8_mend_49 : decode cX8_mend 49 = .ok (.aload_n 0, 1) := by decide +kernel
theorem dX8_mend_50 : decode cX8_mend 50 = .ok (.getfield 10, 3) := by decide +kernel
theorem dX8_mend_53 : decode cX8_mend 53 = .ok (.getfield 111, 3) := by decide +kernel
theorem dX8_mend_56 : decode cX8_mend 56 = .ok (.getfield 114, 3) := by decide +kernel
theorem dX8_mend_59 : decode cX8_mend 59 = .ok (.ifCond .le 8, 3) := by decide +kernel
theorem dX8_mend_62 : decode cX8_mend 62 = .ok (.bipush (-4), 2) := by decide +kernel
theorem dX8_mend_64 : decode cX8_mend 64 = .ok (.goto 15, 3) := by decide +kernel
theorem dX8_mend_67 : decode cX8_mend 67 = .ok (.aload_n 0, 1) := by decide +kernel
theorem dX8_mend_68 : decode cX8_mend 68 = .ok (.getfield 10, 3) := by decide +kernel
theorem dX8_mend_71 : decode cX8_mend 71 = .ok (.getfield 111, 3) := by decide +kernel
theorem dX8_mend_74 : decode cX8_mend 74 = .ok (.getfield 114, 3) := by decide +kernel
theorem dX8_mend_77 : decode cX8_mend 77 = .ok (.iload_n 2, 1) := by decide +kernel
theorem dX8_mend_78 : decode cX8_mend 78 = .ok (.isub, 1) := by decide +kernel
theorem dX8_mend_79 : decode cX8_mend 79 = .ok (.ireturn, 1) := by decide +kernel
theorem dX8_luck_0 : decode cX8_luck 0 = .ok (.iload_n 1, 1) := by decide +kernel
theorem dX8_luck_1 : decode cX8_luck 1 = .ok (.ifCond .lt 30, 3) := by decide +kernel
theorem dX8_luck_4 : decode cX8_luck 4 = .ok (.iload_n 1, 1) := by decide +kernel
theorem dX8_luck_5 : decode cX8_luck 5 = .ok (.bipush 10, 2) := by decide +kernel
theorem dX8_luck_7 : decode cX8_luck 7 = .ok (.if_icmp .gt 24, 3) := by decide +kernel
theorem dX8_luck_10 : decode cX8_luck 10 = .ok (.aload_n 0, 1) := by decide +kernel
theorem dX8_luck_11 : decode cX8_luck 11 = .ok (.getfield 10, 3) := by decide +kernel
theorem dX8_luck_14 : decode cX8_luck 14 = .ok (.getfield 120, 3) := by decide +kernel
theorem dX8_luck_17 : decode cX8_luck 17 = .ok (.iload_n 2, 1) := by decide +kernel
theorem dX8_luck_18 : decode cX8_luck 18 = .ok (.invokevirtual 172, 3) := by decide +kernel
theorem dX8_luck_21 : decode cX8_luck 21 = .ok (.ifCond .eq 10, 3) := by decide +kernel
theorem dX8_luck_24 : decode cX8_luck 24 = .ok (.iload_n 3, 1) := by decide +kernel
theorem dX8_luck_25 : decode cX8_luck 25 = .ok (.invokestatic 179, 3) := by decide +kernel
theorem dX8_luck_28 : decode cX8_luck 28 = .ok (.ifCond .ne 7, 3) := by decide +kernel
theorem dX8_luck_31 : decode cX8_luck 31 = .ok (.ldc2_w 248, 3) := by decide +kernel
theorem dX8_luck_34 : decode cX8_luck 34 = .ok (.lreturn, 1) := by decide +kernel
theorem dX8_luck_35 : decode cX8_luck 35 = .ok (.aload_n 0, 1) := by decide +kernel
theorem dX8_luck_36 : decode cX8_luck 36 = .ok (.getfield 54, 3) := by decide +kernel
theorem dX8_luck_39 : decode cX8_luck 39 = .ok (.aload_n 0, 1) := by decide +kernel
theorem dX8_luck_40 : decode cX8_luck 40 = .ok (.getfield 10, 3) := by decide +kernel
theorem dX8_luck_43 : decode cX8_luck 43 = .ok (.aload_n 0, 1) := by decide +kernel
theorem dX8_luck_44 : decode cX8_luck 44 = .ok (.getfield 10, 3) := by decide +kernel
theorem dX8_luck_47 : decode cX8_luck 47 = .ok (.getfield 130, 3) := by decide +kernel
theorem dX8_luck_50 : decode cX8_luck 50 = .ok (.invokevirtual 133, 3) := by decide +kernel
theorem dX8_luck_53 : decode cX8_luck 53 = .ok (.iload_n 1, 1) := by decide +kernel
theorem dX8_luck_54 : decode cX8_luck 54 = .ok (.aload_n 0, 1) := by decide +kernel
theorem dX8_luck_55 : decode cX8_luck 55 = .ok (.getfield 54, 3) := by decide +kernel
theorem dX8_luck_58 : decode cX8_luck 58 = .ok (.aload_n 0, 1) := by decide +kernel
theorem dX8_luck_59 : decode cX8_luck 59 = .ok (.getfield 10, 3) := by decide +kernel
theorem dX8_luck_62 : decode cX8_luck 62 = .ok (.iload_n 2, 1) := by decide +kernel
theorem dX8_luck_63 : decode cX8_luck 63 = .ok (.invokevirtual 250, 3) := by decide +kernel
theorem dX8_luck_66 : decode cX8_luck 66 = .ok (.invokestatic 254, 3) := by decide +kernel
theorem dX8_luck_69 : decode cX8_luck 69 = .ok (.iload_n 3, 1) := by decide +kernel
theorem dX8_luck_70 : decode cX8_luck 70 = .ok (.invokestatic 260, 3) := by decide +kernel
theorem dX8_luck_73 : decode cX8_luck 73 = .ok (.lreturn, 1) := by decide +kernel
theorem dX8_mean_0 : decode cX8_mean 0 = .ok (.iload_n 1, 1) := by decide +kernel
theorem dX8_mean_1 : decode cX8_mean 1 = .ok (.ifCond .lt 16, 3) := by decide +kernel
theorem dX8_mean_4 : decode cX8_mean 4 = .ok (.iload_n 1, 1) := by decide +kernel
theorem dX8_mean_5 : decode cX8_mean 5 = .ok (.bipush 10, 2) := by decide +kernel
theorem dX8_mean_7 : decode cX8_mean 7 = .ok (.if_icmp .gt 10, 3) := by decide +kernel
theorem dX8_mean_10 : decode cX8_mean 10 = .ok (.iload_n 2, 1) := by decide +kernel
theorem dX8_mean_11 : decode cX8_mean 11 = .ok (.invokestatic 179, 3) := by decide +kernel
theorem dX8_mean_14 : decode cX8_mean 14 = .ok (.ifCond .ne 7, 3) := by decide +kernel
theorem dX8_mean_17 : decode cX8_mean 17 = .ok (.ldc2_w 248, 3) := by decide +kernel
theorem dX8_mean_20 : decode cX8_mean 20 = .ok (.lreturn, 1) := by decide +kernel
theorem dX8_mean_21 : decode cX8_mean 21 = .ok (.aload_n 0, 1) := by decide +kernel
theorem dX8_mean_22 : decode cX8_mean 22 = .ok (.getfield 54, 3) := by decide +kernel
theorem dX8_mean_25 : decode cX8_mean 25 = .ok (.aload_n 0, 1) := by decide +kernel
theorem dX8_mean_26 : decode cX8_mean 26 = .ok (.getfield 10, 3) := by decide +kernel
theorem dX8_mean_29 : decode cX8_mean 29 = .ok (.aload_n 0, 1) := by decide +kernel
theorem dX8_mean_30 : decode cX8_mean 30 = .ok (.getfield 10, 3) := by decide +kernel
theorem dX8_mean_33 : decode cX8_mean 33 = .ok (.getfield 130, 3) := by decide +kernel
theorem dX8_mean_36 : decode cX8_mean 36 = .ok (.invokevirtual 133, 3) := by decide +kernel
theorem dX8_mean_39 : decode cX8_mean 39 = .ok (.lconst 0, 1) := by decide +kernel
theorem dX8_mean_40 : decode cX8_mean 40 = .ok (.lstore_n 3, 1) := by decide +kernel
theorem dX8_mean_41 : decode cX8_mean 41 = .ok (.iconst 0, 1) := by decide +kernel
theorem dX8_mean_42 : decode cX8_mean 42 = .ok (.istore 5, 2) := by decide +kernel
theorem dX8_mean_44 : decode cX8_mean 44 = .ok (.iload 5, 2) := by decide +kernel
theorem dX8_mean_46 : decode cX8_mean 46 = .ok (.aload_n 0, 1) := by decide +kernel
theorem dX8_mean_47 : decode cX8_mean 47 = .ok (.getfield 10, 3) := by decide +kernel
theorem dX8_mean_50 : decode cX8_mean 50 = .ok (.getfield 120, 3) := by decide +kernel
theorem dX8_mean_53 : decode cX8_mean 53 = .ok (.getfield 114, 3) := by decide +kernel
theorem dX8_mean_56 : decode cX8_mean 56 = .ok (.if_icmp .ge 40, 3) := by decide +kernel
theorem dX8_mean_59 : decode cX8_mean 59 = .ok (.lload_n 3, 1) := by decide +kernel
theorem dX8_mean_60 : decode cX8_mean 60 = .ok (.aload_n 0, 1) := by decide +kernel
theorem dX8_mean_61 : decode cX8_mean 61 = .ok (.getfield 10, 3) := by decide +kernel
theorem dX8_mean_64 : decode cX8_mean 64 = .ok (.iload 5, 2) := by decide +kernel
theorem dX8_mean_66 : decode cX8_mean 66 = .ok (.invokevirtual 264, 3) := by decide +kernel
theorem dX8_mean_69 : decode cX8_mean 69 = .ok (.i2l, 1) := by decide +kernel
theorem dX8_mean_70 : decode cX8_mean 70 = .ok (.iload_n 1, 1) := by decide +kernel
theorem dX8_mean_71 : decode cX8_mean 71 = .ok (.aload_n 0, 1) := by decide +kernel
theorem dX8_mean_72 : decode cX8_mean 72 = .ok (.getfield 54, 3) := by decide +kernel
theorem dX8_mean_75 : decode cX8_mean 75 = .ok (.aload_n 0, 1) := by decide +kernel
theorem dX8_mean_76 : decode cX8_mean 76 = .ok (.getfield 10, 3) := by decide +kernel
theorem dX8_mean_79 : decode cX8_mean 79 = .ok (.iload 5, 2) := by decide +kernel
theorem dX8_mean_81 : decode cX8_mean 81 = .ok (.invokevirtual 250, 3) := by decide +kernel
theorem dX8_mean_84 : decode cX8_mean 84 = .ok (.invokestatic 254, 3) := by decide +kernel
theorem dX8_mean_87 : decode cX8_mean 87 = .ok (.lmul, 1) := by decide +kernel
theorem dX8_mean_88 : decode cX8_mean 88 = .ok (.ladd, 1) := by decide +kernel
theorem dX8_mean_89 : decode cX8_mean 89 = .ok (.lstore_n 3, 1) := by decide +kernel
theorem dX8_mean_90 : decode cX8_mean 90 = .ok (.iinc 5 1, 3) := by decide +kernel
theorem dX8_mean_93 : decode cX8_mean 93 = .ok (.goto (-49), 3) := by decide +kernel
theorem dX8_mean_96 : decode cX8_mean 96 = .ok (.lload_n 3, 1) := by decide +kernel
theorem dX8_mean_97 : decode cX8_mean 97 = .ok (.iload_n 2, 1) := by decide +kernel
theorem dX8_mean_98 : decode cX8_mean 98 = .ok (.invokestatic 260, 3) := by decide +kernel
theorem dX8_mean_101 : decode cX8_mean 101 = .ok (.lreturn, 1) := by decide +kernel
theorem dX8_see_0 : decode cX8_see 0 = .ok (.aload_n 0, 1) := by decide +kernel
theorem dX8_see_1 : decode cX8_see 1 = .ok (.getfield 10, 3) := by decide +kernel
theorem dX8_see_4 : decode cX8_see 4 = .ok (.iload_n 1, 1) := by decide +kernel
theorem dX8_see_5 : decode cX8_see 5 = .ok (.invokevirtual 140, 3) := by decide +kernel
theorem dX8_see_8 : decode cX8_see 8 = .ok (.ifCond .eq 32, 3) := by decide +kernel
theorem dX8_see_11 : decode cX8_see 11 = .ok (.iload_n 2, 1) := by decide +kernel
theorem dX8_see_12 : decode cX8_see 12 = .ok (.invokestatic 159, 3) := by decide +kernel
theorem dX8_see_15 : decode cX8_see 15 = .ok (.ifCond .eq 25, 3) := by decide +kernel
theorem dX8_see_18 : decode cX8_see 18 = .ok (.iload_n 3, 1) := by decide +kernel
theorem dX8_see_19 : decode cX8_see 19 = .ok (.invokestatic 162, 3) := by decide +kernel
theorem dX8_see_22 : decode cX8_see 22 = .ok (.ifCond .eq 18, 3) := by decide +kernel
theorem dX8_see_25 : decode cX8_see 25 = .ok (.iload 4, 2) := by decide +kernel
theorem dX8_see_27 : decode cX8_see 27 = .ok (.bipush (-4), 2) := by decide +kernel
theorem dX8_see_29 : decode cX8_see 29 = .ok (.if_icmp .eq 13, 3) := by decide +kernel
theorem dX8_see_32 : decode cX8_see 32 = .ok (.iload 4, 2) := by decide +kernel
theorem dX8_see_34 : decode cX8_see 34 = .ok (.invokestatic 186, 3) := by decide +kernel
theorem dX8_see_37 : decode cX8_see 37 = .ok (.ifCond .ne 5, 3) := by decide +kernel
theorem dX8_see_40 : decode cX8_see 40 = .ok (.iconst (-1), 1) := by decide +kernel
theorem dX8_see_41 : decode cX8_see 41 = .ok (.ireturn, 1) := by decide +kernel
theorem dX8_see_42 : decode cX8_see 42 = .ok (.aload_n 0, 1) := by decide +kernel
theorem dX8_see_43 : decode cX8_see 43 = .ok (.getfield 29, 3) := by decide +kernel
theorem dX8_see_46 : decode cX8_see 46 = .ok (.iload_n 1, 1) := by decide +kernel
theorem dX8_see_47 : decode cX8_see 47 = .ok (.iload_n 2, 1) := by decide +kernel
theorem dX8_see_48 : decode cX8_see 48 = .ok (.iload_n 3, 1) := by decide +kernel
theorem dX8_see_49 : decode cX8_see 49 = .ok (.iload 4, 2) := by decide +kernel
theorem dX8_see_51 : decode cX8_see 51 = .ok (.invokevirtual 80, 3) := by decide +kernel
theorem dX8_see_54 : decode cX8_see 54 = .ok (.ireturn, 1) := by decide +kernel
theorem dX8_forget_0 : decode cX8_forget 0 = .ok (.aload_n 0, 1) := by decide +kernel
theorem dX8_forget_1 : decode cX8_forget 1 = .ok (.getfield 29, 3) := by decide +kernel
theorem dX8_forget_4 : decode cX8_forget 4 = .ok (.iload_n 1, 1) := by decide +kernel
theorem dX8_forget_5 : decode cX8_forget 5 = .ok (.invokevirtual 84, 3) := by decide +kernel
theorem dX8_forget_8 : decode cX8_forget 8 = .ok (.ireturn, 1) := by decide +kernel
theorem dX8_may_0 : decode cX8_may 0 = .ok (.iload_n 1, 1) := by decide +kernel
theorem dX8_may_1 : decode cX8_may 1 = .ok (.invokestatic 162, 3) := by decide +kernel
theorem dX8_may_4 : decode cX8_may 4 = .ok (.ifCond .eq 11, 3) := by decide +kernel
theorem dX8_may_7 : decode cX8_may 7 = .ok (.aload_n 0, 1) := by decide +kernel
theorem dX8_may_8 : decode cX8_may 8 = .ok (.iload_n 1, 1) := by decide +kernel
theorem dX8_may_9 : decode cX8_may 9 = .ok (.invokevirtual 267, 3) := by decide +kernel
theorem dX8_may_12 : decode cX8_may 12 = .ok (.goto 4, 3) := by decide +kernel
theorem dX8_may_15 : decode cX8_may 15 = .ok (.iconst (-1), 1) := by decide +kernel
theorem dX8_may_16 : decode cX8_may 16 = .ok (.ireturn, 1) := by decide +kernel
theorem dX8_ask_0 : decode cX8_ask 0 = .ok (.iload_n 1, 1) := by decide +kernel
theorem dX8_ask_1 : decode cX8_ask 1 = .ok (.invokestatic 162, 3) := by decide +kernel
theorem dX8_ask_4 : decode cX8_ask 4 = .ok (.ifCond .eq 10, 3) := by decide +kernel
theorem dX8_ask_7 : decode cX8_ask 7 = .ok (.iload_n 2, 1) := by decide +kernel
theorem dX8_ask_8 : decode cX8_ask 8 = .ok (.invokestatic 179, 3) := by decide +kernel
theorem dX8_ask_11 : decode cX8_ask 11 = .ok (.ifCond .ne 5, 3) := by decide +kernel
theorem dX8_ask_14 : decode cX8_ask 14 = .ok (.iconst (-1), 1) := by decide +kernel
theorem dX8_ask_15 : decode cX8_ask 15 = .ok (.ireturn, 1) := by decide +kernel
theorem dX8_ask_16 : decode cX8_ask 16 = .ok (.aload_n 0, 1) := by decide +kernel
theorem dX8_ask_17 : decode cX8_ask 17 = .ok (.iload_n 1, 1) := by decide +kernel
theorem dX8_ask_18 : decode cX8_ask 18 = .ok (.invokevirtual 267, 3) := by decide +kernel
theorem dX8_ask_21 : decode cX8_ask 21 = .ok (.istore_n 3, 1) := by decide +kernel
theorem dX8_ask_22 : decode cX8_ask 22 = .ok (.iload_n 3, 1) := by decide +kernel
theorem dX8_ask_23 : decode cX8_ask 23 = .ok (.invokestatic 243, 3) := by decide +kernel
theorem dX8_ask_26 : decode cX8_ask 26 = .ok (.istore 4, 2) := by decide +kernel
theorem dX8_ask_28 : decode cX8_ask 28 = .ok (.bipush (-4), 2) := by decide +kernel
theorem dX8_ask_30 : decode cX8_ask 30 = .ok (.istore 5, 2) := by decide +kernel
theorem dX8_ask_32 : decode cX8_ask 32 = .ok (.iconst 0, 1) := by decide +kernel
theorem dX8_ask_33 : decode cX8_ask 33 = .ok (.istore 6, 2) := by decide +kernel
theorem dX8_ask_35 : decode cX8_ask 35 = .ok (.iload 6, 2) := by decide +kernel
theorem dX8_ask_37 : decode cX8_ask 37 = .ok (.aload_n 0, 1) := by decide +kernel
theorem dX8_ask_38 : decode cX8_ask 38 = .ok (.getfield 10, 3) := by decide +kernel
theorem dX8_ask_41 : decode cX8_ask 41 = .ok (.getfield 111, 3) := by decide +kernel
theorem dX8_ask_44 : decode cX8_ask 44 = .ok (.getfield 114, 3) := by decide +kernel
theorem dX8_ask_47 : decode cX8_ask 47 = .ok (.if_icmp .ge 56, 3) := by decide +kernel
theorem dX8_ask_50 : decode cX8_ask 50 = .ok (.iconst 0, 1) := by decide +kernel
theorem dX8_ask_51 : decode cX8_ask 51 = .ok (.istore 7, 2) := by decide +kernel
theorem dX8_ask_53 : decode cX8_ask 53 = .ok (.iload 7, 2) := by decide +kernel
theorem dX8_ask_55 : decode cX8_ask 55 = .ok (.iconst 3, 1) := by decide +kernel
theorem dX8_ask_56 : decode cX8_ask 56 = .ok (.if_icmp .ge 41, 3) := by decide +kernel
theorem dX8_ask_59 : decode cX8_ask 59 = .ok (.aload_n 0, 1) := by decide +kernel
theorem dX8_ask_60 : decode cX8_ask 60 = .ok (.iload_n 3, 1) := by decide +kernel
theorem dX8_ask_61 : decode cX8_ask 61 = .ok (.iload 6, 2) := by decide +kernel
theorem dX8_ask_63 : decode cX8_ask 63 = .ok (.iload 7, 2) := by decide +kernel
theorem dX8_ask_65 : decode cX8_ask 65 = .ok (.invokevirtual 270, 3) := by decide +kernel
theorem dX8_ask_68 : decode cX8_ask 68 = .ok (.istore 8, 2) := by decide +kernel
theorem dX8_ask_70 : decode cX8_ask 70 = .ok (.iload 8, 2) := by decide +kernel
theorem dX8_ask_72 : decode cX8_ask 72 = .ok (.iload 4, 2) := by decide +kernel
theorem dX8_ask_74 : decode cX8_ask 74 = .ok (.if_icmp .ge 17, 3) := by decide +kernel
theorem dX8_ask_77 : decode cX8_ask 77 = .ok (.iload 8, 2) := by decide +kernel
theorem dX8_ask_79 : decode cX8_ask 79 = .ok (.istore 4, 2) := by decide +kernel
theorem dX8_ask_81 : decode cX8_ask 81 = .ok (.bipush 10, 2) := by decide +kernel
theorem dX8_ask_83 : decode cX8_ask 83 = .ok (.iload 6, 2) := by decide +kernel
theorem dX8_ask_85 : decode cX8_ask 85 = .ok (.imul, 1) := by decide +kernel
theorem dX8_ask_86 : decode cX8_ask 86 = .ok (.iload 7, 2) := by decide +kernel
theorem dX8_ask_88 : decode cX8_ask 88 = .ok (.iadd, 1) := by decide +kernel
theorem dX8_ask_89 : decode cX8_ask 89 = .ok (.istore 5, 2) := by decide +kernel
theorem dX8_ask_91 : decode cX8_ask 91 = .ok (.iinc 7 1, 3) := by decide +kernel
theorem dX8_ask_94 : decode cX8_ask 94 = .ok (.goto (-41), 3) := by decide +kernel
theorem dX8_ask_97 : decode cX8_ask 97 = .ok (.iinc 6 1, 3) := by decide +kernel
theorem dX8_ask_100 : decode cX8_ask 100 = .ok (.goto (-65), 3) := by decide +kernel
theorem dX8_ask_103 : decode cX8_ask 103 = .ok (.iload 5, 2) := by decide +kernel
theorem dX8_ask_105 : decode cX8_ask 105 = .ok (.bipush (-4), 2) := by decide +kernel
theorem dX8_ask_107 : decode cX8_ask 107 = .ok (.if_icmp .eq 7, 3) := by decide +kernel
theorem dX8_ask_110 : decode cX8_ask 110 = .ok (.iload_n 2, 1) := by decide +kernel
theorem dX8_ask_111 : decode cX8_ask 111 = .ok (.ifCond .ne 8, 3) := by decide +kernel
theorem dX8_ask_114 : decode cX8_ask 114 = .ok (.iload 5, 2) := by decide +kernel
theorem dX8_ask_116 : decode cX8_ask 116 = .ok (.goto 5, 3) := by decide +kernel
theorem dX8_ask_119 : decode cX8_ask 119 = .ok (.iload 4, 2) := by decide +kernel
theorem dX8_ask_121 : decode cX8_ask 121 = .ok (.ireturn, 1) := by decide +kernel
theorem dX8_drift_0 : decode cX8_drift 0 = .ok (.iload_n 2, 1) := by decide +kernel
theorem dX8_drift_1 : decode cX8_drift 1 = .ok (.iconst 1, 1) := by decide +kernel
theorem dX8_drift_2 : decode cX8_drift 2 = .ok (.if_icmp .lt 16, 3) := by decide +kernel
theorem dX8_drift_5 : decode cX8_drift 5 = .ok (.iload_n 2, 1) := by decide +kernel
theorem dX8_drift_6 : decode cX8_drift 6 = .ok (.bipush 60, 2) := by decide +kernel
theorem dX8_drift_8 : decode cX8_drift 8 = .ok (.if_icmp .gt 10, 3) := by decide +kernel
theorem dX8_drift_11 : decode cX8_drift 11 = .ok (.iload_n 3, 1) := by decide +kernel
theorem dX8_drift_12 : decode cX8_drift 12 = .ok (.invokestatic 179, 3) := by decide +kernel
theorem dX8_drift_15 : decode cX8_drift 15 = .ok (.ifCond .ne 5, 3) := by decide +kernel
theorem dX8_drift_18 : decode cX8_drift 18 = .ok (.iconst (-1), 1) := by decide +kernel
theorem dX8_drift_19 : decode cX8_drift 19 = .ok (.ireturn, 1) := by decide +kernel
theorem dX8_drift_20 : decode cX8_drift 20 = .ok (.aload_n 0, 1) := by decide +kernel
theorem dX8_drift_21 : decode cX8_drift 21 = .ok (.getfield 10, 3) := by decide +kernel
theorem dX8_drift_24 : decode cX8_drift 24 = .ok (.getfield 111, 3) := by decide +kernel
theorem dX8_drift_27 : decode cX8_drift 27 = .ok (.getfield 114, 3) := by decide +kernel
theorem dX8_drift_30 : decode cX8_drift 30 = .ok (.istore 4, 2) := by decide +kernel
theorem dX8_drift_32 : decode cX8_drift 32 = .ok (.iload 4, 2) := by decide +kernel
theorem dX8_drift_34 : decode cX8_drift 34 = .ok (.iconst 1, 1) := by decide +kernel
theorem dX8_drift_35 : decode cX8_drift 35 = .ok (.if_icmp .ge 6, 3) := by decide +kernel
theorem dX8_drift_38 : decode cX8_drift 38 = .ok (.bipush (-2), 2) := by decide +kernel
theorem dX8_drift_40 : decode cX8_drift 40 = .ok (.ireturn, 1) := by decide +kernel
theorem dX8_drift_41 : decode cX8_drift 41 = .ok (.aload_n 0, 1) := by decide +kernel
theorem dX8_drift_42 : decode cX8_drift 42 = .ok (.invokevirtual 273, 3) := by decide +kernel
theorem dX8_drift_45 : decode cX8_drift 45 = .ok (.iconst 0, 1) := by decide +kernel
theorem dX8_drift_46 : decode cX8_drift 46 = .ok (.istore 5, 2) := by decide +kernel
theorem dX8_drift_48 : decode cX8_drift 48 = .ok (.iload_n 1, 1) := by decide +kernel
theorem dX8_drift_49 : decode cX8_drift 49 = .ok (.istore 6, 2) := by decide +kernel
theorem dX8_drift_51 : decode cX8_drift 51 = .ok (.iconst 0, 1) := by decide +kernel
theorem dX8_drift_52 : decode cX8_drift 52 = .ok (.istore 7, 2) := by decide +kernel
theorem dX8_drift_54 : decode cX8_drift 54 = .ok (.iload 7, 2) := by decide +kernel
theorem dX8_drift_56 : decode cX8_drift 56 = .ok (.iload_n 2, 1) := by decide +kernel
theorem dX8_drift_57 : decode cX8_drift 57 = .ok (.if_icmp .ge 79, 3) := by decide +kernel
theorem dX8_drift_60 : decode cX8_drift 60 = .ok (.iload 6, 2) := by decide +kernel
theorem dX8_drift_62 : decode cX8_drift 62 = .ok (.invokestatic 276, 3) := by decide +kernel
theorem dX8_drift_65 : decode cX8_drift 65 = .ok (.istore 6, 2) := by decide +kernel
theorem dX8_drift_67 : decode cX8_drift 67 = .ok (.iload 6, 2) := by decide +kernel
theorem dX8_drift_69 : decode cX8_drift 69 = .ok (.invokestatic 279, 3) := by decide +kernel
theorem dX8_drift_72 : decode cX8_drift 72 = .ok (.bipush 10, 2) := by decide +kernel
theorem dX8_drift_74 : decode cX8_drift 74 = .ok (.irem, 1) := by decide +kernel
theorem dX8_drift_75 : decode cX8_drift 75 = .ok (.istore 8, 2) := by decide +kernel
theorem dX8_drift_77 : decode cX8_drift 77 = .ok (.iload 6, 2) := by decide +kernel
theorem dX8_drift_79 : decode cX8_drift 79 = .ok (.invokestatic 276, 3) := by decide +kernel
theorem dX8_drift_82 : decode cX8_drift 82 = .ok (.istore 6, 2) := by decide +kernel
theorem dX8_drift_84 : decode cX8_drift 84 = .ok (.iload 6, 2) := by decide +kernel
theorem dX8_drift_86 : decode cX8_drift 86 = .ok (.invokestatic 279, 3) := by decide +kernel
theorem dX8_drift_89 : decode cX8_drift 89 = .ok (.iload 4, 2) := by decide +kernel
theorem dX8_drift_91 : decode cX8_drift 91 = .ok (.iconst 1, 1) := by decide +kernel
theorem dX8_drift_92 : decode cX8_drift 92 = .ok (.iadd, 1) := by decide +kernel
theorem dX8_drift_93 : decode cX8_drift 93 = .ok (.irem, 1) := by decide +kernel
theorem dX8_drift_94 : decode cX8_drift 94 = .ok (.istore 9, 2) := by decide +kernel
theorem dX8_drift_96 : decode cX8_drift 96 = .ok (.aload_n 0, 1) := by decide +kernel
theorem dX8_drift_97 : decode cX8_drift 97 = .ok (.getfield 72, 3) := by decide +kernel
theorem dX8_drift_100 : decode cX8_drift 100 = .ok (.iload 8, 2) := by decide +kernel
theorem dX8_drift_102 : decode cX8_drift 102 = .ok (.iload 9, 2) := by decide +kernel
theorem dX8_drift_104 : decode cX8_drift 104 = .ok (.iload 4, 2) := by decide +kernel
theorem dX8_drift_106 : decode cX8_drift 106 = .ok (.if_icmp .ne 8, 3) := by decide +kernel
theorem dX8_drift_109 : decode cX8_drift 109 = .ok (.bipush (-4), 2) := by decide +kernel
theorem dX8_drift_111 : decode cX8_drift 111 = .ok (.goto 5, 3) := by decide +kernel
theorem dX8_drift_114 : decode cX8_drift 114 = .ok (.iload 9, 2) := by decide +kernel
theorem dX8_drift_116 : decode cX8_drift 116 = .ok (.iastore, 1) := by decide +kernel
theorem dX8_drift_117 : decode cX8_drift 117 = .ok (.iload 5, 2) := by decide +kernel
theorem dX8_drift_119 : decode cX8_drift 119 = .ok (.aload_n 0, 1) := by decide +kernel
theorem dX8_drift_120 : decode cX8_drift 120 = .ok (.aload_n 0, 1) := by decide +kernel
theorem dX8_drift_121 : decode cX8_drift 121 = .ok (.getfield 72, 3) := by decide +kernel
theorem dX8_drift_124 : decode cX8_drift 124 = .ok (.invokevirtual 233, 3) := by decide +kernel
theorem dX8_drift_127 : decode cX8_drift 127 = .ok (.iadd, 1) := by decide +kernel
theorem dX8_drift_128 : decode cX8_drift 128 = .ok (.istore 5, 2) := by decide +kernel
theorem dX8_drift_130 : decode cX8_drift 130 = .ok (.iinc 7 1, 3) := by decide +kernel
theorem dX8_drift_133 : decode cX8_drift 133 = .ok (.goto (-79), 3) := by decide +kernel
theorem dX8_drift_136 : decode cX8_drift 136 = .ok (.iload_n 3, 1) := by decide +kernel
theorem dX8_drift_137 : decode cX8_drift 137 = .ok (.ifCond .ne 8, 3) := by decide +kernel
theorem dX8_drift_140 : decode cX8_drift 140 = .ok (.iload 5, 2) := by decide +kernel
theorem dX8_drift_142 : decode cX8_drift 142 = .ok (.goto 10, 3) := by decide +kernel
theorem dX8_drift_145 : decode cX8_drift 145 = .ok (.aload_n 0, 1) := by decide +kernel
theorem dX8_drift_146 : decode cX8_drift 146 = .ok (.getfield 54, 3) := by decide +kernel
theorem dX8_drift_149 : decode cX8_drift 149 = .ok (.invokevirtual 137, 3) := by decide +kernel
theorem dX8_drift_152 : decode cX8_drift 152 = .ok (.ireturn, 1) := by decide +kernel
theorem dX8_keep_0 : decode cX8_keep 0 = .ok (.iload_n 1, 1) := by decide +kernel
theorem dX8_keep_1 : decode cX8_keep 1 = .ok (.ifCond .lt 8, 3) := by decide +kernel
theorem dX8_keep_4 : decode cX8_keep 4 = .ok (.iload_n 1, 1) := by decide +kernel
theorem dX8_keep_5 : decode cX8_keep 5 = .ok (.iconst 2, 1) := by decide +kernel
theorem dX8_keep_6 : decode cX8_keep 6 = .ok (.if_icmp .lt 5, 3) := by decide +kernel
theorem dX8_keep_9 : decode cX8_keep 9 = .ok (.iconst (-1), 1) := by decide +kernel
theorem dX8_keep_10 : decode cX8_keep 10 = .ok (.ireturn, 1) := by decide +kernel
theorem dX8_keep_11 : decode cX8_keep 11 = .ok (.aload_n 0, 1) := by decide +kernel
theorem dX8_keep_12 : decode cX8_keep 12 = .ok (.getfield 20, 3) := by decide +kernel
theorem dX8_keep_15 : decode cX8_keep 15 = .ok (.iload_n 1, 1) := by decide +kernel
theorem dX8_keep_16 : decode cX8_keep 16 = .ok (.baload, 1) := by decide +kernel
theorem dX8_keep_17 : decode cX8_keep 17 = .ok (.ifCond .eq 7, 3) := by decide +kernel
theorem dX8_keep_20 : decode cX8_keep 20 = .ok (.iconst 1, 1) := by decide +kernel
theorem dX8_keep_21 : decode cX8_keep 21 = .ok (.goto 4, 3) := by decide +kernel
theorem dX8_keep_24 : decode cX8_keep 24 = .ok (.iconst 0, 1) := by decide +kernel
theorem dX8_keep_25 : decode cX8_keep 25 = .ok (.istore_n 2, 1) := by decide +kernel
theorem dX8_keep_26 : decode cX8_keep 26 = .ok (.aload_n 0, 1) := by decide +kernel
theorem dX8_keep_27 : decode cX8_keep 27 = .ok (.getfield 16, 3) := by decide +kernel
theorem dX8_keep_30 : decode cX8_keep 30 = .ok (.iload_n 1, 1) := by decide +kernel
theorem dX8_keep_31 : decode cX8_keep 31 = .ok (.aaload, 1) := by decide +kernel
theorem dX8_keep_32 : decode cX8_keep 32 = .ok (.aload_n 0, 1) := by decide +kernel
theorem dX8_keep_33 : decode cX8_keep 33 = .ok (.getfield 10, 3) := by decide +kernel
theorem dX8_keep_36 : decode cX8_keep 36 = .ok (.invokevirtual 104, 3) := by decide +kernel
theorem dX8_keep_39 : decode cX8_keep 39 = .ok (.aload_n 0, 1) := by decide +kernel
theorem dX8_keep_40 : decode cX8_keep 40 = .ok (.getfield 20, 3) := by decide +kernel
theorem dX8_keep_43 : decode cX8_keep 43 = .ok (.iload_n 1, 1) := by decide +kernel
theorem dX8_keep_44 : decode cX8_keep 44 = .ok (.iconst 1, 1) := by decide +kernel
theorem dX8_keep_45 : decode cX8_keep 45 = .ok (.bastore, 1) := by decide +kernel
theorem dX8_keep_46 : decode cX8_keep 46 = .ok (.iload_n 2, 1) := by decide +kernel
theorem dX8_keep_47 : decode cX8_keep 47 = .ok (.ireturn, 1) := by decide +kernel
theorem dX8_back_0 : decode cX8_back 0 = .ok (.iload_n 1, 1) := by decide +kernel
theorem dX8_back_1 : decode cX8_back 1 = .ok (.ifCond .lt 8, 3) := by decide +kernel
theorem dX8_back_4 : decode cX8_back 4 = .ok (.iload_n 1, 1) := by decide +kernel
theorem dX8_back_5 : decode cX8_back 5 = .ok (.iconst 2, 1) := by decide +kernel
theorem dX8_back_6 : decode cX8_back 6 = .ok (.if_icmp .lt 5, 3) := by decide +kernel
theorem dX8_back_9 : decode cX8_back 9 = .ok (.iconst (-1), 1) := by decide +kernel
theorem dX8_back_10 : decode cX8_back 10 = .ok (.ireturn, 1) := by decide +kernel
theorem dX8_back_11 : decode cX8_back 11 = .ok (.aload_n 0, 1) := by decide +kernel
theorem dX8_back_12 : decode cX8_back 12 = .ok (.getfield 20, 3) := by decide +kernel
theorem dX8_back_15 : decode cX8_back 15 = .ok (.iload_n 1, 1) := by decide +kernel
theorem dX8_back_16 : decode cX8_back 16 = .ok (.baload, 1) := by decide +kernel
theorem dX8_back_17 : decode cX8_back 17 = .ok (.ifCond .ne 6, 3) := by decide +kernel
theorem dX8_back_20 : decode cX8_back 20 = .ok (.bipush (-2), 2) := by decide +kernel
theorem dX8_back_22 : decode cX8_back 22 = .ok (.ireturn, 1) := by decide +kernel
theorem dX8_back_23 : decode cX8_back 23 = .ok (.aload_n 0, 1) := by decide +kernel
theorem dX8_back_24 : decode cX8_back 24 = .ok (.getfield 10, 3) := by decide +kernel
theorem dX8_back_27 : decode cX8_back 27 = .ok (.aload_n 0, 1) := by decide +kernel
theorem dX8_back_28 : decode cX8_back 28 = .ok (.getfield 16, 3) := by decide +kernel
theorem dX8_back_31 : decode cX8_back 31 = .ok (.iload_n 1, 1) := by decide +kernel
theorem dX8_back_32 : decode cX8_back 32 = .ok (.aaload, 1) := by decide +kernel
theorem dX8_back_33 : decode cX8_back 33 = .ok (.invokevirtual 104, 3) := by decide +kernel
theorem dX8_back_36 : decode cX8_back 36 = .ok (.aload_n 0, 1) := by decide +kernel
theorem dX8_back_37 : decode cX8_back 37 = .ok (.getfield 10, 3) := by decide +kernel
theorem dX8_back_40 : decode cX8_back 40 = .ok (.getfield 111, 3) := by decide +kernel
theorem dX8_back_43 : decode cX8_back 43 = .ok (.getfield 114, 3) := by decide +kernel
theorem dX8_back_46 : decode cX8_back 46 = .ok (.ireturn, 1) := by decide +kernel
theorem dX8_sheet_0 : decode cX8_sheet 0 = .ok (.iload_n 1, 1) := by decide +kernel
theorem dX8_sheet_1 : decode cX8_sheet 1 = .ok (.invokestatic 282, 3) := by decide +kernel
theorem dX8_sheet_4 : decode cX8_sheet 4 = .ok (.ifCond .eq 16, 3) := by decide +kernel
theorem dX8_sheet_7 : decode cX8_sheet 7 = .ok (.iload_n 2, 1) := by decide +kernel
theorem dX8_sheet_8 : decode cX8_sheet 8 = .ok (.invokestatic 285, 3) := by decide +kernel
theorem dX8_sheet_11 : decode cX8_sheet 11 = .ok (.ifCond .eq 9, 3) := by decide +kernel
theorem dX8_sheet_14 : decode cX8_sheet 14 = .ok (.iload_n 3, 1) := by decide +kernel
theorem dX8_sheet_15 : decode cX8_sheet 15 = .ok (.bipush 40, 2) := by decide +kernel
theorem dX8_sheet_17 : decode cX8_sheet 17 = .ok (.if_icmp .le 5, 3) := by decide +kernel
theorem dX8_sheet_20 : decode cX8_sheet 20 = .ok (.iconst (-1), 1) := by decide +kernel
theorem dX8_sheet_21 : decode cX8_sheet 21 = .ok (.ireturn, 1) := by decide +kernel
theorem dX8_sheet_22 : decode cX8_sheet 22 = .ok (.iload_n 3, 1) := by decide +kernel
theorem dX8_sheet_23 : decode cX8_sheet 23 = .ok (.ifCond .ge 6, 3) := by decide +kernel
theorem dX8_sheet_26 : decode cX8_sheet 26 = .ok (.bipush (-14), 2) := by decide +kernel
theorem dX8_sheet_28 : decode cX8_sheet 28 = .ok (.ireturn, 1) := by decide +kernel
theorem dX8_sheet_29 : decode cX8_sheet 29 = .ok (.aload_n 0, 1) := by decide +kernel
theorem dX8_sheet_30 : decode cX8_sheet 30 = .ok (.getfield 47, 3) := by decide +kernel
theorem dX8_sheet_33 : decode cX8_sheet 33 = .ok (.iload_n 1, 1) := by decide +kernel
theorem dX8_sheet_34 : decode cX8_sheet 34 = .ok (.aaload, 1) := by decide +kernel
theorem dX8_sheet_35 : decode cX8_sheet 35 = .ok (.iload_n 2, 1) := by decide +kernel
theorem dX8_sheet_36 : decode cX8_sheet 36 = .ok (.iload_n 3, 1) := by decide +kernel
theorem dX8_sheet_37 : decode cX8_sheet 37 = .ok (.invokevirtual 288, 3) := by decide +kernel
theorem dX8_sheet_40 : decode cX8_sheet 40 = .ok (.iconst 1, 1) := by decide +kernel
theorem dX8_sheet_41 : decode cX8_sheet 41 = .ok (.ireturn, 1) := by decide +kernel
theorem dX8_lay_0 : decode cX8_lay 0 = .ok (.iload_n 1, 1) := by decide +kernel
theorem dX8_lay_1 : decode cX8_lay 1 = .ok (.invokestatic 282, 3) := by decide +kernel
theorem dX8_lay_4 : decode cX8_lay 4 = .ok (.ifCond .ne 5, 3) := by decide +kernel
theorem dX8_lay_7 : decode cX8_lay 7 = .ok (.iconst (-1), 1) := by decide +kernel
theorem dX8_lay_8 : decode cX8_lay 8 = .ok (.ireturn, 1) := by decide +kernel
theorem dX8_lay_9 : decode cX8_lay 9 = .ok (.aload_n 0, 1) := by decide +kernel
theorem dX8_lay_10 : decode cX8_lay 10 = .ok (.getfield 47, 3) := by decide +kernel
theorem dX8_lay_13 : decode cX8_lay 13 = .ok (.iload_n 1, 1) := by decide +kernel
theorem dX8_lay_14 : decode cX8_lay 14 = .ok (.aaload, 1) := by decide +kernel
theorem dX8_lay_15 : decode cX8_lay 15 = .ok (.astore 4, 2) := by decide +kernel
theorem dX8_lay_17 : decode cX8_lay 17 = .ok (.aload 4, 2) := by decide +kernel
theorem dX8_lay_19 : decode cX8_lay 19 = .ok (.iload_n 2, 1) := by decide +kernel
theorem dX8_lay_20 : decode cX8_lay 20 = .ok (.invokevirtual 291, 3) := by decide +kernel
theorem dX8_lay_23 : decode cX8_lay 23 = .ok (.istore 5, 2) := by decide +kernel
theorem dX8_lay_25 : decode cX8_lay 25 = .ok (.iload 5, 2) := by decide +kernel
theorem dX8_lay_27 : decode cX8_lay 27 = .ok (.ifCond .eq 9, 3) := by decide +kernel
theorem dX8_lay_30 : decode cX8_lay 30 = .ok (.bipush (-10), 2) := by decide +kernel
theorem dX8_lay_32 : decode cX8_lay 32 = .ok (.iload 5, 2) := by decide +kernel
theorem dX8_lay_34 : decode cX8_lay 34 = .ok (.isub, 1) := by decide +kernel
theorem dX8_lay_35 : decode cX8_lay 35 = .ok (.ireturn, 1) := by decide +kernel
theorem dX8_lay_36 : decode cX8_lay 36 = .ok (.aload 4, 2) := by decide +kernel
theorem dX8_lay_38 : decode cX8_lay 38 = .ok (.iload_n 2, 1) := by decide +kernel
theorem dX8_lay_39 : decode cX8_lay 39 = .ok (.iload_n 3, 1) := by decide +kernel
theorem dX8_lay_40 : decode cX8_lay 40 = .ok (.invokevirtual 294, 3) := by decide +kernel
theorem dX8_lay_43 : decode cX8_lay 43 = .ok (.iconst 1, 1) := by decide +kernel
theorem dX8_lay_44 : decode cX8_lay 44 = .ok (.ireturn, 1) := by decide +kernel
theorem dX8_read_0 : decode cX8_read 0 = .ok (.iload_n 1, 1) := by decide +kernel
theorem dX8_read_1 : decode cX8_read 1 = .ok (.invokestatic 282, 3) := by decide +kernel
theorem dX8_read_4 : decode cX8_read 4 = .ok (.ifCond .eq 22, 3) := by decide +kernel
theorem dX8_read_7 : decode cX8_read 7 = .ok (.iload_n 2, 1) := by decide +kernel
theorem dX8_read_8 : decode cX8_read 8 = .ok (.invokestatic 285, 3) := by decide +kernel
theorem dX8_read_11 : decode cX8_read 11 = .ok (.ifCond .eq 15, 3) := by decide +kernel
theorem dX8_read_14 : decode cX8_read 14 = .ok (.iload 4, 2) := by decide +kernel
theorem dX8_read_16 : decode cX8_read 16 = .ok (.ifCond .lt 10, 3) := by decide +kernel
theorem dX8_read_19 : decode cX8_read 19 = .ok (.iload 4, 2) := by decide +kernel
theorem dX8_read_21 : decode cX8_read 21 = .ok (.bipush 20, 2) := by decide +kernel
theorem dX8_read_23 : decode cX8_read 23 = .ok (.if_icmp .le 5, 3) := by decide +kernel
theorem dX8_read_26 : decode cX8_read 26 = .ok (.iconst (-1), 1) := by decide +kernel
theorem dX8_read_27 : decode cX8_read 27 = .ok (.ireturn, 1) := by decide +kernel
theorem dX8_read_28 : decode cX8_read 28 = .ok (.aload_n 0, 1) := by decide +kernel
theorem dX8_read_29 : decode cX8_read 29 = .ok (.getfield 47, 3) := by decide +kernel
theorem dX8_read_32 : decode cX8_read 32 = .ok (.iload_n 1, 1) := by decide +kernel
theorem dX8_read_33 : decode cX8_read 33 = .ok (.aaload, 1) := by decide +kernel
theorem dX8_read_34 : decode cX8_read 34 = .ok (.astore 5, 2) := by decide +kernel
theorem dX8_read_36 : decode cX8_read 36 = .ok (.aload_n 0, 1) := by decide +kernel
theorem dX8_read_37 : decode cX8_read 37 = .ok (.invokevirtual 273, 3) := by decide +kernel
theorem dX8_read_40 : decode cX8_read 40 = .ok (.iconst 0, 1) := by decide +kernel
theorem dX8_read_41 : decode cX8_read 41 = .ok (.istore 6, 2) := by decide +kernel
theorem dX8_read_43 : decode cX8_read 43 = .ok (.iconst 0, 1) := by decide +kernel
theorem dX8_read_44 : decode cX8_read 44 = .ok (.istore 7, 2) := by decide +kernel
theorem dX8_read_46 : decode cX8_read 46 = .ok (.iload 6, 2) := by decide +kernel
theorem dX8_read_48 : decode cX8_read 48 = .ok (.iload 4, 2) := by decide +kernel
theorem dX8_read_50 : decode cX8_read 50 = .ok (.if_icmp .ge 83, 3) := by decide +kernel
theorem dX8_read_53 : decode cX8_read 53 = .ok (.iload 7, 2) := by decide +kernel
theorem dX8_read_55 : decode cX8_read 55 = .ok (.ifCond .ne 78, 3) := by decide +kernel
theorem dX8_read_58 : decode cX8_read 58 = .ok (.iload_n 3, 1) := by decide +kernel
theorem dX8_read_59 : decode cX8_read 59 = .ok (.iconst 2, 1) := by decide +kernel
theorem dX8_read_60 : decode cX8_read 60 = .ok (.iload 6, 2) := by decide +kernel
theorem dX8_read_62 : decode cX8_read 62 = .ok (.imul, 1) := by decide +kernel
theorem dX8_read_63 : decode cX8_read 63 = .ok (.iadd, 1) := by decide +kernel
theorem dX8_read_64 : decode cX8_read 64 = .ok (.istore 8, 2) := by decide +kernel
theorem dX8_read_66 : decode cX8_read 66 = .ok (.aload 5, 2) := by decide +kernel
theorem dX8_read_68 : decode cX8_read 68 = .ok (.iload_n 2, 1) := by decide +kernel
theorem dX8_read_69 : decode cX8_read 69 = .ok (.iload 8, 2) := by decide +kernel
theorem dX8_read_71 : decode cX8_read 71 = .ok (.invokevirtual 297, 3) := by decide +kernel
theorem dX8_read_74 : decode cX8_read 74 = .ok (.istore 7, 2) := by decide +kernel
theorem dX8_read_76 : decode cX8_read 76 = .ok (.iload 7, 2) := by decide +kernel
theorem dX8_read_78 : decode cX8_read 78 = .ok (.ifCond .ne 52, 3) := by decide +kernel
theorem dX8_read_81 : decode cX8_read 81 = .ok (.aload 5, 2) := by decide +kernel
theorem dX8_read_83 : decode cX8_read 83 = .ok (.iload 8, 2) := by decide +kernel
theorem dX8_read_85 : decode cX8_read 85 = .ok (.invokevirtual 300, 3) := by decide +kernel
theorem dX8_read_88 : decode cX8_read 88 = .ok (.istore 9, 2) := by decide +kernel
theorem dX8_read_90 : decode cX8_read 90 = .ok (.aload 5, 2) := by decide +kernel
theorem dX8_read_92 : decode cX8_read 92 = .ok (.iload 8, 2) := by decide +kernel
theorem dX8_read_94 : decode cX8_read 94 = .ok (.iconst 1, 1) := by decide +kernel
theorem dX8_read_95 : decode cX8_read 95 = .ok (.iadd, 1) := by decide +kernel
theorem dX8_read_96 : decode cX8_read 96 = .ok (.invokevirtual 300, 3) := by decide +kernel
theorem dX8_read_99 : decode cX8_read 99 = .ok (.istore 10, 2) := by decide +kernel
theorem dX8_read_101 : decode cX8_read 101 = .ok (.aload_n 0, 1) := by decide +kernel
theorem dX8_read_102 : decode cX8_read 102 = .ok (.iload 9, 2) := by decide +kernel
theorem dX8_read_104 : decode cX8_read 104 = .ok (.iload 10, 2) := by decide +kernel
theorem dX8_read_106 : decode cX8_read 106 = .ok (.invokevirtual 192, 3) := by decide +kernel
theorem dX8_read_109 : decode cX8_read 109 = .ok (.ifCond .ne 9, 3) := by decide +kernel
theorem dX8_read_112 : decode cX8_read 112 = .ok (.bipush (-20), 2) := by decide +kernel
theorem dX8_read_114 : decode cX8_read 114 = .ok (.iload 6, 2) := by decide +kernel
theorem dX8_read_116 : decode cX8_read 116 = .ok (.isub, 1) := by decide +kernel
theorem dX8_read_117 : decode cX8_read 117 = .ok (.ireturn, 1) := by decide +kernel
theorem dX8_read_118 : decode cX8_read 118 = .ok (.aload_n 0, 1) := by decide +kernel
theorem dX8_read_119 : decode cX8_read 119 = .ok (.getfield 72, 3) := by decide +kernel
theorem dX8_read_122 : decode cX8_read 122 = .ok (.iload 9, 2) := by decide +kernel
theorem dX8_read_124 : decode cX8_read 124 = .ok (.iload 10, 2) := by decide +kernel
theorem dX8_read_126 : decode cX8_read 126 = .ok (.iastore, 1) := by decide +kernel
theorem dX8_read_127 : decode cX8_read 127 = .ok (.iinc 6 1, 3) := by decide +kernel
theorem dX8_read_130 : decode cX8_read 130 = .ok (.goto (-84), 3) := by decide +kernel
theorem dX8_read_133 : decode cX8_read 133 = .ok (.aload_n 0, 1) := by decide +kernel
theorem dX8_read_134 : decode cX8_read 134 = .ok (.getfield 72, 3) := by decide +kernel
theorem dX8_read_137 : decode cX8_read 137 = .ok (.iconst 0, 1) := by decide +kernel
theorem dX8_read_138 : decode cX8_read 138 = .ok (.aload_n 0, 1) := by decide +kernel
theorem dX8_read_139 : decode cX8_read 139 = .ok (.getfield 10, 3) := by decide +kernel
theorem dX8_read_142 : decode cX8_read 142 = .ok (.getfield 130, 3) := by decide +kernel
theorem dX8_read_145 : decode cX8_read 145 = .ok (.iconst 0, 1) := by decide +kernel
theorem dX8_read_146 : decode cX8_read 146 = .ok (.bipush 10, 2) := by decide +kernel
theorem dX8_read_148 : decode cX8_read 148 = .ok (.invokestatic 303, 3) := by decide +kernel
theorem dX8_read_151 : decode cX8_read 151 = .ok (.aload_n 0, 1) := by decide +kernel
theorem dX8_read_152 : decode cX8_read 152 = .ok (.iload 7, 2) := by decide +kernel
theorem dX8_read_154 : decode cX8_read 154 = .ok (.putfield 309, 3) := by decide +kernel
theorem dX8_read_157 : decode cX8_read 157 = .ok (.iload 6, 2) := by decide +kernel
theorem dX8_read_159 : decode cX8_read 159 = .ok (.ireturn, 1) := by decide +kernel
theorem dX8_torn_0 : decode cX8_torn 0 = .ok (.aload_n 0, 1) := by decide +kernel
theorem dX8_torn_1 : decode cX8_torn 1 = .ok (.getfield 309, 3) := by decide +kernel
theorem dX8_torn_4 : decode cX8_torn 4 = .ok (.ireturn, 1) := by decide +kernel
theorem dX8_count_0 : decode cX8_count 0 = .ok (.iload_n 1, 1) := by decide +kernel
theorem dX8_count_1 : decode cX8_count 1 = .ok (.tableswitch 142 0 5 #[39, 47, 77, 85, 95, 103], 39) := by decide +kernel
theorem dX8_count_40 : decode cX8_count 40 = .ok (.aload_n 0, 1) := by decide +kernel
theorem dX8_count_41 : decode cX8_count 41 = .ok (.getfield 29, 3) := by decide +kernel
theorem dX8_count_44 : decode cX8_count 44 = .ok (.getfield 114, 3) := by decide +kernel
theorem dX8_count_47 : decode cX8_count 47 = .ok (.ireturn, 1) := by decide +kernel
theorem dX8_count_48 : decode cX8_count 48 = .ok (.aload_n 0, 1) := by decide +kernel
theorem dX8_count_49 : decode cX8_count 49 = .ok (.getfield 20, 3) := by decide +kernel
theorem dX8_count_52 : decode cX8_count 52 = .ok (.iconst 0, 1) := by decide +kernel
theorem dX8_count_53 : decode cX8_count 53 = .ok (.baload, 1) := by decide +kernel
theorem dX8_count_54 : decode cX8_count 54 = .ok (.ifCond .eq 7, 3) := by decide +kernel
theorem dX8_count_57 : decode cX8_count 57 = .ok (.iconst 1, 1) := by decide +kernel
theorem dX8_count_58 : decode cX8_count 58 = .ok (.goto 4, 3) := by decide +kernel
theorem dX8_count_61 : decode cX8_count 61 = .ok (.iconst 0, 1) := by decide +kernel
theorem dX8_count_62 : decode cX8_count 62 = .ok (.aload_n 0, 1) := by decide +kernel
theorem dX8_count_63 : decode cX8_count 63 = .ok (.getfield 20, 3) := by decide +kernel
theorem dX8_count_66 : decode cX8_count 66 = .ok (.iconst 1, 1) := by decide +kernel
theorem dX8_count_67 : decode cX8_count 67 = .ok (.baload, 1) := by decide +kernel
theorem dX8_count_68 : decode cX8_count 68 = .ok (.ifCond .eq 7, 3) := by decide +kernel
theorem dX8_count_71 : decode cX8_count 71 = .ok (.iconst 1, 1) := by decide +kernel
theorem dX8_count_72 : decode cX8_count 72 = .ok (.goto 4, 3) := by decide +kernel
theorem dX8_count_75 : decode cX8_count 75 = .ok (.iconst 0, 1) := by decide +kernel
theorem dX8_count_76 : decode cX8_count 76 = .ok (.iadd, 1) := by decide +kernel
theorem dX8_count_77 : decode cX8_count 77 = .ok (.ireturn, 1) := by decide +kernel
theorem dX8_count_78 : decode cX8_count 78 = .ok (.aload_n 0, 1) := by decide +kernel
theorem dX8_count_79 : decode cX8_count 79 = .ok (.getfield 33, 3) := by decide +kernel
theorem dX8_count_82 : decode cX8_count 82 = .ok (.getfield 114, 3) := by decide +kernel
theorem dX8_count_85 : decode cX8_count 85 = .ok (.ireturn, 1) := by decide +kernel
theorem dX8_count_86 : decode cX8_count 86 = .ok (.aload_n 0, 1) := by decide +kernel
theorem dX8_count_87 : decode cX8_count 87 = .ok (.getfield 47, 3) := by decide +kernel
theorem dX8_count_90 : decode cX8_count 90 = .ok (.iconst 0, 1) := by decide +kernel
theorem dX8_count_91 : decode cX8_count 91 = .ok (.aaload, 1) := by decide +kernel
theorem dX8_count_92 : decode cX8_count 92 = .ok (.getfield 312, 3) := by decide +kernel
theorem dX8_count_95 : decode cX8_count 95 = .ok (.ireturn, 1) := by decide +kernel
theorem dX8_count_96 : decode cX8_count 96 = .ok (.aload_n 0, 1) := by decide +kernel
theorem dX8_count_97 : decode cX8_count 97 = .ok (.getfield 10, 3) := by decide +kernel
theorem dX8_count_100 : decode cX8_count 100 = .ok (.invokevirtual 315, 3) := by decide +kernel
theorem dX8_count_103 : decode cX8_count 103 = .ok (.ireturn, 1) := by decide +kernel
theorem dX8_count_104 : decode cX8_count 104 = .ok (.aload_n 0, 1) := by decide +kernel
theorem dX8_count_105 : decode cX8_count 105 = .ok (.getfield 54, 3) := by decide +kernel
theorem dX8_count_108 : decode cX8_count 108 = .ok (.aload_n 0, 1) := by decide +kernel
theorem dX8_count_109 : decode cX8_count 109 = .ok (.getfield 10, 3) := by decide +kernel
theorem dX8_count_112 : decode cX8_count 112 = .ok (.aload_n 0, 1) := by decide +kernel
theorem dX8_count_113 : decode cX8_count 113 = .ok (.getfield 10, 3) := by decide +kernel
theorem dX8_count_116 : decode cX8_count 116 = .ok (.getfield 130, 3) := by decide +kernel
theorem dX8_count_119 : decode cX8_count 119 = .ok (.invokevirtual 133, 3) := by decide +kernel
theorem dX8_count_122 : decode cX8_count 122 = .ok (.aload_n 0, 1) := by decide +kernel
theorem dX8_count_123 : decode cX8_count 123 = .ok (.getfield 10, 3) := by decide +kernel
theorem dX8_count_126 : decode cX8_count 126 = .ok (.invokevirtual 126, 3) := by decide +kernel
theorem dX8_count_129 : decode cX8_count 129 = .ok (.aload_n 0, 1) := by decide +kernel
theorem dX8_count_130 : decode cX8_count 130 = .ok (.getfield 54, 3) := by decide +kernel
theorem dX8_count_133 : decode cX8_count 133 = .ok (.invokevirtual 137, 3) := by decide +kernel
theorem dX8_count_136 : decode cX8_count 136 = .ok (.iconst (-1), 1) := by decide +kernel
theorem dX8_count_137 : decode cX8_count 137 = .ok (.ixor, 1) := by decide +kernel
theorem dX8_count_138 : decode cX8_count 138 = .ok (.iand, 1) := by decide +kernel
theorem dX8_count_139 : decode cX8_count 139 = .ok (.invokestatic 243, 3) := by decide +kernel
theorem dX8_count_142 : decode cX8_count 142 = .ok (.ireturn, 1) := by decide +kernel
theorem dX8_count_143 : decode cX8_count 143 = .ok (.iconst (-1), 1) := by decide +kernel
theorem dX8_count_144 : decode cX8_count 144 = .ok (.ireturn, 1) := by decide +kernel
theorem dX8_isHour_0 : decode cX8_isHour 0 = .ok (.iload_n 0, 1) := by decide +kernel
theorem dX8_isHour_1 : decode cX8_isHour 1 = .ok (.ifCond .lt 13, 3) := by decide +kernel
theorem dX8_isHour_4 : decode cX8_isHour 4 = .ok (.iload_n 0, 1) := by decide +kernel
theorem dX8_isHour_5 : decode cX8_isHour 5 = .ok (.bipush 10, 2) := by decide +kernel
theorem dX8_isHour_7 : decode cX8_isHour 7 = .ok (.if_icmp .ge 7, 3) := by decide +kernel
theorem dX8_isHour_10 : decode cX8_isHour 10 = .ok (.iconst 1, 1) := by decide +kernel
theorem dX8_isHour_11 : decode cX8_isHour 11 = .ok (.goto 4, 3) := by decide +kernel
theorem dX8_isHour_14 : decode cX8_isHour 14 = .ok (.iconst 0, 1) := by decide +kernel
theorem dX8_isHour_15 : decode cX8_isHour 15 = .ok (.ireturn, 1) := by decide +kernel
theorem dX8_isThing_0 : decode cX8_isThing 0 = .ok (.iload_n 0, 1) := by decide +kernel
theorem dX8_isThing_1 : decode cX8_isThing 1 = .ok (.ifCond .lt 12, 3) := by decide +kernel
theorem dX8_isThing_4 : decode cX8_isThing 4 = .ok (.iload_n 0, 1) := by decide +kernel
theorem dX8_isThing_5 : decode cX8_isThing 5 = .ok (.iconst 3, 1) := by decide +kernel
theorem dX8_isThing_6 : decode cX8_isThing 6 = .ok (.if_icmp .ge 7, 3) := by decide +kernel
theorem dX8_isThing_9 : decode cX8_isThing 9 = .ok (.iconst 1, 1) := by decide +kernel
theorem dX8_isThing_10 : decode cX8_isThing 10 = .ok (.goto 4, 3) := by decide +kernel
theorem dX8_isThing_13 : decode cX8_isThing 13 = .ok (.iconst 0, 1) := by decide +kernel
theorem dX8_isThing_14 : decode cX8_isThing 14 = .ok (.ireturn, 1) := by decide +kernel
theorem dX8_isValue_0 : decode cX8_isValue 0 = .ok (.iload_n 0, 1) := by decide +kernel
theorem dX8_isValue_1 : decode cX8_isValue 1 = .ok (.ifCond .lt 13, 3) := by decide +kernel
theorem dX8_isValue_4 : decode cX8_isValue 4 = .ok (.iload_n 0, 1) := by decide +kernel
theorem dX8_isValue_5 : decode cX8_isValue 5 = .ok (.bipush 9, 2) := by decide +kernel
theorem dX8_isValue_7 : decode cX8_isValue 7 = .ok (.if_icmp .gt 7, 3) := by decide +kernel
theorem dX8_isValue_10 : decode cX8_isValue 10 = .ok (.iconst 1, 1) := by decide +kernel
theorem dX8_isValue_11 : decode cX8_isValue 11 = .ok (.goto 4, 3) := by decide +kernel
theorem dX8_isValue_14 : decode cX8_isValue 14 = .ok (.iconst 0, 1) := by decide +kernel
theorem dX8_isValue_15 : decode cX8_isValue 15 = .ok (.ireturn, 1) := by decide +kernel
theorem dX8_isFlag_0 : decode cX8_isFlag 0 = .ok (.iload_n 0, 1) := by decide +kernel
theorem dX8_isFlag_1 : decode cX8_isFlag 1 = .ok (.ifCond .eq 8, 3) := by decide +kernel
theorem dX8_isFlag_4 : decode cX8_isFlag 4 = .ok (.iload_n 0, 1) := by decide +kernel
theorem dX8_isFlag_5 : decode cX8_isFlag 5 = .ok (.iconst 1, 1) := by decide +kernel
theorem dX8_isFlag_6 : decode cX8_isFlag 6 = .ok (.if_icmp .ne 7, 3) := by decide +kernel
theorem dX8_isFlag_9 : decode cX8_isFlag 9 = .ok (.iconst 1, 1) := by decide +kernel
theorem dX8_isFlag_10 : decode cX8_isFlag 10 = .ok (.goto 4, 3) := by decide +kernel
theorem dX8_isFlag_13 : decode cX8_isFlag 13 = .ok (.iconst 0, 1) := by decide +kernel
theorem dX8_isFlag_14 : decode cX8_isFlag 14 = .ok (.ireturn, 1) := by decide +kernel
theorem dX8_isSheet_0 : decode cX8_isSheet 0 = .ok (.iload_n 0, 1) := by decide +kernel
theorem dX8_isSheet_1 : decode cX8_isSheet 1 = .ok (.ifCond .lt 12, 3) := by decide +kernel
theorem dX8_isSheet_4 : decode cX8_isSheet 4 = .ok (.iload_n 0, 1) := by decide +kernel
theorem dX8_isSheet_5 : decode cX8_isSheet 5 = .ok (.iconst 4, 1) := by decide +kernel
theorem dX8_isSheet_6 : decode cX8_isSheet 6 = .ok (.if_icmp .ge 7, 3) := by decide +kernel
theorem dX8_isSheet_9 : decode cX8_isSheet 9 = .ok (.iconst 1, 1) := by decide +kernel
theorem dX8_isSheet_10 : decode cX8_isSheet 10 = .ok (.goto 4, 3) := by decide +kernel
theorem dX8_isSheet_13 : decode cX8_isSheet 13 = .ok (.iconst 0, 1) := by decide +kernel
