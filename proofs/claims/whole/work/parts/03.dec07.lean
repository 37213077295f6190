theorem dX9_swap_43 : decode cX9_swap 43 = .ok (.aload_n 0, 1) := by decide +kernel
theorem dX9_swap_44 : decode cX9_swap 44 = .ok (.getfield 7, 3) := by decide +kernel
theorem dX9_swap_47 : decode cX9_swap 47 = .ok (.bipush 26, 2) := by decide +kernel
theorem dX9_swap_49 : decode cX9_swap 49 = .ok (.iload 4, 2) := by decide +kernel
theorem dX9_swap_51 : decode cX9_swap 51 = .ok (.iadd, 1) := by decide +kernel
theorem dX9_swap_52 : decode cX9_swap 52 = .ok (.iaload, 1) := by decide +kernel
theorem dX9_swap_53 : decode cX9_swap 53 = .ok (.istore 6, 2) := by decide +kernel
theorem dX9_swap_55 : decode cX9_swap 55 = .ok (.aload_n 0, 1) := by decide +kernel
theorem dX9_swap_56 : decode cX9_swap 56 = .ok (.getfield 7, 3) := by decide +kernel
theorem dX9_swap_59 : decode cX9_swap 59 = .ok (.bipush 26, 2) := by decide +kernel
theorem dX9_swap_61 : decode cX9_swap 61 = .ok (.iload 5, 2) := by decide +kernel
theorem dX9_swap_63 : decode cX9_swap 63 = .ok (.iadd, 1) := by decide +kernel
theorem dX9_swap_64 : decode cX9_swap 64 = .ok (.iaload, 1) := by decide +kernel
theorem dX9_swap_65 : decode cX9_swap 65 = .ok (.istore 7, 2) := by decide +kernel
theorem dX9_swap_67 : decode cX9_swap 67 = .ok (.aload_n 0, 1) := by decide +kernel
theorem dX9_swap_68 : decode cX9_swap 68 = .ok (.getfield 7, 3) := by decide +kernel
theorem dX9_swap_71 : decode cX9_swap 71 = .ok (.bipush 26, 2) := by decide +kernel
theorem dX9_swap_73 : decode cX9_swap 73 = .ok (.iload 4, 2) := by decide +kernel
theorem dX9_swap_75 : decode cX9_swap 75 = .ok (.iadd, 1) := by decide +kernel
theorem dX9_swap_76 : decode cX9_swap 76 = .ok (.iload 7, 2) := by decide +kernel
theorem dX9_swap_78 : decode cX9_swap 78 = .ok (.iastore, 1) := by decide +kernel
theorem dX9_swap_79 : decode cX9_swap 79 = .ok (.aload_n 0, 1) := by decide +kernel
theorem dX9_swap_80 : decode cX9_swap 80 = .ok (.getfield 7, 3) := by decide +kernel
theorem dX9_swap_83 : decode cX9_swap 83 = .ok (.bipush 26, 2) := by decide +kernel
theorem dX9_swap_85 : decode cX9_swap 85 = .ok (.iload 5, 2) := by decide +kernel
theorem dX9_swap_87 : decode cX9_swap 87 = .ok (.iadd, 1) := by decide +kernel
theorem dX9_swap_88 : decode cX9_swap 88 = .ok (.iload 6, 2) := by decide +kernel
theorem dX9_swap_90 : decode cX9_swap 90 = .ok (.iastore, 1) := by decide +kernel
theorem dX9_swap_91 : decode cX9_swap 91 = .ok (.aload_n 0, 1) := by decide +kernel
theorem dX9_swap_92 : decode cX9_swap 92 = .ok (.invokevirtual 247, 3) := by decide +kernel
theorem dX9_swap_95 : decode cX9_swap 95 = .ok (.istore 8, 2) := by decide +kernel
theorem dX9_swap_97 : decode cX9_swap 97 = .ok (.aload_n 0, 1) := by decide +kernel
theorem dX9_swap_98 : decode cX9_swap 98 = .ok (.getfield 7, 3) := by decide +kernel
theorem dX9_swap_101 : decode cX9_swap 101 = .ok (.bipush 26, 2) := by decide +kernel
theorem dX9_swap_103 : decode cX9_swap 103 = .ok (.iload 4, 2) := by decide +kernel
theorem dX9_swap_105 : decode cX9_swap 105 = .ok (.iadd, 1) := by decide +kernel
theorem dX9_swap_106 : decode cX9_swap 106 = .ok (.iload 6, 2) := by decide +kernel
theorem dX9_swap_108 : decode cX9_swap 108 = .ok (.iastore, 1) := by decide +kernel
theorem dX9_swap_109 : decode cX9_swap 109 = .ok (.aload_n 0, 1) := by decide +kernel
theorem dX9_swap_110 : decode cX9_swap 110 = .ok (.getfield 7, 3) := by decide +kernel
theorem dX9_swap_113 : decode cX9_swap 113 = .ok (.bipush 26, 2) := by decide +kernel
theorem dX9_swap_115 : decode cX9_swap 115 = .ok (.iload 5, 2) := by decide +kernel
theorem dX9_swap_117 : decode cX9_swap 117 = .ok (.iadd, 1) := by decide +kernel
theorem dX9_swap_118 : decode cX9_swap 118 = .ok (.iload 7, 2) := by decide +kernel
theorem dX9_swap_120 : decode cX9_swap 120 = .ok (.iastore, 1) := by decide +kernel
theorem dX9_swap_121 : decode cX9_swap 121 = .ok (.iload 8, 2) := by decide +kernel
theorem dX9_swap_123 : decode cX9_swap 123 = .ok (.iload_n 2, 1) := by decide +kernel
theorem dX9_swap_124 : decode cX9_swap 124 = .ok (.if_icmp .le 14, 3) := by decide +kernel
theorem dX9_swap_127 : decode cX9_swap 127 = .ok (.bipush 10, 2) := by decide +kernel
theorem dX9_swap_129 : decode cX9_swap 129 = .ok (.iload 4, 2) := by decide +kernel
theorem dX9_swap_131 : decode cX9_swap 131 = .ok (.imul, 1) := by decide +kernel
theorem dX9_swap_132 : decode cX9_swap 132 = .ok (.iload 5, 2) := by decide +kernel
theorem dX9_swap_134 : decode cX9_swap 134 = .ok (.iadd, 1) := by decide +kernel
theorem dX9_swap_135 : decode cX9_swap 135 = .ok (.goto 4, 3) := by decide +kernel
theorem dX9_swap_138 : decode cX9_swap 138 = .ok (.iload_n 3, 1) := by decide +kernel
theorem dX9_swap_139 : decode cX9_swap 139 = .ok (.istore_n 3, 1) := by decide +kernel
theorem dX9_swap_140 : decode cX9_swap 140 = .ok (.iload 8, 2) := by decide +kernel
theorem dX9_swap_142 : decode cX9_swap 142 = .ok (.iload_n 2, 1) := by decide +kernel
theorem dX9_swap_143 : decode cX9_swap 143 = .ok (.if_icmp .le 8, 3) := by decide +kernel
theorem dX9_swap_146 : decode cX9_swap 146 = .ok (.iload 8, 2) := by decide +kernel
theorem dX9_swap_148 : decode cX9_swap 148 = .ok (.goto 4, 3) := by decide +kernel
theorem dX9_swap_151 : decode cX9_swap 151 = .ok (.iload_n 2, 1) := by decide +kernel
theorem dX9_swap_152 : decode cX9_swap 152 = .ok (.istore_n 2, 1) := by decide +kernel
theorem dX9_swap_153 : decode cX9_swap 153 = .ok (.iinc 5 1, 3) := by decide +kernel
theorem dX9_swap_156 : decode cX9_swap 156 = .ok (.goto (-120), 3) := by decide +kernel
theorem dX9_swap_159 : decode cX9_swap 159 = .ok (.iinc 4 1, 3) := by decide +kernel
theorem dX9_swap_162 : decode cX9_swap 162 = .ok (.goto (-139), 3) := by decide +kernel
theorem dX9_swap_165 : decode cX9_swap 165 = .ok (.iload_n 3, 1) := by decide +kernel
theorem dX9_swap_166 : decode cX9_swap 166 = .ok (.bipush (-4), 2) := by decide +kernel
theorem dX9_swap_168 : decode cX9_swap 168 = .ok (.if_icmp .eq 7, 3) := by decide +kernel
theorem dX9_swap_171 : decode cX9_swap 171 = .ok (.iload_n 1, 1) := by decide +kernel
theorem dX9_swap_172 : decode cX9_swap 172 = .ok (.ifCond .ne 7, 3) := by decide +kernel
theorem dX9_swap_175 : decode cX9_swap 175 = .ok (.iload_n 3, 1) := by decide +kernel
theorem dX9_swap_176 : decode cX9_swap 176 = .ok (.goto 4, 3) := by decide +kernel
theorem dX9_swap_179 : decode cX9_swap 179 = .ok (.iload_n 2, 1) := by decide +kernel
theorem dX9_swap_180 : decode cX9_swap 180 = .ok (.ireturn, 1) := by decide +kernel
theorem dX9_give_0 : decode cX9_give 0 = .ok (.iload_n 1, 1) := by decide +kernel
theorem dX9_give_1 : decode cX9_give 1 = .ok (.i2l, 1) := by decide +kernel
theorem dX9_give_2 : decode cX9_give 2 = .ok (.lconst 0, 1) := by decide +kernel
theorem dX9_give_3 : decode cX9_give 3 = .ok (.lconst 1, 1) := by decide +kernel
theorem dX9_give_4 : decode cX9_give 4 = .ok (.invokestatic 58, 3) := by decide +kernel
theorem dX9_give_7 : decode cX9_give 7 = .ok (.ifCond .ne 5, 3) := by decide +kernel
theorem dX9_give_10 : decode cX9_give 10 = .ok (.iconst (-1), 1) := by decide +kernel
theorem dX9_give_11 : decode cX9_give 11 = .ok (.ireturn, 1) := by decide +kernel
theorem dX9_give_12 : decode cX9_give 12 = .ok (.aload_n 0, 1) := by decide +kernel
theorem dX9_give_13 : decode cX9_give 13 = .ok (.invokevirtual 247, 3) := by decide +kernel
theorem dX9_give_16 : decode cX9_give 16 = .ok (.istore_n 2, 1) := by decide +kernel
theorem dX9_give_17 : decode cX9_give 17 = .ok (.bipush (-4), 2) := by decide +kernel
theorem dX9_give_19 : decode cX9_give 19 = .ok (.istore_n 3, 1) := by decide +kernel
theorem dX9_give_20 : decode cX9_give 20 = .ok (.iconst 0, 1) := by decide +kernel
theorem dX9_give_21 : decode cX9_give 21 = .ok (.istore 4, 2) := by decide +kernel
theorem dX9_give_23 : decode cX9_give 23 = .ok (.iload 4, 2) := by decide +kernel
theorem dX9_give_25 : decode cX9_give 25 = .ok (.bipush 10, 2) := by decide +kernel
theorem dX9_give_27 : decode cX9_give 27 = .ok (.if_icmp .ge 103, 3) := by decide +kernel
theorem dX9_give_30 : decode cX9_give 30 = .ok (.aload_n 0, 1) := by decide +kernel
theorem dX9_give_31 : decode cX9_give 31 = .ok (.getfield 7, 3) := by decide +kernel
theorem dX9_give_34 : decode cX9_give 34 = .ok (.bipush 26, 2) := by decide +kernel
theorem dX9_give_36 : decode cX9_give 36 = .ok (.iload 4, 2) := by decide +kernel
theorem dX9_give_38 : decode cX9_give 38 = .ok (.iadd, 1) := by decide +kernel
theorem dX9_give_39 : decode cX9_give 39 = .ok (.iaload, 1) := by decide +kernel
theorem dX9_give_40 : decode cX9_give 40 = .ok (.istore 5, 2) := by decide +kernel
theorem dX9_give_42 : decode cX9_give 42 = .ok (.iconst 0, 1) := by decide +kernel
theorem dX9_give_43 : decode cX9_give 43 = .ok (.istore 6, 2) := by decide +kernel
theorem dX9_give_45 : decode cX9_give 45 = .ok (.iload 6, 2) := by decide +kernel
theorem dX9_give_47 : decode cX9_give 47 = .ok (.aload_n 0, 1) := by decide +kernel
theorem dX9_give_48 : decode cX9_give 48 = .ok (.getfield 154, 3) := by decide +kernel
theorem dX9_give_51 : decode cX9_give 51 = .ok (.if_icmp .ge 61, 3) := by decide +kernel
theorem dX9_give_54 : decode cX9_give 54 = .ok (.aload_n 0, 1) := by decide +kernel
theorem dX9_give_55 : decode cX9_give 55 = .ok (.getfield 7, 3) := by decide +kernel
theorem dX9_give_58 : decode cX9_give 58 = .ok (.bipush 26, 2) := by decide +kernel
theorem dX9_give_60 : decode cX9_give 60 = .ok (.iload 4, 2) := by decide +kernel
theorem dX9_give_62 : decode cX9_give 62 = .ok (.iadd, 1) := by decide +kernel
theorem dX9_give_63 : decode cX9_give 63 = .ok (.iload 6, 2) := by decide +kernel
theorem dX9_give_65 : decode cX9_give 65 = .ok (.iconst 1, 1) := by decide +kernel
theorem dX9_give_66 : decode cX9_give 66 = .ok (.iadd, 1) := by decide +kernel
theorem dX9_give_67 : decode cX9_give 67 = .ok (.iastore, 1) := by decide +kernel
theorem dX9_give_68 : decode cX9_give 68 = .ok (.aload_n 0, 1) := by decide +kernel
theorem dX9_give_69 : decode cX9_give 69 = .ok (.invokevirtual 247, 3) := by decide +kernel
theorem dX9_give_72 : decode cX9_give 72 = .ok (.istore 7, 2) := by decide +kernel
theorem dX9_give_74 : decode cX9_give 74 = .ok (.iload 7, 2) := by decide +kernel
theorem dX9_give_76 : decode cX9_give 76 = .ok (.iload_n 2, 1) := by decide +kernel
theorem dX9_give_77 : decode cX9_give 77 = .ok (.if_icmp .le 14, 3) := by decide +kernel
theorem dX9_give_80 : decode cX9_give 80 = .ok (.bipush 10, 2) := by decide +kernel
theorem dX9_give_82 : decode cX9_give 82 = .ok (.iload 4, 2) := by decide +kernel
theorem dX9_give_84 : decode cX9_give 84 = .ok (.imul, 1) := by decide +kernel
theorem dX9_give_85 : decode cX9_give 85 = .ok (.iload 6, 2) := by decide +kernel
theorem dX9_give_87 : decode cX9_give 87 = .ok (.iadd, 1) := by decide +kernel
theorem dX9_give_88 : decode cX9_give 88 = .ok (.goto 4, 3) := by decide +kernel
theorem dX9_give_91 : decode cX9_give 91 = .ok (.iload_n 3, 1) := by decide +kernel
theorem dX9_give_92 : decode cX9_give 92 = .ok (.istore_n 3, 1) := by decide +kernel
theorem dX9_give_93 : decode cX9_give 93 = .ok (.iload 7, 2) := by decide +kernel
theorem dX9_give_95 : decode cX9_give 95 = .ok (.iload_n 2, 1) := by decide +kernel
theorem dX9_give_96 : decode cX9_give 96 = .ok (.if_icmp .le 8, 3) := by decide +kernel
theorem dX9_give_99 : decode cX9_give 99 = .ok (.iload 7, 2) := by decide +kernel
theorem dX9_give_101 : decode cX9_give 101 = .ok (.goto 4, 3) := by decide +kernel
theorem dX9_give_104 : decode cX9_give 104 = .ok (.iload_n 2, 1) := by decide +kernel
theorem dX9_give_105 : decode cX9_give 105 = .ok (.istore_n 2, 1) := by decide +kernel
theorem dX9_give_106 : decode cX9_give 106 = .ok (.iinc 6 1, 3) := by decide +kernel
theorem dX9_give_109 : decode cX9_give 109 = .ok (.goto (-64), 3) := by decide +kernel
theorem dX9_give_112 : decode cX9_give 112 = .ok (.aload_n 0, 1) := by decide +kernel
theorem dX9_give_113 : decode cX9_give 113 = .ok (.getfield 7, 3) := by decide +kernel
theorem dX9_give_116 : decode cX9_give 116 = .ok (.bipush 26, 2) := by decide +kernel
theorem dX9_give_118 : decode cX9_give 118 = .ok (.iload 4, 2) := by decide +kernel
theorem dX9_give_120 : decode cX9_give 120 = .ok (.iadd, 1) := by decide +kernel
theorem dX9_give_121 : decode cX9_give 121 = .ok (.iload 5, 2) := by decide +kernel
theorem dX9_give_123 : decode cX9_give 123 = .ok (.iastore, 1) := by decide +kernel
theorem dX9_give_124 : decode cX9_give 124 = .ok (.iinc 4 1, 3) := by decide +kernel
theorem dX9_give_127 : decode cX9_give 127 = .ok (.goto (-104), 3) := by decide +kernel
theorem dX9_give_130 : decode cX9_give 130 = .ok (.iload_n 3, 1) := by decide +kernel
theorem dX9_give_131 : decode cX9_give 131 = .ok (.bipush (-4), 2) := by decide +kernel
theorem dX9_give_133 : decode cX9_give 133 = .ok (.if_icmp .eq 7, 3) := by decide +kernel
theorem dX9_give_136 : decode cX9_give 136 = .ok (.iload_n 1, 1) := by decide +kernel
theorem dX9_give_137 : decode cX9_give 137 = .ok (.ifCond .ne 7, 3) := by decide +kernel
theorem dX9_give_140 : decode cX9_give 140 = .ok (.iload_n 3, 1) := by decide +kernel
theorem dX9_give_141 : decode cX9_give 141 = .ok (.goto 4, 3) := by decide +kernel
theorem dX9_give_144 : decode cX9_give 144 = .ok (.iload_n 2, 1) := by decide +kernel
theorem dX9_give_145 : decode cX9_give 145 = .ok (.ireturn, 1) := by decide +kernel
theorem dX9_bitsOf_0 : decode cX9_bitsOf 0 = .ok (.iconst 0, 1) := by decide +kernel
theorem dX9_bitsOf_1 : decode cX9_bitsOf 1 = .ok (.istore_n 1, 1) := by decide +kernel
theorem dX9_bitsOf_2 : decode cX9_bitsOf 2 = .ok (.iconst 0, 1) := by decide +kernel
theorem dX9_bitsOf_3 : decode cX9_bitsOf 3 = .ok (.istore_n 2, 1) := by decide +kernel
theorem dX9_bitsOf_4 : decode cX9_bitsOf 4 = .ok (.iload_n 2, 1) := by decide +kernel
theorem dX9_bitsOf_5 : decode cX9_bitsOf 5 = .ok (.bipush 10, 2) := by decide +kernel
theorem dX9_bitsOf_7 : decode cX9_bitsOf 7 = .ok (.if_icmp .ge 17, 3) := by decide +kernel
theorem dX9_bitsOf_10 : decode cX9_bitsOf 10 = .ok (.iload_n 1, 1) := by decide +kernel
theorem dX9_bitsOf_11 : decode cX9_bitsOf 11 = .ok (.iload_n 0, 1) := by decide +kernel
theorem dX9_bitsOf_12 : decode cX9_bitsOf 12 = .ok (.iload_n 2, 1) := by decide +kernel
theorem dX9_bitsOf_13 : decode cX9_bitsOf 13 = .ok (.ishr, 1) := by decide +kernel
theorem dX9_bitsOf_14 : decode cX9_bitsOf 14 = .ok (.iconst 1, 1) := by decide +kernel
theorem dX9_bitsOf_15 : decode cX9_bitsOf 15 = .ok (.iand, 1) := by decide +kernel
theorem dX9_bitsOf_16 : decode cX9_bitsOf 16 = .ok (.iadd, 1) := by decide +kernel
theorem dX9_bitsOf_17 : decode cX9_bitsOf 17 = .ok (.istore_n 1, 1) := by decide +kernel
theorem dX9_bitsOf_18 : decode cX9_bitsOf 18 = .ok (.iinc 2 1, 3) := by decide +kernel
theorem dX9_bitsOf_21 : decode cX9_bitsOf 21 = .ok (.goto (-17), 3) := by decide +kernel
theorem dX9_bitsOf_24 : decode cX9_bitsOf 24 = .ok (.iload_n 1, 1) := by decide +kernel
theorem dX9_bitsOf_25 : decode cX9_bitsOf 25 = .ok (.ireturn, 1) := by decide +kernel
theorem dX9_mend_0 : decode cX9_mend 0 = .ok (.iload_n 1, 1) := by decide +kernel
theorem dX9_mend_1 : decode cX9_mend 1 = .ok (.invokestatic 195, 3) := by decide +kernel
theorem dX9_mend_4 : decode cX9_mend 4 = .ok (.ifCond .ne 5, 3) := by decide +kernel
theorem dX9_mend_7 : decode cX9_mend 7 = .ok (.iconst (-1), 1) := by decide +kernel
theorem dX9_mend_8 : decode cX9_mend 8 = .ok (.ireturn, 1) := by decide +kernel
theorem dX9_mend_9 : decode cX9_mend 9 = .ok (.aload_n 0, 1) := by decide +kernel
theorem dX9_mend_10 : decode cX9_mend 10 = .ok (.invokevirtual 224, 3) := by decide +kernel
theorem dX9_mend_13 : decode cX9_mend 13 = .ok (.aload_n 0, 1) := by decide +kernel
theorem dX9_mend_14 : decode cX9_mend 14 = .ok (.iload_n 1, 1) := by decide +kernel
theorem dX9_mend_15 : decode cX9_mend 15 = .ok (.bipush 9, 2) := by decide +kernel
theorem dX9_mend_17 : decode cX9_mend 17 = .ok (.iconst 0, 1) := by decide +kernel
theorem dX9_mend_18 : decode cX9_mend 18 = .ok (.invokevirtual 227, 3) := by decide +kernel
theorem dX9_mend_21 : decode cX9_mend 21 = .ok (.invokestatic 250, 3) := by decide +kernel
theorem dX9_mend_24 : decode cX9_mend 24 = .ok (.istore_n 2, 1) := by decide +kernel
theorem dX9_mend_25 : decode cX9_mend 25 = .ok (.iload_n 2, 1) := by decide +kernel
theorem dX9_mend_26 : decode cX9_mend 26 = .ok (.ifCond .ne 15, 3) := by decide +kernel
theorem dX9_mend_29 : decode cX9_mend 29 = .ok (.aload_n 0, 1) := by decide +kernel
theorem dX9_mend_30 : decode cX9_mend 30 = .ok (.getfield 154, 3) := by decide +kernel
theorem dX9_mend_33 : decode cX9_mend 33 = .ok (.ifCond .le 8, 3) := by decide +kernel
theorem dX9_mend_36 : decode cX9_mend 36 = .ok (.bipush (-4), 2) := by decide +kernel
theorem dX9_mend_38 : decode cX9_mend 38 = .ok (.goto 9, 3) := by decide +kernel
theorem dX9_mend_41 : decode cX9_mend 41 = .ok (.aload_n 0, 1) := by decide +kernel
theorem dX9_mend_42 : decode cX9_mend 42 = .ok (.getfield 154, 3) := by decide +kernel
theorem dX9_mend_45 : decode cX9_mend 45 = .ok (.iload_n 2, 1) := by decide +kernel
theorem dX9_mend_46 : decode cX9_mend 46 = .ok (.isub, 1) := by decide +kernel
theorem dX9_mend_47 : decode cX9_mend 47 = .ok (.ireturn, 1) := by decide +kernel
theorem dX9_lowest_0 : decode cX9_lowest 0 = .ok (.lload_n 0, 1) := by decide +kernel
theorem dX9_lowest_1 : decode cX9_lowest 1 = .ok (.lstore 5, 2) := by decide +kernel
theorem dX9_lowest_3 : decode cX9_lowest 3 = .ok (.lload_n 2, 1) := by decide +kernel
theorem dX9_lowest_4 : decode cX9_lowest 4 = .ok (.lstore 7, 2) := by decide +kernel
theorem dX9_lowest_6 : decode cX9_lowest 6 = .ok (.lload 7, 2) := by decide +kernel
theorem dX9_lowest_8 : decode cX9_lowest 8 = .ok (.lconst 0, 1) := by decide +kernel
theorem dX9_lowest_9 : decode cX9_lowest 9 = .ok (.lcmp, 1) := by decide +kernel
theorem dX9_lowest_10 : decode cX9_lowest 10 = .ok (.ifCond .eq 21, 3) := by decide +kernel
theorem dX9_lowest_13 : decode cX9_lowest 13 = .ok (.lload 5, 2) := by decide +kernel
theorem dX9_lowest_15 : decode cX9_lowest 15 = .ok (.lload 7, 2) := by decide +kernel
theorem dX9_lowest_17 : decode cX9_lowest 17 = .ok (.lrem, 1) := by decide +kernel
theorem dX9_lowest_18 : decode cX9_lowest 18 = .ok (.lstore 9, 2) := by decide +kernel
theorem dX9_lowest_20 : decode cX9_lowest 20 = .ok (.lload 7, 2) := by decide +kernel
theorem dX9_lowest_22 : decode cX9_lowest 22 = .ok (.lstore 5, 2) := by decide +kernel
theorem dX9_lowest_24 : decode cX9_lowest 24 = .ok (.lload 9, 2) := by decide +kernel
theorem dX9_lowest_26 : decode cX9_lowest 26 = .ok (.lstore 7, 2) := by decide +kernel
theorem dX9_lowest_28 : decode cX9_lowest 28 = .ok (.goto (-22), 3) := by decide +kernel
theorem dX9_lowest_31 : decode cX9_lowest 31 = .ok (.iload 4, 2) := by decide +kernel
theorem dX9_lowest_33 : decode cX9_lowest 33 = .ok (.ifCond .ne 7, 3) := by decide +kernel
theorem dX9_lowest_36 : decode cX9_lowest 36 = .ok (.lload_n 0, 1) := by decide +kernel
theorem dX9_lowest_37 : decode cX9_lowest 37 = .ok (.goto 4, 3) := by decide +kernel
theorem dX9_lowest_40 : decode cX9_lowest 40 = .ok (.lload_n 2, 1) := by decide +kernel
theorem dX9_lowest_41 : decode cX9_lowest 41 = .ok (.lload 5, 2) := by decide +kernel
theorem dX9_lowest_43 : decode cX9_lowest 43 = .ok (.ldiv, 1) := by decide +kernel
theorem dX9_lowest_44 : decode cX9_lowest 44 = .ok (.lreturn, 1) := by decide +kernel
theorem dX9_isHandOver_0 : decode cX9_isHandOver 0 = .ok (.aload_n 0, 1) := by decide +kernel
theorem dX9_isHandOver_1 : decode cX9_isHandOver 1 = .ok (.iload_n 1, 1) := by decide +kernel
theorem dX9_isHandOver_2 : decode cX9_isHandOver 2 = .ok (.invokevirtual 168, 3) := by decide +kernel
theorem dX9_isHandOver_5 : decode cX9_isHandOver 5 = .ok (.ifCond .lt 26, 3) := by decide +kernel
theorem dX9_isHandOver_8 : decode cX9_isHandOver 8 = .ok (.iload_n 1, 1) := by decide +kernel
theorem dX9_isHandOver_9 : decode cX9_isHandOver 9 = .ok (.ifCond .eq 18, 3) := by decide +kernel
theorem dX9_isHandOver_12 : decode cX9_isHandOver 12 = .ok (.aload_n 0, 1) := by decide +kernel
theorem dX9_isHandOver_13 : decode cX9_isHandOver 13 = .ok (.iload_n 1, 1) := by decide +kernel
theorem dX9_isHandOver_14 : decode cX9_isHandOver 14 = .ok (.iconst 1, 1) := by decide +kernel
theorem dX9_isHandOver_15 : decode cX9_isHandOver 15 = .ok (.isub, 1) := by decide +kernel
theorem dX9_isHandOver_16 : decode cX9_isHandOver 16 = .ok (.invokevirtual 168, 3) := by decide +kernel
theorem dX9_isHandOver_19 : decode cX9_isHandOver 19 = .ok (.aload_n 0, 1) := by decide +kernel
theorem dX9_isHandOver_20 : decode cX9_isHandOver 20 = .ok (.iload_n 1, 1) := by decide +kernel
theorem dX9_isHandOver_21 : decode cX9_isHandOver 21 = .ok (.invokevirtual 168, 3) := by decide +kernel
theorem dX9_isHandOver_24 : decode cX9_isHandOver 24 = .ok (.if_icmp .eq 7, 3) := by decide +kernel
theorem dX9_isHandOver_27 : decode cX9_isHandOver 27 = .ok (.iconst 1, 1) := by decide +kernel
theorem dX9_isHandOver_28 : decode cX9_isHandOver 28 = .ok (.goto 4, 3) := by decide +kernel
theorem dX9_isHandOver_31 : decode cX9_isHandOver 31 = .ok (.iconst 0, 1) := by decide +kernel
theorem dX9_isHandOver_32 : decode cX9_isHandOver 32 = .ok (.ireturn, 1) := by decide +kernel
theorem dX9_seeingBut_0 : decode cX9_seeingBut 0 = .ok (.iconst 0, 1) := by decide +kernel
theorem dX9_seeingBut_1 : decode cX9_seeingBut 1 = .ok (.istore_n 2, 1) := by decide +kernel
theorem dX9_seeingBut_2 : decode cX9_seeingBut 2 = .ok (.iconst 0, 1) := by decide +kernel
theorem dX9_seeingBut_3 : decode cX9_seeingBut 3 = .ok (.istore_n 3, 1) := by decide +kernel
theorem dX9_seeingBut_4 : decode cX9_seeingBut 4 = .ok (.iconst 0, 1) := by decide +kernel
theorem dX9_seeingBut_5 : decode cX9_seeingBut 5 = .ok (.istore 4, 2) := by decide +kernel
theorem dX9_seeingBut_7 : decode cX9_seeingBut 7 = .ok (.iload 4, 2) := by decide +kernel
theorem dX9_seeingBut_9 : decode cX9_seeingBut 9 = .ok (.bipush 10, 2) := by decide +kernel
theorem dX9_seeingBut_11 : decode cX9_seeingBut 11 = .ok (.if_icmp .ge 61, 3) := by decide +kernel
theorem dX9_seeingBut_14 : decode cX9_seeingBut 14 = .ok (.aload_n 0, 1) := by decide +kernel
theorem dX9_seeingBut_15 : decode cX9_seeingBut 15 = .ok (.iload 4, 2) := by decide +kernel
theorem dX9_seeingBut_17 : decode cX9_seeingBut 17 = .ok (.invokevirtual 253, 3) := by decide +kernel
theorem dX9_seeingBut_20 : decode cX9_seeingBut 20 = .ok (.ifCond .eq 20, 3) := by decide +kernel
theorem dX9_seeingBut_23 : decode cX9_seeingBut 23 = .ok (.iload_n 1, 1) := by decide +kernel
theorem dX9_seeingBut_24 : decode cX9_seeingBut 24 = .ok (.iload 4, 2) := by decide +kernel
theorem dX9_seeingBut_26 : decode cX9_seeingBut 26 = .ok (.ishr, 1) := by decide +kernel
theorem dX9_seeingBut_27 : decode cX9_seeingBut 27 = .ok (.iconst 1, 1) := by decide +kernel
theorem dX9_seeingBut_28 : decode cX9_seeingBut 28 = .ok (.iand, 1) := by decide +kernel
theorem dX9_seeingBut_29 : decode cX9_seeingBut 29 = .ok (.ifCond .ne 7, 3) := by decide +kernel
theorem dX9_seeingBut_32 : decode cX9_seeingBut 32 = .ok (.iconst 1, 1) := by decide +kernel
theorem dX9_seeingBut_33 : decode cX9_seeingBut 33 = .ok (.goto 8, 3) := by decide +kernel
theorem dX9_seeingBut_36 : decode cX9_seeingBut 36 = .ok (.iconst 0, 1) := by decide +kernel
theorem dX9_seeingBut_37 : decode cX9_seeingBut 37 = .ok (.goto 4, 3) := by decide +kernel
theorem dX9_seeingBut_40 : decode cX9_seeingBut 40 = .ok (.iload_n 3, 1) := by decide +kernel
theorem dX9_seeingBut_41 : decode cX9_seeingBut 41 = .ok (.istore_n 3, 1) := by decide +kernel
theorem dX9_seeingBut_42 : decode cX9_seeingBut 42 = .ok (.iload_n 2, 1) := by decide +kernel
theorem dX9_seeingBut_43 : decode cX9_seeingBut 43 = .ok (.iload_n 3, 1) := by decide +kernel
theorem dX9_seeingBut_44 : decode cX9_seeingBut 44 = .ok (.ifCond .eq 19, 3) := by decide +kernel
theorem dX9_seeingBut_47 : decode cX9_seeingBut 47 = .ok (.aload_n 0, 1) := by decide +kernel
theorem dX9_seeingBut_48 : decode cX9_seeingBut 48 = .ok (.iload 4, 2) := by decide +kernel
theorem dX9_seeingBut_50 : decode cX9_seeingBut 50 = .ok (.invokevirtual 175, 3) := by decide +kernel
theorem dX9_seeingBut_53 : decode cX9_seeingBut 53 = .ok (.ifCond .eq 10, 3) := by decide +kernel
theorem dX9_seeingBut_56 : decode cX9_seeingBut 56 = .ok (.iconst 1, 1) := by decide +kernel
theorem dX9_seeingBut_57 : decode cX9_seeingBut 57 = .ok (.iload 4, 2) := by decide +kernel
theorem dX9_seeingBut_59 : decode cX9_seeingBut 59 = .ok (.ishl, 1) := by decide +kernel
theorem dX9_seeingBut_60 : decode cX9_seeingBut 60 = .ok (.goto 4, 3) := by decide +kernel
theorem dX9_seeingBut_63 : decode cX9_seeingBut 63 = .ok (.iconst 0, 1) := by decide +kernel
theorem dX9_seeingBut_64 : decode cX9_seeingBut 64 = .ok (.ior, 1) := by decide +kernel
theorem dX9_seeingBut_65 : decode cX9_seeingBut 65 = .ok (.istore_n 2, 1) := by decide +kernel
theorem dX9_seeingBut_66 : decode cX9_seeingBut 66 = .ok (.iinc 4 1, 3) := by decide +kernel
theorem dX9_seeingBut_69 : decode cX9_seeingBut 69 = .ok (.goto (-62), 3) := by decide +kernel
theorem dX9_seeingBut_72 : decode cX9_seeingBut 72 = .ok (.iload_n 2, 1) := by decide +kernel
theorem dX9_seeingBut_73 : decode cX9_seeingBut 73 = .ok (.ireturn, 1) := by decide +kernel
theorem dX9_byMissed_0 : decode cX9_byMissed 0 = .ok (.iconst 0, 1) := by decide +kernel
theorem dX9_byMissed_1 : decode cX9_byMissed 1 = .ok (.istore 4, 2) := by decide +kernel
theorem dX9_byMissed_3 : decode cX9_byMissed 3 = .ok (.iconst 0, 1) := by decide +kernel
theorem dX9_byMissed_4 : decode cX9_byMissed 4 = .ok (.istore 5, 2) := by decide +kernel
theorem dX9_byMissed_6 : decode cX9_byMissed 6 = .ok (.iload 5, 2) := by decide +kernel
theorem dX9_byMissed_8 : decode cX9_byMissed 8 = .ok (.bipush 10, 2) := by decide +kernel
theorem dX9_byMissed_10 : decode cX9_byMissed 10 = .ok (.if_icmp .ge 31, 3) := by decide +kernel
theorem dX9_byMissed_13 : decode cX9_byMissed 13 = .ok (.iload 4, 2) := by decide +kernel
theorem dX9_byMissed_15 : decode cX9_byMissed 15 = .ok (.aload_n 0, 1) := by decide +kernel
theorem dX9_byMissed_16 : decode cX9_byMissed 16 = .ok (.iload 5, 2) := by decide +kernel
theorem dX9_byMissed_18 : decode cX9_byMissed 18 = .ok (.invokevirtual 253, 3) := by decide +kernel
theorem dX9_byMissed_21 : decode cX9_byMissed 21 = .ok (.ifCond .eq 10, 3) := by decide +kernel
theorem dX9_byMissed_24 : decode cX9_byMissed 24 = .ok (.iconst 1, 1) := by decide +kernel
theorem dX9_byMissed_25 : decode cX9_byMissed 25 = .ok (.iload 5, 2) := by decide +kernel
theorem dX9_byMissed_27 : decode cX9_byMissed 27 = .ok (.ishl, 1) := by decide +kernel
theorem dX9_byMissed_28 : decode cX9_byMissed 28 = .ok (.goto 4, 3) := by decide +kernel
theorem dX9_byMissed_31 : decode cX9_byMissed 31 = .ok (.iconst 0, 1) := by decide +kernel
theorem dX9_byMissed_32 : decode cX9_byMissed 32 = .ok (.ior, 1) := by decide +kernel
theorem dX9_byMissed_33 : decode cX9_byMissed 33 = .ok (.istore 4, 2) := by decide +kernel
theorem dX9_byMissed_35 : decode cX9_byMissed 35 = .ok (.iinc 5 1, 3) := by decide +kernel
theorem dX9_byMissed_38 : decode cX9_byMissed 38 = .ok (.goto (-32), 3) := by decide +kernel
theorem dX9_byMissed_41 : decode cX9_byMissed 41 = .ok (.lconst 0, 1) := by decide +kernel
theorem dX9_byMissed_42 : decode cX9_byMissed 42 = .ok (.lstore 5, 2) := by decide +kernel
theorem dX9_byMissed_44 : decode cX9_byMissed 44 = .ok (.lconst 1, 1) := by decide +kernel
theorem dX9_byMissed_45 : decode cX9_byMissed 45 = .ok (.lstore 7, 2) := by decide +kernel
theorem dX9_byMissed_47 : decode cX9_byMissed 47 = .ok (.iconst 0, 1) := by decide +kernel
theorem dX9_byMissed_48 : decode cX9_byMissed 48 = .ok (.istore 9, 2) := by decide +kernel
theorem dX9_byMissed_50 : decode cX9_byMissed 50 = .ok (.iload 9, 2) := by decide +kernel
theorem dX9_byMissed_52 : decode cX9_byMissed 52 = .ok (.iload 4, 2) := by decide +kernel
theorem dX9_byMissed_54 : decode cX9_byMissed 54 = .ok (.invokestatic 250, 3) := by decide +kernel
theorem dX9_byMissed_57 : decode cX9_byMissed 57 = .ok (.if_icmp .ge 17, 3) := by decide +kernel
theorem dX9_byMissed_60 : decode cX9_byMissed 60 = .ok (.lload 7, 2) := by decide +kernel
theorem dX9_byMissed_62 : decode cX9_byMissed 62 = .ok (.ldc2_w 240, 3) := by decide +kernel
theorem dX9_byMissed_65 : decode cX9_byMissed 65 = .ok (.lmul, 1) := by decide +kernel
theorem dX9_byMissed_66 : decode cX9_byMissed 66 = .ok (.lstore 7, 2) := by decide +kernel
theorem dX9_byMissed_68 : decode cX9_byMissed 68 = .ok (.iinc 9 1, 3) := by decide +kernel
theorem dX9_byMissed_71 : decode cX9_byMissed 71 = .ok (.goto (-21), 3) := by decide +kernel
theorem dX9_byMissed_74 : decode cX9_byMissed 74 = .ok (.iconst 0, 1) := by decide +kernel
theorem dX9_byMissed_75 : decode cX9_byMissed 75 = .ok (.istore 9, 2) := by decide +kernel
theorem dX9_byMissed_77 : decode cX9_byMissed 77 = .ok (.iload 9, 2) := by decide +kernel
theorem dX9_byMissed_79 : decode cX9_byMissed 79 = .ok (.sipush 1024, 3) := by decide +kernel
theorem dX9_byMissed_82 : decode cX9_byMissed 82 = .ok (.if_icmp .ge 120, 3) := by decide +kernel
theorem dX9_byMissed_85 : decode cX9_byMissed 85 = .ok (.iload 9, 2) := by decide +kernel
theorem dX9_byMissed_87 : decode cX9_byMissed 87 = .ok (.iload 4, 2) := by decide +kernel
theorem dX9_byMissed_89 : decode cX9_byMissed 89 = .ok (.iconst (-1), 1) := by decide +kernel
theorem dX9_byMissed_90 : decode cX9_byMissed 90 = .ok (.ixor, 1) := by decide +kernel
theorem dX9_byMissed_91 : decode cX9_byMissed 91 = .ok (.iand, 1) := by decide +kernel
theorem dX9_byMissed_92 : decode cX9_byMissed 92 = .ok (.ifCond .ne 104, 3) := by decide +kernel
theorem dX9_byMissed_95 : decode cX9_byMissed 95 = .ok (.lconst 1, 1) := by decide +kernel
theorem dX9_byMissed_96 : decode cX9_byMissed 96 = .ok (.lstore 10, 2) := by decide +kernel
theorem dX9_byMissed_98 : decode cX9_byMissed 98 = .ok (.iconst 0, 1) := by decide +kernel
theorem dX9_byMissed_99 : decode cX9_byMissed 99 = .ok (.istore 12, 2) := by decide +kernel
theorem dX9_byMissed_101 : decode cX9_byMissed 101 = .ok (.iload 12, 2) := by decide +kernel
theorem dX9_byMissed_103 : decode cX9_byMissed 103 = .ok (.bipush 10, 2) := by decide +kernel
theorem dX9_byMissed_105 : decode cX9_byMissed 105 = .ok (.if_icmp .ge 49, 3) := by decide +kernel
theorem dX9_byMissed_108 : decode cX9_byMissed 108 = .ok (.lload 10, 2) := by decide +kernel
theorem dX9_byMissed_110 : decode cX9_byMissed 110 = .ok (.iload 4, 2) := by decide +kernel
theorem dX9_byMissed_112 : decode cX9_byMissed 112 = .ok (.iload 12, 2) := by decide +kernel
theorem dX9_byMissed_114 : decode cX9_byMissed 114 = .ok (.ishr, 1) := by decide +kernel
theorem dX9_byMissed_115 : decode cX9_byMissed 115 = .ok (.iconst 1, 1) := by decide +kernel
theorem dX9_byMissed_116 : decode cX9_byMissed 116 = .ok (.iand, 1) := by decide +kernel
theorem dX9_byMissed_117 : decode cX9_byMissed 117 = .ok (.ifCond .ne 7, 3) := by decide +kernel
theorem dX9_byMissed_120 : decode cX9_byMissed 120 = .ok (.lconst 1, 1) := by decide +kernel
theorem dX9_byMissed_121 : decode cX9_byMissed 121 = .ok (.goto 24, 3) := by decide +kernel
theorem dX9_byMissed_124 : decode cX9_byMissed 124 = .ok (.iload 9, 2) := by decide +kernel
theorem dX9_byMissed_126 : decode cX9_byMissed 126 = .ok (.iload 12, 2) := by decide +kernel
theorem dX9_byMissed_128 : decode cX9_byMissed 128 = .ok (.ishr, 1) := by decide +kernel
theorem dX9_byMissed_129 : decode cX9_byMissed 129 = .ok (.iconst 1, 1) := by decide +kernel
theorem dX9_byMissed_130 : decode cX9_byMissed 130 = .ok (.iand, 1) := by decide +kernel
theorem dX9_byMissed_131 : decode cX9_byMissed 131 = .ok (.iconst 1, 1) := by decide +kernel
theorem dX9_byMissed_132 : decode cX9_byMissed 132 = .ok (.if_icmp .ne 8, 3) := by decide +kernel
theorem dX9_byMissed_135 : decode cX9_byMissed 135 = .ok (.iload_n 1, 1) := by decide +kernel
theorem dX9_byMissed_136 : decode cX9_byMissed 136 = .ok (.i2l, 1) := by decide +kernel
theorem dX9_byMissed_137 : decode cX9_byMissed 137 = .ok (.goto 8, 3) := by decide +kernel
theorem dX9_byMissed_140 : decode cX9_byMissed 140 = .ok (.bipush 10, 2) := by decide +kernel
theorem dX9_byMissed_142 : decode cX9_byMissed 142 = .ok (.iload_n 1, 1) := by decide +kernel
theorem dX9_byMissed_143 : decode cX9_byMissed 143 = .ok (.isub, 1) := by decide +kernel
theorem dX9_byMissed_144 : decode cX9_byMissed 144 = .ok (.i2l, 1) := by decide +kernel
theorem dX9_byMissed_145 : decode cX9_byMissed 145 = .ok (.lmul, 1) := by decide +kernel
theorem dX9_byMissed_146 : decode cX9_byMissed 146 = .ok (.lstore 10, 2) := by decide +kernel
theorem dX9_byMissed_148 : decode cX9_byMissed 148 = .ok (.iinc 12 1, 3) := by decide +kernel
theorem dX9_byMissed_151 : decode cX9_byMissed 151 = .ok (.goto (-50), 3) := by decide +kernel
theorem dX9_byMissed_154 : decode cX9_byMissed 154 = .ok (.aload_n 0, 1) := by decide +kernel
theorem dX9_byMissed_155 : decode cX9_byMissed 155 = .ok (.aload_n 0, 1) := by decide +kernel
theorem dX9_byMissed_156 : decode cX9_byMissed 156 = .ok (.iload 9, 2) := by decide +kernel
theorem dX9_byMissed_158 : decode cX9_byMissed 158 = .ok (.invokevirtual 256, 3) := by decide +kernel
theorem dX9_byMissed_161 : decode cX9_byMissed 161 = .ok (.invokevirtual 207, 3) := by decide +kernel
theorem dX9_byMissed_164 : decode cX9_byMissed 164 = .ok (.istore 12, 2) := by decide +kernel
theorem dX9_byMissed_166 : decode cX9_byMissed 166 = .ok (.lload 5, 2) := by decide +kernel
theorem dX9_byMissed_168 : decode cX9_byMissed 168 = .ok (.lload 10, 2) := by decide +kernel
theorem dX9_byMissed_170 : decode cX9_byMissed 170 = .ok (.iload_n 2, 1) := by decide +kernel
theorem dX9_byMissed_171 : decode cX9_byMissed 171 = .ok (.bipush (-4), 2) := by decide +kernel
theorem dX9_byMissed_173 : decode cX9_byMissed 173 = .ok (.if_icmp .ne 12, 3) := by decide +kernel
theorem dX9_byMissed_176 : decode cX9_byMissed 176 = .ok (.aload_n 0, 1) := by decide +kernel
theorem dX9_byMissed_177 : decode cX9_byMissed 177 = .ok (.iload 12, 2) := by decide +kernel
theorem dX9_byMissed_179 : decode cX9_byMissed 179 = .ok (.invokevirtual 210, 3) := by decide +kernel
theorem dX9_byMissed_182 : decode cX9_byMissed 182 = .ok (.goto 9, 3) := by decide +kernel
theorem dX9_byMissed_185 : decode cX9_byMissed 185 = .ok (.iload 12, 2) := by decide +kernel
theorem dX9_byMissed_187 : decode cX9_byMissed 187 = .ok (.iload_n 2, 1) := by decide +kernel
theorem dX9_byMissed_188 : decode cX9_byMissed 188 = .ok (.ishr, 1) := by decide +kernel
theorem dX9_byMissed_189 : decode cX9_byMissed 189 = .ok (.iconst 1, 1) := by decide +kernel
theorem dX9_byMissed_190 : decode cX9_byMissed 190 = .ok (.iand, 1) := by decide +kernel
theorem dX9_byMissed_191 : decode cX9_byMissed 191 = .ok (.i2l, 1) := by decide +kernel
theorem dX9_byMissed_192 : decode cX9_byMissed 192 = .ok (.lmul, 1) := by decide +kernel
theorem dX9_byMissed_193 : decode cX9_byMissed 193 = .ok (.ladd, 1) := by decide +kernel
theorem dX9_byMissed_194 : decode cX9_byMissed 194 = .ok (.lstore 5, 2) := by decide +kernel
theorem dX9_byMissed_196 : decode cX9_byMissed 196 = .ok (.iinc 9 1, 3) := by decide +kernel
theorem dX9_byMissed_199 : decode cX9_byMissed 199 = .ok (.goto (-122), 3) := by decide +kernel
theorem dX9_byMissed_202 : decode cX9_byMissed 202 = .ok (.lload 5, 2) := by decide +kernel
theorem dX9_byMissed_204 : decode cX9_byMissed 204 = .ok (.lload 7, 2) := by decide +kernel
theorem dX9_byMissed_206 : decode cX9_byMissed 206 = .ok (.iload_n 3, 1) := by decide +kernel
theorem dX9_byMissed_207 : decode cX9_byMissed 207 = .ok (.invokestatic 259, 3) := by decide +kernel
theorem dX9_byMissed_210 : decode cX9_byMissed 210 = .ok (.lreturn, 1) := by decide +kernel
theorem dX9_luck_0 : decode cX9_luck 0 = .ok (.iload_n 1, 1) := by decide +kernel
theorem dX9_luck_1 : decode cX9_luck 1 = .ok (.i2l, 1) := by decide +kernel
theorem dX9_luck_2 : decode cX9_luck 2 = .ok (.lconst 0, 1) := by decide +kernel
theorem dX9_luck_3 : decode cX9_luck 3 = .ok (.ldc2_w 240, 3) := by decide +kernel
theorem dX9_luck_6 : decode cX9_luck 6 = .ok (.invokestatic 58, 3) := by decide +kernel
theorem dX9_luck_9 : decode cX9_luck 9 = .ok (.ifCond .eq 42, 3) := by decide +kernel
theorem dX9_luck_12 : decode cX9_luck 12 = .ok (.iload_n 2, 1) := by decide +kernel
theorem dX9_luck_13 : decode cX9_luck 13 = .ok (.i2l, 1) := by decide +kernel
theorem dX9_luck_14 : decode cX9_luck 14 = .ok (.lconst 0, 1) := by decide +kernel
theorem dX9_luck_15 : decode cX9_luck 15 = .ok (.aload_n 0, 1) := by decide +kernel
theorem dX9_luck_16 : decode cX9_luck 16 = .ok (.getfield 7, 3) := by decide +kernel
theorem dX9_luck_19 : decode cX9_luck 19 = .ok (.bipush 56, 2) := by decide +kernel
theorem dX9_luck_21 : decode cX9_luck 21 = .ok (.iaload, 1) := by decide +kernel
theorem dX9_luck_22 : decode cX9_luck 22 = .ok (.iconst 1, 1) := by decide +kernel
theorem dX9_luck_23 : decode cX9_luck 23 = .ok (.isub, 1) := by decide +kernel
theorem dX9_luck_24 : decode cX9_luck 24 = .ok (.i2l, 1) := by decide +kernel
theorem dX9_luck_25 : decode cX9_luck 25 = .ok (.invokestatic 58, 3) := by decide +kernel
theorem dX9_luck_28 : decode cX9_luck 28 = .ok (.ifCond .eq 23, 3) := by decide +kernel
theorem dX9_luck_31 : decode cX9_luck 31 = .ok (.iload_n 3, 1) := by decide +kernel
theorem dX9_luck_32 : decode cX9_luck 32 = .ok (.i2l, 1) := by decide +kernel
theorem dX9_luck_33 : decode cX9_luck 33 = .ok (.lconst 0, 1) := by decide +kernel
theorem dX9_luck_34 : decode cX9_luck 34 = .ok (.lconst 1, 1) := by decide +kernel
theorem dX9_luck_35 : decode cX9_luck 35 = .ok (.invokestatic 58, 3) := by decide +kernel
theorem dX9_luck_38 : decode cX9_luck 38 = .ok (.ifCond .eq 13, 3) := by decide +kernel
theorem dX9_luck_41 : decode cX9_luck 41 = .ok (.aload_n 0, 1) := by decide +kernel
theorem dX9_luck_42 : decode cX9_luck 42 = .ok (.iload_n 1, 1) := by decide +kernel
theorem dX9_luck_43 : decode cX9_luck 43 = .ok (.iload_n 2, 1) := by decide +kernel
theorem dX9_luck_44 : decode cX9_luck 44 = .ok (.iload_n 3, 1) := by decide +kernel
theorem dX9_luck_45 : decode cX9_luck 45 = .ok (.invokevirtual 263, 3) := by decide +kernel
theorem dX9_luck_48 : decode cX9_luck 48 = .ok (.goto 6, 3) := by decide +kernel
theorem dX9_luck_51 : decode cX9_luck 51 = .ok (.ldc2_w 267, 3) := by decide +kernel
theorem dX9_luck_54 : decode cX9_luck 54 = .ok (.lreturn, 1) := by decide +kernel
theorem dX9_mean_0 : decode cX9_mean 0 = .ok (.iload_n 1, 1) := by decide +kernel
theorem dX9_mean_1 : decode cX9_mean 1 = .ok (.i2l, 1) := by decide +kernel
theorem dX9_mean_2 : decode cX9_mean 2 = .ok (.lconst 0, 1) := by decide +kernel
theorem dX9_mean_3 : decode cX9_mean 3 = .ok (.ldc2_w 240, 3) := by decide +kernel
theorem dX9_mean_6 : decode cX9_mean 6 = .ok (.invokestatic 58, 3) := by decide +kernel
theorem dX9_mean_9 : decode cX9_mean 9 = .ok (.ifCond .eq 24, 3) := by decide +kernel
theorem dX9_mean_12 : decode cX9_mean 12 = .ok (.iload_n 2, 1) := by decide +kernel
theorem dX9_mean_13 : decode cX9_mean 13 = .ok (.i2l, 1) := by decide +kernel
theorem dX9_mean_14 : decode cX9_mean 14 = .ok (.lconst 0, 1) := by decide +kernel
theorem dX9_mean_15 : decode cX9_mean 15 = .ok (.lconst 1, 1) := by decide +kernel
theorem dX9_mean_16 : decode cX9_mean 16 = .ok (.invokestatic 58, 3) := by decide +kernel
theorem dX9_mean_19 : decode cX9_mean 19 = .ok (.ifCond .eq 14, 3) := by decide +kernel
theorem dX9_mean_22 : decode cX9_mean 22 = .ok (.aload_n 0, 1) := by decide +kernel
theorem dX9_mean_23 : decode cX9_mean 23 = .ok (.iload_n 1, 1) := by decide +kernel
theorem dX9_mean_24 : decode cX9_mean 24 = .ok (.bipush (-4), 2) := by decide +kernel
theorem dX9_mean_26 : decode cX9_mean 26 = .ok (.iload_n 2, 1) := by decide +kernel
theorem dX9_mean_27 : decode cX9_mean 27 = .ok (.invokevirtual 263, 3) := by decide +kernel
theorem dX9_mean_30 : decode cX9_mean 30 = .ok (.goto 6, 3) := by decide +kernel
theorem dX9_mean_33 : decode cX9_mean 33 = .ok (.ldc2_w 267, 3) := by decide +kernel
theorem dX9_mean_36 : decode cX9_mean 36 = .ok (.lreturn, 1) := by decide +kernel
theorem dX9_see_0 : decode cX9_see 0 = .ok (.aload_n 0, 1) := by decide +kernel
theorem dX9_see_1 : decode cX9_see 1 = .ok (.iload_n 1, 1) := by decide +kernel
theorem dX9_see_2 : decode cX9_see 2 = .ok (.invokevirtual 192, 3) := by decide +kernel
theorem dX9_see_5 : decode cX9_see 5 = .ok (.ifCond .eq 37, 3) := by decide +kernel
theorem dX9_see_8 : decode cX9_see 8 = .ok (.iload_n 2, 1) := by decide +kernel
theorem dX9_see_9 : decode cX9_see 9 = .ok (.invokestatic 195, 3) := by decide +kernel
theorem dX9_see_12 : decode cX9_see 12 = .ok (.ifCond .eq 30, 3) := by decide +kernel
theorem dX9_see_15 : decode cX9_see 15 = .ok (.iload_n 3, 1) := by decide +kernel
theorem dX9_see_16 : decode cX9_see 16 = .ok (.invokestatic 198, 3) := by decide +kernel
theorem dX9_see_19 : decode cX9_see 19 = .ok (.ifCond .eq 23, 3) := by decide +kernel
theorem dX9_see_22 : decode cX9_see 22 = .ok (.iload 4, 2) := by decide +kernel
theorem dX9_see_24 : decode cX9_see 24 = .ok (.bipush (-4), 2) := by decide +kernel
theorem dX9_see_26 : decode cX9_see 26 = .ok (.if_icmp .eq 18, 3) := by decide +kernel
theorem dX9_see_29 : decode cX9_see 29 = .ok (.iload 4, 2) := by decide +kernel
theorem dX9_see_31 : decode cX9_see 31 = .ok (.i2l, 1) := by decide +kernel
theorem dX9_see_32 : decode cX9_see 32 = .ok (.lconst 0, 1) := by decide +kernel
theorem dX9_see_33 : decode cX9_see 33 = .ok (.ldc2_w 160, 3) := by decide +kernel
theorem dX9_see_36 : decode cX9_see 36 = .ok (.invokestatic 58, 3) := by decide +kernel
theorem dX9_see_39 : decode cX9_see 39 = .ok (.ifCond .ne 5, 3) := by decide +kernel
theorem dX9_see_42 : decode cX9_see 42 = .ok (.iconst (-1), 1) := by decide +kernel
theorem dX9_see_43 : decode cX9_see 43 = .ok (.ireturn, 1) := by decide +kernel
theorem dX9_see_44 : decode cX9_see 44 = .ok (.aload_n 0, 1) := by decide +kernel
theorem dX9_see_45 : decode cX9_see 45 = .ok (.getfield 157, 3) := by decide +kernel
theorem dX9_see_48 : decode cX9_see 48 = .ok (.bipush 6, 2) := by decide +kernel
theorem dX9_see_50 : decode cX9_see 50 = .ok (.if_icmp .ne 6, 3) := by decide +kernel
theorem dX9_see_53 : decode cX9_see 53 = .ok (.bipush (-3), 2) := by decide +kernel
theorem dX9_see_55 : decode cX9_see 55 = .ok (.ireturn, 1) := by decide +kernel
theorem dX9_see_56 : decode cX9_see 56 = .ok (.aload_n 0, 1) := by decide +kernel
theorem dX9_see_57 : decode cX9_see 57 = .ok (.getfield 37, 3) := by decide +kernel
theorem dX9_see_60 : decode cX9_see 60 = .ok (.iconst 4, 1) := by decide +kernel
theorem dX9_see_61 : decode cX9_see 61 = .ok (.aload_n 0, 1) := by decide +kernel
theorem dX9_see_62 : decode cX9_see 62 = .ok (.getfield 157, 3) := by decide +kernel
theorem dX9_see_65 : decode cX9_see 65 = .ok (.imul, 1) := by decide +kernel
theorem dX9_see_66 : decode cX9_see 66 = .ok (.iload_n 1, 1) := by decide +kernel
theorem dX9_see_67 : decode cX9_see 67 = .ok (.iastore, 1) := by decide +kernel
theorem dX9_see_68 : decode cX9_see 68 = .ok (.aload_n 0, 1) := by decide +kernel
theorem dX9_see_69 : decode cX9_see 69 = .ok (.getfield 37, 3) := by decide +kernel
theorem dX9_see_72 : decode cX9_see 72 = .ok (.iconst 4, 1) := by decide +kernel
theorem dX9_see_73 : decode cX9_see 73 = .ok (.aload_n 0, 1) := by decide +kernel
theorem dX9_see_74 : decode cX9_see 74 = .ok (.getfield 157, 3) := by decide +kernel
theorem dX9_see_77 : decode cX9_see 77 = .ok (.imul, 1) := by decide +kernel
theorem dX9_see_78 : decode cX9_see 78 = .ok (.iconst 1, 1) := by decide +kernel
theorem dX9_see_79 : decode cX9_see 79 = .ok (.iadd, 1) := by decide +kernel
theorem dX9_see_80 : decode cX9_see 80 = .ok (.iload_n 2, 1) := by decide +kernel
theorem dX9_see_81 : decode cX9_see 81 = .ok (.iastore, 1) := by decide +kernel
theorem dX9_see_82 : decode cX9_see 82 = .ok (.aload_n 0, 1) := by decide +kernel
theorem dX9_see_83 : decode cX9_see 83 = .ok (.getfield 37, 3) := by decide +kernel
theorem dX9_see_86 : decode cX9_see 86 = .ok (.iconst 4, 1) := by decide +kernel
theorem dX9_see_87 : decode cX9_see 87 = .ok (.aload_n 0, 1) := by decide +kernel
theorem dX9_see_88 : decode cX9_see 88 = .ok (.getfield 157, 3) := by decide +kernel
theorem dX9_see_91 : decode cX9_see 91 = .ok (.imul, 1) := by decide +kernel
theorem dX9_see_92 : decode cX9_see 92 = .ok (.iconst 2, 1) := by decide +kernel
theorem dX9_see_93 : decode cX9_see 93 = .ok (.iadd, 1) := by decide +kernel
theorem dX9_see_94 : decode cX9_see 94 = .ok (.iload_n 3, 1) := by decide +kernel
theorem dX9_see_95 : decode cX9_see 95 = .ok (.iastore, 1) := by decide +kernel
theorem dX9_see_96 : decode cX9_see 96 = .ok (.aload_n 0, 1) := by decide +kernel
theorem dX9_see_97 : decode cX9_see 97 = .ok (.getfield 37, 3) := by decide +kernel
theorem dX9_see_100 : decode cX9_see 100 = .ok (.iconst 4, 1) := by decide +kernel
theorem dX9_see_101 : decode cX9_see 101 = .ok (.aload_n 0, 1) := by decide +kernel
theorem dX9_see_102 : decode cX9_see 102 = .ok (.getfield 157, 3) := by decide +kernel
theorem dX9_see_105 : decode cX9_see 105 = .ok (.imul, 1) := by decide +kernel
theorem dX9_see_106 : decode cX9_see 106 = .ok (.iconst 3, 1) := by decide +kernel
theorem dX9_see_107 : decode cX9_see 107 = .ok (.iadd, 1) := by decide +kernel
theorem dX9_see_108 : decode cX9_see 108 = .ok (.iload 4, 2) := by decide +kernel
theorem dX9_see_110 : decode cX9_see 110 = .ok (.iastore, 1) := by decide +kernel
theorem dX9_see_111 : decode cX9_see 111 = .ok (.aload_n 0, 1) := by decide +kernel
theorem dX9_see_112 : decode cX9_see 112 = .ok (.dup, 1) := by decide +kernel
theorem dX9_see_113 : decode cX9_see 113 = .ok (.getfield 157, 3) := by decide +kernel
theorem dX9_see_116 : decode cX9_see 116 = .ok (.iconst 1, 1) := by decide +kernel
theorem dX9_see_117 : decode cX9_see 117 = .ok (.iadd, 1) := by decide +kernel
theorem dX9_see_118 : decode cX9_see 118 = .ok (.putfield 157, 3) := by decide +kernel
theorem dX9_see_121 : decode cX9_see 121 = .ok (.aload_n 0, 1) := by decide +kernel
theorem dX9_see_122 : decode cX9_see 122 = .ok (.getfield 157, 3) := by decide +kernel
theorem dX9_see_125 : decode cX9_see 125 = .ok (.ireturn, 1) := by decide +kernel
theorem dX9_forget_0 : decode cX9_forget 0 = .ok (.iload_n 1, 1) := by decide +kernel
theorem dX9_forget_1 : decode cX9_forget 1 = .ok (.i2l, 1) := by decide +kernel
theorem dX9_forget_2 : decode cX9_forget 2 = .ok (.lconst 0, 1) := by decide +kernel
theorem dX9_forget_3 : decode cX9_forget 3 = .ok (.aload_n 0, 1) := by decide +kernel
theorem dX9_forget_4 : decode cX9_forget 4 = .ok (.getfield 157, 3) := by decide +kernel
theorem dX9_forget_7 : decode cX9_forget 7 = .ok (.i2l, 1) := by decide +kernel
theorem dX9_forget_8 : decode cX9_forget 8 = .ok (.invokestatic 58, 3) := by decide +kernel
theorem dX9_forget_11 : decode cX9_forget 11 = .ok (.ifCond .ne 5, 3) := by decide +kernel
theorem dX9_forget_14 : decode cX9_forget 14 = .ok (.iconst (-1), 1) := by decide +kernel
theorem dX9_forget_15 : decode cX9_forget 15 = .ok (.ireturn, 1) := by decide +kernel
theorem dX9_forget_16 : decode cX9_forget 16 = .ok (.aload_n 0, 1) := by decide +kernel
theorem dX9_forget_17 : decode cX9_forget 17 = .ok (.getfield 157, 3) := by decide +kernel
theorem dX9_forget_20 : decode cX9_forget 20 = .ok (.istore_n 2, 1) := by decide +kernel
theorem dX9_forget_21 : decode cX9_forget 21 = .ok (.aload_n 0, 1) := by decide +kernel
theorem dX9_forget_22 : decode cX9_forget 22 = .ok (.iload_n 1, 1) := by decide +kernel
theorem dX9_forget_23 : decode cX9_forget 23 = .ok (.putfield 157, 3) := by decide +kernel
theorem dX9_forget_26 : decode cX9_forget 26 = .ok (.iload_n 2, 1) := by decide +kernel
theorem dX9_forget_27 : decode cX9_forget 27 = .ok (.ireturn, 1) := by decide +kernel
theorem dX9_isAsSeen_0 : decode cX9_isAsSeen 0 = .ok (.iconst 1, 1) := by decide +kernel
theorem dX9_isAsSeen_1 : decode cX9_isAsSeen 1 = .ok (.istore_n 1, 1) := by decide +kernel
theorem dX9_isAsSeen_2 : decode cX9_isAsSeen 2 = .ok (.iconst 0, 1) := by decide +kernel
theorem dX9_isAsSeen_3 : decode cX9_isAsSeen 3 = .ok (.istore_n 2, 1) := by decide +kernel
theorem dX9_isAsSeen_4 : decode cX9_isAsSeen 4 = .ok (.iload_n 2, 1) := by decide +kernel
theorem dX9_isAsSeen_5 : decode cX9_isAsSeen 5 = .ok (.aload_n 0, 1) := by decide +kernel
theorem dX9_isAsSeen_6 : decode cX9_isAsSeen 6 = .ok (.getfield 157, 3) := by decide +kernel
theorem dX9_isAsSeen_9 : decode cX9_isAsSeen 9 = .ok (.if_icmp .ge 72, 3) := by decide +kernel
theorem dX9_isAsSeen_12 : decode cX9_isAsSeen 12 = .ok (.iload_n 1, 1) := by decide +kernel
theorem dX9_isAsSeen_13 : decode cX9_isAsSeen 13 = .ok (.ifCond .eq 60, 3) := by decide +kernel
theorem dX9_isAsSeen_16 : decode cX9_isAsSeen 16 = .ok (.aload_n 0, 1) := by decide +kernel
theorem dX9_isAsSeen_17 : decode cX9_isAsSeen 17 = .ok (.getfield 28, 3) := by decide +kernel
theorem dX9_isAsSeen_20 : decode cX9_isAsSeen 20 = .ok (.bipush 15, 2) := by decide +kernel
theorem dX9_isAsSeen_22 : decode cX9_isAsSeen 22 = .ok (.aload_n 0, 1) := by decide +kernel
theorem dX9_isAsSeen_23 : decode cX9_isAsSeen 23 = .ok (.getfield 37, 3) := by decide +kernel
theorem dX9_isAsSeen_26 : decode cX9_isAsSeen 26 = .ok (.iconst 4, 1) := by decide +kernel
theorem dX9_isAsSeen_27 : decode cX9_isAsSeen 27 = .ok (.iload_n 2, 1) := by decide +kernel
theorem dX9_isAsSeen_28 : decode cX9_isAsSeen 28 = .ok (.imul, 1) := by decide +kernel
theorem dX9_isAsSeen_29 : decode cX9_isAsSeen 29 = .ok (.iconst 2, 1) := by decide +kernel
theorem dX9_isAsSeen_30 : decode cX9_isAsSeen 30 = .ok (.iadd, 1) := by decide +kernel
theorem dX9_isAsSeen_31 : decode cX9_isAsSeen 31 = .ok (.iaload, 1) := by decide +kernel
theorem dX9_isAsSeen_32 : decode cX9_isAsSeen 32 = .ok (.imul, 1) := by decide +kernel
theorem dX9_isAsSeen_33 : decode cX9_isAsSeen 33 = .ok (.iconst 3, 1) := by decide +kernel
theorem dX9_isAsSeen_34 : decode cX9_isAsSeen 34 = .ok (.aload_n 0, 1) := by decide +kernel
theorem dX9_isAsSeen_35 : decode cX9_isAsSeen 35 = .ok (.getfield 37, 3) := by decide +kernel
theorem dX9_isAsSeen_38 : decode cX9_isAsSeen 38 = .ok (.iconst 4, 1) := by decide +kernel
theorem dX9_isAsSeen_39 : decode cX9_isAsSeen 39 = .ok (.iload_n 2, 1) := by decide +kernel
theorem dX9_isAsSeen_40 : decode cX9_isAsSeen 40 = .ok (.imul, 1) := by decide +kernel
theorem dX9_isAsSeen_41 : decode cX9_isAsSeen 41 = .ok (.iaload, 1) := by decide +kernel
theorem dX9_isAsSeen_42 : decode cX9_isAsSeen 42 = .ok (.imul, 1) := by decide +kernel
theorem dX9_isAsSeen_43 : decode cX9_isAsSeen 43 = .ok (.iadd, 1) := by decide +kernel
theorem dX9_isAsSeen_44 : decode cX9_isAsSeen 44 = .ok (.aload_n 0, 1) := by decide +kernel
theorem dX9_isAsSeen_45 : decode cX9_isAsSeen 45 = .ok (.getfield 37, 3) := by decide +kernel
theorem dX9_isAsSeen_48 : decode cX9_isAsSeen 48 = .ok (.iconst 4, 1) := by decide +kernel
theorem dX9_isAsSeen_49 : decode cX9_isAsSeen 49 = .ok (.iload_n 2, 1) := by decide +kernel
theorem dX9_isAsSeen_50 : decode cX9_isAsSeen 50 = .ok (.imul, 1) := by decide +kernel
theorem dX9_isAsSeen_51 : decode cX9_isAsSeen 51 = .ok (.iconst 1, 1) := by decide +kernel
theorem dX9_isAsSeen_52 : decode cX9_isAsSeen 52 = .ok (.iadd, 1) := by decide +kernel
theorem dX9_isAsSeen_53 : decode cX9_isAsSeen 53 = .ok (.iaload, 1) := by decide +kernel
theorem dX9_isAsSeen_54 : decode cX9_isAsSeen 54 = .ok (.iadd, 1) := by decide +kernel
theorem dX9_isAsSeen_55 : decode cX9_isAsSeen 55 = .ok (.iaload, 1) := by decide +kernel
theorem dX9_isAsSeen_56 : decode cX9_isAsSeen 56 = .ok (.aload_n 0, 1) := by decide +kernel
theorem dX9_isAsSeen_57 : decode cX9_isAsSeen 57 = .ok (.getfield 37, 3) := by decide +kernel
theorem dX9_isAsSeen_60 : decode cX9_isAsSeen 60 = .ok (.iconst 4, 1) := by decide +kernel
theorem dX9_isAsSeen_61 : decode cX9_isAsSeen 61 = .ok (.iload_n 2, 1) := by decide +kernel
theorem dX9_isAsSeen_62 : decode cX9_isAsSeen 62 = .ok (.imul, 1) := by decide +kernel
theorem dX9_isAsSeen_63 : decode cX9_isAsSeen 63 = .ok (.iconst 3, 1) := by decide +kernel
theorem dX9_isAsSeen_64 : decode cX9_isAsSeen 64 = .ok (.iadd, 1) := by decide +kernel
theorem dX9_isAsSeen_65 : decode cX9_isAsSeen 65 = .ok (.iaload, 1) := by decide +kernel
theorem dX9_isAsSeen_66 : decode cX9_isAsSeen 66 = .ok (.if_icmp .ne 7, 3) := by decide +kernel
theorem dX9_isAsSeen_69 : decode cX9_isAsSeen 69 = .ok (.iconst 1, 1) := by decide +kernel
theorem dX9_isAsSeen_70 : decode cX9_isAsSeen 70 = .ok (.goto 4, 3) := by decide +kernel
theorem dX9_isAsSeen_73 : decode cX9_isAsSeen 73 = .ok (.iconst 0, 1) := by decide +kernel
theorem dX9_isAsSeen_74 : decode cX9_isAsSeen 74 = .ok (.istore_n 1, 1) := by decide +kernel
theorem dX9_isAsSeen_75 : decode cX9_isAsSeen 75 = .ok (.iinc 2 1, 3) := by decide +kernel
theorem dX9_isAsSeen_78 : decode cX9_isAsSeen 78 = .ok (.goto (-74), 3) := by decide +kernel
theorem dX9_isAsSeen_81 : decode cX9_isAsSeen 81 = .ok (.iload_n 1, 1) := by decide +kernel
theorem dX9_isAsSeen_82 : decode cX9_isAsSeen 82 = .ok (.ireturn, 1) := by decide +kernel
theorem dX9_mayHave_0 : decode cX9_mayHave 0 = .ok (.iconst 0, 1) := by decide +kernel
theorem dX9_mayHave_1 : decode cX9_mayHave 1 = .ok (.istore_n 2, 1) := by decide +kernel
theorem dX9_mayHave_2 : decode cX9_mayHave 2 = .ok (.aload_n 0, 1) := by decide +kernel
theorem dX9_mayHave_3 : decode cX9_mayHave 3 = .ok (.getfield 7, 3) := by decide +kernel
theorem dX9_mayHave_6 : decode cX9_mayHave 6 = .ok (.bipush 26, 2) := by decide +kernel
theorem dX9_mayHave_8 : decode cX9_mayHave 8 = .ok (.iload_n 1, 1) := by decide +kernel
theorem dX9_mayHave_9 : decode cX9_mayHave 9 = .ok (.iadd, 1) := by decide +kernel
theorem dX9_mayHave_10 : decode cX9_mayHave 10 = .ok (.iaload, 1) := by decide +kernel
theorem dX9_mayHave_11 : decode cX9_mayHave 11 = .ok (.istore_n 3, 1) := by decide +kernel
theorem dX9_mayHave_12 : decode cX9_mayHave 12 = .ok (.iconst 0, 1) := by decide +kernel
theorem dX9_mayHave_13 : decode cX9_mayHave 13 = .ok (.istore 4, 2) := by decide +kernel
theorem dX9_mayHave_15 : decode cX9_mayHave 15 = .ok (.iload 4, 2) := by decide +kernel
theorem dX9_mayHave_17 : decode cX9_mayHave 17 = .ok (.iconst 5, 1) := by decide +kernel
theorem dX9_mayHave_18 : decode cX9_mayHave 18 = .ok (.if_icmp .gt 103, 3) := by decide +kernel
theorem dX9_mayHave_21 : decode cX9_mayHave 21 = .ok (.aload_n 0, 1) := by decide +kernel
theorem dX9_mayHave_22 : decode cX9_mayHave 22 = .ok (.iload 4, 2) := by decide +kernel
theorem dX9_mayHave_24 : decode cX9_mayHave 24 = .ok (.invokevirtual 233, 3) := by decide +kernel
theorem dX9_mayHave_27 : decode cX9_mayHave 27 = .ok (.ifCond .eq 88, 3) := by decide +kernel
theorem dX9_mayHave_30 : decode cX9_mayHave 30 = .ok (.aload_n 0, 1) := by decide +kernel
theorem dX9_mayHave_31 : decode cX9_mayHave 31 = .ok (.getfield 7, 3) := by decide +kernel
theorem dX9_mayHave_34 : decode cX9_mayHave 34 = .ok (.bipush 26, 2) := by decide +kernel
theorem dX9_mayHave_36 : decode cX9_mayHave 36 = .ok (.iload_n 1, 1) := by decide +kernel
theorem dX9_mayHave_37 : decode cX9_mayHave 37 = .ok (.iadd, 1) := by decide +kernel
theorem dX9_mayHave_38 : decode cX9_mayHave 38 = .ok (.iload 4, 2) := by decide +kernel
theorem dX9_mayHave_40 : decode cX9_mayHave 40 = .ok (.iconst 5, 1) := by decide +kernel
theorem dX9_mayHave_41 : decode cX9_mayHave 41 = .ok (.if_icmp .ne 7, 3) := by decide +kernel
theorem dX9_mayHave_44 : decode cX9_mayHave 44 = .ok (.iconst 0, 1) := by decide +kernel
theorem dX9_mayHave_45 : decode cX9_mayHave 45 = .ok (.goto 7, 3) := by decide +kernel
theorem dX9_mayHave_48 : decode cX9_mayHave 48 = .ok (.iload 4, 2) := by decide +kernel
theorem dX9_mayHave_50 : decode cX9_mayHave 50 = .ok (.iconst 1, 1) := by decide +kernel
theorem dX9_mayHave_51 : decode cX9_mayHave 51 = .ok (.iadd, 1) := by decide +kernel
theorem dX9_mayHave_52 : decode cX9_mayHave 52 = .ok (.iastore, 1) := by decide +kernel
theorem dX9_mayHave_53 : decode cX9_mayHave 53 = .ok (.aload_n 0, 1) := by decide +kernel
theorem dX9_mayHave_54 : decode cX9_mayHave 54 = .ok (.invokevirtual 224, 3) := by decide +kernel
theorem dX9_mayHave_57 : decode cX9_mayHave 57 = .ok (.iload_n 2, 1) := by decide +kernel
theorem dX9_mayHave_58 : decode cX9_mayHave 58 = .ok (.aload_n 0, 1) := by decide +kernel
theorem dX9_mayHave_59 : decode cX9_mayHave 59 = .ok (.invokevirtual 269, 3) := by decide +kernel
theorem dX9_mayHave_62 : decode cX9_mayHave 62 = .ok (.ifCond .eq 10, 3) := by decide +kernel
theorem dX9_mayHave_65 : decode cX9_mayHave 65 = .ok (.iconst 1, 1) := by decide +kernel
theorem dX9_mayHave_66 : decode cX9_mayHave 66 = .ok (.iload 4, 2) := by decide +kernel
theorem dX9_mayHave_68 : decode cX9_mayHave 68 = .ok (.ishl, 1) := by decide +kernel
theorem dX9_mayHave_69 : decode cX9_mayHave 69 = .ok (.goto 4, 3) := by decide +kernel
theorem dX9_mayHave_72 : decode cX9_mayHave 72 = .ok (.iconst 0, 1) := by decide +kernel
theorem dX9_mayHave_73 : decode cX9_mayHave 73 = .ok (.ior, 1) := by decide +kernel
theorem dX9_mayHave_74 : decode cX9_mayHave 74 = .ok (.istore_n 2, 1) := by decide +kernel
theorem dX9_mayHave_75 : decode cX9_mayHave 75 = .ok (.iconst 0, 1) := by decide +kernel
theorem dX9_mayHave_76 : decode cX9_mayHave 76 = .ok (.istore 5, 2) := by decide +kernel
theorem dX9_mayHave_78 : decode cX9_mayHave 78 = .ok (.iload 5, 2) := by decide +kernel
theorem dX9_mayHave_80 : decode cX9_mayHave 80 = .ok (.bipush 15, 2) := by decide +kernel
theorem dX9_mayHave_82 : decode cX9_mayHave 82 = .ok (.if_icmp .ge 33, 3) := by decide +kernel
theorem dX9_mayHave_85 : decode cX9_mayHave 85 = .ok (.aload_n 0, 1) := by decide +kernel
theorem dX9_mayHave_86 : decode cX9_mayHave 86 = .ok (.getfield 40, 3) := by decide +kernel
theorem dX9_mayHave_89 : decode cX9_mayHave 89 = .ok (.bipush 15, 2) := by decide +kernel
theorem dX9_mayHave_91 : decode cX9_mayHave 91 = .ok (.iload 4, 2) := by decide +kernel
theorem dX9_mayHave_93 : decode cX9_mayHave 93 = .ok (.imul, 1) := by decide +kernel
theorem dX9_mayHave_94 : decode cX9_mayHave 94 = .ok (.iload 5, 2) := by decide +kernel
theorem dX9_mayHave_96 : decode cX9_mayHave 96 = .ok (.iadd, 1) := by decide +kernel
theorem dX9_mayHave_97 : decode cX9_mayHave 97 = .ok (.aload_n 0, 1) := by decide +kernel
theorem dX9_mayHave_98 : decode cX9_mayHave 98 = .ok (.getfield 28, 3) := by decide +kernel
theorem dX9_mayHave_101 : decode cX9_mayHave 101 = .ok (.sipush 135, 3) := by decide +kernel
theorem dX9_mayHave_104 : decode cX9_mayHave 104 = .ok (.iload 5, 2) := by decide +kernel
theorem dX9_mayHave_106 : decode cX9_mayHave 106 = .ok (.iadd, 1) := by decide +kernel
theorem dX9_mayHave_107 : decode cX9_mayHave 107 = .ok (.iaload, 1) := by decide +kernel
theorem dX9_mayHave_108 : decode cX9_mayHave 108 = .ok (.iastore, 1) := by decide +kernel
theorem dX9_mayHave_109 : decode cX9_mayHave 109 = .ok (.iinc 5 1, 3) := by decide +kernel
theorem dX9_mayHave_112 : decode cX9_mayHave 112 = .ok (.goto (-34), 3) := by decide +kernel
theorem dX9_mayHave_115 : decode cX9_mayHave 115 = .ok (.iinc 4 1, 3) := by decide +kernel
theorem dX9_mayHave_118 : decode cX9_mayHave 118 = .ok (.goto (-103), 3) := by decide +kernel
theorem dX9_mayHave_121 : decode cX9_mayHave 121 = .ok (.aload_n 0, 1) := by decide +kernel
theorem dX9_mayHave_122 : decode cX9_mayHave 122 = .ok (.getfield 7, 3) := by decide +kernel
theorem dX9_mayHave_125 : decode cX9_mayHave 125 = .ok (.bipush 26, 2) := by decide +kernel
theorem dX9_mayHave_127 : decode cX9_mayHave 127 = .ok (.iload_n 1, 1) := by decide +kernel
theorem dX9_mayHave_128 : decode cX9_mayHave 128 = .ok (.iadd, 1) := by decide +kernel
theorem dX9_mayHave_129 : decode cX9_mayHave 129 = .ok (.iload_n 3, 1) := by decide +kernel
theorem dX9_mayHave_130 : decode cX9_mayHave 130 = .ok (.iastore, 1) := by decide +kernel
theorem dX9_mayHave_131 : decode cX9_mayHave 131 = .ok (.iload_n 2, 1) := by decide +kernel
theorem dX9_mayHave_132 : decode cX9_mayHave 132 = .ok (.ireturn, 1) := by decide +kernel
theorem dX9_may_0 : decode cX9_may 0 = .ok (.iload_n 1, 1) := by decide +kernel
theorem dX9_may_1 : decode cX9_may 1 = .ok (.invokestatic 198, 3) := by decide +kernel
theorem dX9_may_4 : decode cX9_may 4 = .ok (.ifCond .eq 11, 3) := by decide +kernel
theorem dX9_may_7 : decode cX9_may 7 = .ok (.aload_n 0, 1) := by decide +kernel
theorem dX9_may_8 : decode cX9_may 8 = .ok (.iload_n 1, 1) := by decide +kernel
theorem dX9_may_9 : decode cX9_may 9 = .ok (.invokevirtual 273, 3) := by decide +kernel
theorem dX9_may_12 : decode cX9_may 12 = .ok (.goto 4, 3) := by decide +kernel
theorem dX9_may_15 : decode cX9_may 15 = .ok (.iconst (-1), 1) := by decide +kernel
theorem dX9_may_16 : decode cX9_may 16 = .ok (.ireturn, 1) := by decide +kernel
theorem dX9_ask_0 : decode cX9_ask 0 = .ok (.iload_n 1, 1) := by decide +kernel
theorem dX9_ask_1 : decode cX9_ask 1 = .ok (.invokestatic 198, 3) := by decide +kernel
theorem dX9_ask_4 : decode cX9_ask 4 = .ok (.ifCond .eq 13, 3) := by decide +kernel
theorem dX9_ask_7 : decode cX9_ask 7 = .ok (.iload_n 2, 1) := by decide +kernel
theorem dX9_ask_8 : decode cX9_ask 8 = .ok (.i2l, 1) := by decide +kernel
theorem dX9_ask_9 : decode cX9_ask 9 = .ok (.lconst 0, 1) := by decide +kernel
theorem dX9_ask_10 : decode cX9_ask 10 = .ok (.lconst 1, 1) := by decide +kernel
theorem dX9_ask_11 : decode cX9_ask 11 = .ok (.invokestatic 58, 3) := by decide +kernel
theorem dX9_ask_14 : decode cX9_ask 14 = .ok (.ifCond .ne 5, 3) := by decide +kernel
theorem dX9_ask_17 : decode cX9_ask 17 = .ok (.iconst (-1), 1) := by decide +kernel
theorem dX9_ask_18 : decode cX9_ask 18 = .ok (.ireturn, 1) := by decide +kernel
theorem dX9_ask_19 : decode cX9_ask 19 = .ok (.aload_n 0, 1) := by decide +kernel
theorem dX9_ask_20 : decode cX9_ask 20 = .ok (.iload_n 1, 1) := by decide +kernel
theorem dX9_ask_21 : decode cX9_ask 21 = .ok (.invokevirtual 273, 3) := by decide +kernel
theorem dX9_ask_24 : decode cX9_ask 24 = .ok (.istore_n 3, 1) := by decide +kernel
theorem dX9_ask_25 : decode cX9_ask 25 = .ok (.iload_n 3, 1) := by decide +kernel
theorem dX9_ask_26 : decode cX9_ask 26 = .ok (.invokestatic 250, 3) := by decide +kernel
theorem dX9_ask_29 : decode cX9_ask 29 = .ok (.istore 4, 2) := by decide +kernel
theorem dX9_ask_31 : decode cX9_ask 31 = .ok (.bipush (-4), 2) := by decide +kernel
theorem dX9_ask_33 : decode cX9_ask 33 = .ok (.istore 5, 2) := by decide +kernel
theorem dX9_ask_35 : decode cX9_ask 35 = .ok (.iconst 0, 1) := by decide +kernel
theorem dX9_ask_36 : decode cX9_ask 36 = .ok (.istore 6, 2) := by decide +kernel
theorem dX9_ask_38 : decode cX9_ask 38 = .ok (.iload 6, 2) := by decide +kernel
theorem dX9_ask_40 : decode cX9_ask 40 = .ok (.iconst 3, 1) := by decide +kernel
theorem dX9_ask_41 : decode cX9_ask 41 = .ok (.aload_n 0, 1) := by decide +kernel
theorem dX9_ask_42 : decode cX9_ask 42 = .ok (.getfield 154, 3) := by decide +kernel
theorem dX9_ask_45 : decode cX9_ask 45 = .ok (.imul, 1) := by decide +kernel
theorem dX9_ask_46 : decode cX9_ask 46 = .ok (.if_icmp .ge 162, 3) := by decide +kernel
theorem dX9_ask_49 : decode cX9_ask 49 = .ok (.iconst 0, 1) := by decide +kernel
theorem dX9_ask_50 : decode cX9_ask 50 = .ok (.istore 7, 2) := by decide +kernel
theorem dX9_ask_52 : decode cX9_ask 52 = .ok (.iconst 0, 1) := by decide +kernel
theorem dX9_ask_53 : decode cX9_ask 53 = .ok (.istore 8, 2) := by decide +kernel
theorem dX9_ask_55 : decode cX9_ask 55 = .ok (.iload 8, 2) := by decide +kernel
theorem dX9_ask_57 : decode cX9_ask 57 = .ok (.iconst 5, 1) := by decide +kernel
theorem dX9_ask_58 : decode cX9_ask 58 = .ok (.if_icmp .gt 102, 3) := by decide +kernel
theorem dX9_ask_61 : decode cX9_ask 61 = .ok (.iconst 0, 1) := by decide +kernel
theorem dX9_ask_62 : decode cX9_ask 62 = .ok (.istore 9, 2) := by decide +kernel
theorem dX9_ask_64 : decode cX9_ask 64 = .ok (.iconst 0, 1) := by decide +kernel
theorem dX9_ask_65 : decode cX9_ask 65 = .ok (.istore 10, 2) := by decide +kernel
theorem dX9_ask_67 : decode cX9_ask 67 = .ok (.iload 10, 2) := by decide +kernel
theorem dX9_ask_69 : decode cX9_ask 69 = .ok (.iconst 5, 1) := by decide +kernel
theorem dX9_ask_70 : decode cX9_ask 70 = .ok (.if_icmp .gt 68, 3) := by decide +kernel
theorem dX9_ask_73 : decode cX9_ask 73 = .ok (.iload_n 3, 1) := by decide +kernel
theorem dX9_ask_74 : decode cX9_ask 74 = .ok (.iload 8, 2) := by decide +kernel
theorem dX9_ask_76 : decode cX9_ask 76 = .ok (.ishr, 1) := by decide +kernel
theorem dX9_ask_77 : decode cX9_ask 77 = .ok (.iconst 1, 1) := by decide +kernel
theorem dX9_ask_78 : decode cX9_ask 78 = .ok (.iand, 1) := by decide +kernel
theorem dX9_ask_79 : decode cX9_ask 79 = .ok (.iconst 1, 1) := by decide +kernel
theorem dX9_ask_80 : decode cX9_ask 80 = .ok (.if_icmp .ne 58, 3) := by decide +kernel
theorem dX9_ask_83 : decode cX9_ask 83 = .ok (.iload 9, 2) := by decide +kernel
theorem dX9_ask_85 : decode cX9_ask 85 = .ok (.iload_n 3, 1) := by decide +kernel
theorem dX9_ask_86 : decode cX9_ask 86 = .ok (.iload 10, 2) := by decide +kernel
theorem dX9_ask_88 : decode cX9_ask 88 = .ok (.ishr, 1) := by decide +kernel
theorem dX9_ask_89 : decode cX9_ask 89 = .ok (.iconst 1, 1) := by decide +kernel
theorem dX9_ask_90 : decode cX9_ask 90 = .ok (.iand, 1) := by decide +kernel
theorem dX9_ask_91 : decode cX9_ask 91 = .ok (.iconst 1, 1) := by decide +kernel
theorem dX9_ask_92 : decode cX9_ask 92 = .ok (.if_icmp .ne 36, 3) := by decide +kernel
theorem dX9_ask_95 : decode cX9_ask 95 = .ok (.aload_n 0, 1) := by decide +kernel
theorem dX9_ask_96 : decode cX9_ask 96 = .ok (.getfield 40, 3) := by decide +kernel
theorem dX9_ask_99 : decode cX9_ask 99 = .ok (.bipush 15, 2) := by decide +kernel
theorem dX9_ask_101 : decode cX9_ask 101 = .ok (.iload 8, 2) := by decide +kernel
theorem dX9_ask_103 : decode cX9_ask 103 = .ok (.imul, 1) := by decide +kernel
theorem dX9_ask_104 : decode cX9_ask 104 = .ok (.iload 6, 2) := by decide +kernel
theorem dX9_ask_106 : decode cX9_ask 106 = .ok (.iadd, 1) := by decide +kernel
theorem dX9_ask_107 : decode cX9_ask 107 = .ok (.iaload, 1) := by decide +kernel
theorem dX9_ask_108 : decode cX9_ask 108 = .ok (.aload_n 0, 1) := by decide +kernel
theorem dX9_ask_109 : decode cX9_ask 109 = .ok (.getfield 40, 3) := by decide +kernel
theorem dX9_ask_112 : decode cX9_ask 112 = .ok (.bipush 15, 2) := by decide +kernel
theorem dX9_ask_114 : decode cX9_ask 114 = .ok (.iload 10, 2) := by decide +kernel
theorem dX9_ask_116 : decode cX9_ask 116 = .ok (.imul, 1) := by decide +kernel
theorem dX9_ask_117 : decode cX9_ask 117 = .ok (.iload 6, 2) := by decide +kernel
theorem dX9_ask_119 : decode cX9_ask 119 = .ok (.iadd, 1) := by decide +kernel
theorem dX9_ask_120 : decode cX9_ask 120 = .ok (.iaload, 1) := by decide +kernel
theorem dX9_ask_121 : decode cX9_ask 121 = .ok (.if_icmp .ne 7, 3) := by decide +kernel
theorem dX9_ask_124 : decode cX9_ask 124 = .ok (.iconst 1, 1) := by decide +kernel
theorem dX9_ask_125 : decode cX9_ask 125 = .ok (.goto 4, 3) := by decide +kernel
theorem dX9_ask_128 : decode cX9_ask 128 = .ok (.iconst 0, 1) := by decide +kernel
theorem dX9_ask_129 : decode cX9_ask 129 = .ok (.iadd, 1) := by decide +kernel
theorem dX9_ask_130 : decode cX9_ask 130 = .ok (.istore 9, 2) := by decide +kernel
theorem dX9_ask_132 : decode cX9_ask 132 = .ok (.iinc 10 1, 3) := by decide +kernel
theorem dX9_ask_135 : decode cX9_ask 135 = .ok (.goto (-68), 3) := by decide +kernel
theorem dX9_ask_138 : decode cX9_ask 138 = .ok (.iload 9, 2) := by decide +kernel
theorem dX9_ask_140 : decode cX9_ask 140 = .ok (.iload 7, 2) := by decide +kernel
theorem dX9_ask_142 : decode cX9_ask 142 = .ok (.if_icmp .le 8, 3) := by decide +kernel
theorem dX9_ask_145 : decode cX9_ask 145 = .ok (.iload 9, 2) := by decide +kernel
theorem dX9_ask_147 : decode cX9_ask 147 = .ok (.goto 5, 3) := by decide +kernel
theorem dX9_ask_150 : decode cX9_ask 150 = .ok (.iload 7, 2) := by decide +kernel
theorem dX9_ask_152 : decode cX9_ask 152 = .ok (.istore 7, 2) := by decide +kernel
theorem dX9_ask_154 : decode cX9_ask 154 = .ok (.iinc 8 1, 3) := by decide +kernel
theorem dX9_ask_157 : decode cX9_ask 157 = .ok (.goto (-102), 3) := by decide +kernel
theorem dX9_ask_160 : decode cX9_ask 160 = .ok (.iload 7, 2) := by decide +kernel
theorem dX9_ask_162 : decode cX9_ask 162 = .ok (.iload 4, 2) := by decide +kernel
theorem dX9_ask_164 : decode cX9_ask 164 = .ok (.if_icmp .ge 18, 3) := by decide +kernel
theorem dX9_ask_167 : decode cX9_ask 167 = .ok (.bipush 10, 2) := by decide +kernel
theorem dX9_ask_169 : decode cX9_ask 169 = .ok (.iload 6, 2) := by decide +kernel
theorem dX9_ask_171 : decode cX9_ask 171 = .ok (.iconst 3, 1) := by decide +kernel
theorem dX9_ask_172 : decode cX9_ask 172 = .ok (.idiv, 1) := by decide +kernel
theorem dX9_ask_173 : decode cX9_ask 173 = .ok (.imul, 1) := by decide +kernel
theorem dX9_ask_174 : decode cX9_ask 174 = .ok (.iload 6, 2) := by decide +kernel
theorem dX9_ask_176 : decode cX9_ask 176 = .ok (.iconst 3, 1) := by decide +kernel
theorem dX9_ask_177 : decode cX9_ask 177 = .ok (.irem, 1) := by decide +kernel
theorem dX9_ask_178 : decode cX9_ask 178 = .ok (.iadd, 1) := by decide +kernel
theorem dX9_ask_179 : decode cX9_ask 179 = .ok (.goto 5, 3) := by decide +kernel
theorem dX9_ask_182 : decode cX9_ask 182 = .ok (.iload 5, 2) := by decide +kernel
theorem dX9_ask_184 : decode cX9_ask 184 = .ok (.istore 5, 2) := by decide +kernel
theorem dX9_ask_186 : decode cX9_ask 186 = .ok (.iload 7, 2) := by decide +kernel
theorem dX9_ask_188 : decode cX9_ask 188 = .ok (.iload 4, 2) := by decide +kernel
theorem dX9_ask_190 : decode cX9_ask 190 = .ok (.if_icmp .ge 8, 3) := by decide +kernel
theorem dX9_ask_193 : decode cX9_ask 193 = .ok (.iload 7, 2) := by decide +kernel
theorem dX9_ask_195 : decode cX9_ask 195 = .ok (.goto 5, 3) := by decide +kernel
theorem dX9_ask_198 : decode cX9_ask 198 = .ok (.iload 4, 2) := by decide +kernel
theorem dX9_ask_200 : decode cX9_ask 200 = .ok (.istore 4, 2) := by decide +kernel
theorem dX9_ask_202 : decode cX9_ask 202 = .ok (.iinc 6 1, 3) := by decide +kernel
theorem dX9_ask_205 : decode cX9_ask 205 = .ok (.goto (-167), 3) := by decide +kernel
theorem dX9_ask_208 : decode cX9_ask 208 = .ok (.iload 5, 2) := by decide +kernel
theorem dX9_ask_210 : decode cX9_ask 210 = .ok (.bipush (-4), 2) := by decide +kernel
theorem dX9_ask_212 : decode cX9_ask 212 = .ok (.if_icmp .eq 7, 3) := by decide +kernel
theorem dX9_ask_215 : decode cX9_ask 215 = .ok (.iload_n 2, 1) := by decide +kernel
theorem dX9_ask_216 : decode cX9_ask 216 = .ok (.ifCond .ne 8, 3) := by decide +kernel
theorem dX9_ask_219 : decode cX9_ask 219 = .ok (.iload 5, 2) := by decide +kernel
theorem dX9_ask_221 : decode cX9_ask 221 = .ok (.goto 5, 3) := by decide +kernel
theorem dX9_ask_224 : decode cX9_ask 224 = .ok (.iload 4, 2) := by decide +kernel
theorem dX9_ask_226 : decode cX9_ask 226 = .ok (.ireturn, 1) := by decide +kernel
theorem dX9_draws_0 : decode cX9_draws 0 = .ok (.aload_n 0, 1) := by decide +kernel
theorem dX9_draws_1 : decode cX9_draws 1 = .ok (.aload_n 0, 1) := by decide +kernel
theorem dX9_draws_2 : decode cX9_draws 2 = .ok (.getfield 276, 3) := by decide +kernel
theorem dX9_draws_5 : decode cX9_draws 5 = .ok (.ldc_w 279, 3) := by decide +kernel
theorem dX9_draws_8 : decode cX9_draws 8 = .ok (.imul, 1) := by decide +kernel
theorem dX9_draws_9 : decode cX9_draws 9 = .ok (.sipush 12345, 3) := by decide +kernel
theorem dX9_draws_12 : decode cX9_draws 12 = .ok (.iadd, 1) := by decide +kernel
theorem dX9_draws_13 : decode cX9_draws 13 = .ok (.putfield 276, 3) := by decide +kernel
theorem dX9_draws_16 : decode cX9_draws 16 = .ok (.aload_n 0, 1) := by decide +kernel
theorem dX9_draws_17 : decode cX9_draws 17 = .ok (.getfield 276, 3) := by decide +kernel
theorem dX9_draws_20 : decode cX9_draws 20 = .ok (.bipush 16, 2) := by decide +kernel
theorem dX9_draws_22 : decode cX9_draws 22 = .ok (.ishr, 1) := by decide +kernel
theorem dX9_draws_23 : decode cX9_draws 23 = .ok (.sipush 32767, 3) := by decide +kernel
theorem dX9_draws_26 : decode cX9_draws 26 = .ok (.iand, 1) := by decide +kernel
theorem dX9_draws_27 : decode cX9_draws 27 = .ok (.iload_n 1, 1) := by decide +kernel
theorem dX9_draws_28 : decode cX9_draws 28 = .ok (.irem, 1) := by decide +kernel
theorem dX9_draws_29 : decode cX9_draws 29 = .ok (.ireturn, 1) := by decide +kernel
theorem dX9_copies_0 : decode cX9_copies 0 = .ok (.iconst 0, 1) := by decide +kernel
theorem dX9_copies_1 : decode cX9_copies 1 = .ok (.istore_n 3, 1) := by decide +kernel
theorem dX9_copies_2 : decode cX9_copies 2 = .ok (.iload_n 3, 1) := by decide +kernel
theorem dX9_copies_3 : decode cX9_copies 3 = .ok (.bipush 74, 2) := by decide +kernel
theorem dX9_copies_5 : decode cX9_copies 5 = .ok (.if_icmp .ge 25, 3) := by decide +kernel
theorem dX9_copies_8 : decode cX9_copies 8 = .ok (.aload_n 0, 1) := by decide +kernel
theorem dX9_copies_9 : decode cX9_copies 9 = .ok (.getfield 7, 3) := by decide +kernel
theorem dX9_copies_12 : decode cX9_copies 12 = .ok (.iload_n 2, 1) := by decide +kernel
theorem dX9_copies_13 : decode cX9_copies 13 = .ok (.iload_n 3, 1) := by decide +kernel
theorem dX9_copies_14 : decode cX9_copies 14 = .ok (.iadd, 1) := by decide +kernel
theorem dX9_copies_15 : decode cX9_copies 15 = .ok (.aload_n 0, 1) := by decide +kernel
theorem dX9_copies_16 : decode cX9_copies 16 = .ok (.getfield 7, 3) := by decide +kernel
theorem dX9_copies_19 : decode cX9_copies 19 = .ok (.iload_n 1, 1) := by decide +kernel
theorem dX9_copies_20 : decode cX9_copies 20 = .ok (.iload_n 3, 1) := by decide +kernel
theorem dX9_copies_21 : decode cX9_copies 21 = .ok (.iadd, 1) := by decide +kernel
theorem dX9_copies_22 : decode cX9_copies 22 = .ok (.iaload, 1) := by decide +kernel
theorem dX9_copies_23 : decode cX9_copies 23 = .ok (.iastore, 1) := by decide +kernel
theorem dX9_copies_24 : decode cX9_copies 24 = .ok (.iinc 3 1, 3) := by decide +kernel
theorem dX9_copies_27 : decode cX9_copies 27 = .ok (.goto (-25), 3) := by decide +kernel
theorem dX9_copies_30 : decode cX9_copies 30 = .ok (.return_, 1) := by decide +kernel
theorem dX9_drift_0 : decode cX9_drift 0 = .ok (.iload_n 2, 1) := by decide +kernel
theorem dX9_drift_1 : decode cX9_drift 1 = .ok (.i2l, 1) := by decide +kernel
theorem dX9_drift_2 : decode cX9_drift 2 = .ok (.lconst 1, 1) := by decide +kernel
theorem dX9_drift_3 : decode cX9_drift 3 = .ok (.ldc2_w 280, 3) := by decide +kernel
theorem dX9_drift_6 : decode cX9_drift 6 = .ok (.invokestatic 58, 3) := by decide +kernel
theorem dX9_drift_9 : decode cX9_drift 9 = .ok (.ifCond .eq 13, 3) := by decide +kernel
theorem dX9_drift_12 : decode cX9_drift 12 = .ok (.iload_n 3, 1) := by decide +kernel
theorem dX9_drift_13 : decode cX9_drift 13 = .ok (.i2l, 1) := by decide +kernel
theorem dX9_drift_14 : decode cX9_drift 14 = .ok (.lconst 0, 1) := by decide +kernel
theorem dX9_drift_15 : decode cX9_drift 15 = .ok (.lconst 1, 1) := by decide +kernel
theorem dX9_drift_16 : decode cX9_drift 16 = .ok (.invokestatic 58, 3) := by decide +kernel
theorem dX9_drift_19 : decode cX9_drift 19 = .ok (.ifCond .ne 5, 3) := by decide +kernel
theorem dX9_drift_22 : decode cX9_drift 22 = .ok (.iconst (-1), 1) := by decide +kernel
theorem dX9_drift_23 : decode cX9_drift 23 = .ok (.ireturn, 1) := by decide +kernel
theorem dX9_drift_24 : decode cX9_drift 24 = .ok (.aload_n 0, 1) := by decide +kernel
theorem dX9_drift_25 : decode cX9_drift 25 = .ok (.getfield 154, 3) := by decide +kernel
theorem dX9_drift_28 : decode cX9_drift 28 = .ok (.ifCond .ne 6, 3) := by decide +kernel
theorem dX9_drift_31 : decode cX9_drift 31 = .ok (.bipush (-2), 2) := by decide +kernel
theorem dX9_drift_33 : decode cX9_drift 33 = .ok (.ireturn, 1) := by decide +kernel
theorem dX9_drift_34 : decode cX9_drift 34 = .ok (.aload_n 0, 1) := by decide +kernel
theorem dX9_drift_35 : decode cX9_drift 35 = .ok (.iconst 0, 1) := by decide +kernel
theorem dX9_drift_36 : decode cX9_drift 36 = .ok (.sipush 222, 3) := by decide +kernel
theorem dX9_drift_39 : decode cX9_drift 39 = .ok (.invokevirtual 282, 3) := by decide +kernel
theorem dX9_drift_42 : decode cX9_drift 42 = .ok (.aload_n 0, 1) := by decide +kernel
theorem dX9_drift_43 : decode cX9_drift 43 = .ok (.iload_n 1, 1) := by decide +kernel
theorem dX9_drift_44 : decode cX9_drift 44 = .ok (.putfield 276, 3) := by decide +kernel
theorem dX9_drift_47 : decode cX9_drift 47 = .ok (.iconst 0, 1) := by decide +kernel
theorem dX9_drift_48 : decode cX9_drift 48 = .ok (.istore 4, 2) := by decide +kernel
theorem dX9_drift_50 : decode cX9_drift 50 = .ok (.iconst 0, 1) := by decide +kernel
theorem dX9_drift_51 : decode cX9_drift 51 = .ok (.istore 5, 2) := by decide +kernel
theorem dX9_drift_53 : decode cX9_drift 53 = .ok (.iload 5, 2) := by decide +kernel
theorem dX9_drift_55 : decode cX9_drift 55 = .ok (.iload_n 2, 1) := by decide +kernel
theorem dX9_drift_56 : decode cX9_drift 56 = .ok (.if_icmp .ge 65, 3) := by decide +kernel
theorem dX9_drift_59 : decode cX9_drift 59 = .ok (.aload_n 0, 1) := by decide +kernel
theorem dX9_drift_60 : decode cX9_drift 60 = .ok (.bipush 10, 2) := by decide +kernel
theorem dX9_drift_62 : decode cX9_drift 62 = .ok (.invokevirtual 286, 3) := by decide +kernel
theorem dX9_drift_65 : decode cX9_drift 65 = .ok (.istore 6, 2) := by decide +kernel
theorem dX9_drift_67 : decode cX9_drift 67 = .ok (.aload_n 0, 1) := by decide +kernel
theorem dX9_drift_68 : decode cX9_drift 68 = .ok (.aload_n 0, 1) := by decide +kernel
theorem dX9_drift_69 : decode cX9_drift 69 = .ok (.getfield 154, 3) := by decide +kernel
theorem dX9_drift_72 : decode cX9_drift 72 = .ok (.iconst 1, 1) := by decide +kernel
theorem dX9_drift_73 : decode cX9_drift 73 = .ok (.iadd, 1) := by decide +kernel
theorem dX9_drift_74 : decode cX9_drift 74 = .ok (.invokevirtual 286, 3) := by decide +kernel
theorem dX9_drift_77 : decode cX9_drift 77 = .ok (.istore 7, 2) := by decide +kernel
theorem dX9_drift_79 : decode cX9_drift 79 = .ok (.aload_n 0, 1) := by decide +kernel
theorem dX9_drift_80 : decode cX9_drift 80 = .ok (.getfield 7, 3) := by decide +kernel
theorem dX9_drift_83 : decode cX9_drift 83 = .ok (.bipush 26, 2) := by decide +kernel
theorem dX9_drift_85 : decode cX9_drift 85 = .ok (.iload 6, 2) := by decide +kernel
theorem dX9_drift_87 : decode cX9_drift 87 = .ok (.iadd, 1) := by decide +kernel
theorem dX9_drift_88 : decode cX9_drift 88 = .ok (.iload 7, 2) := by decide +kernel
theorem dX9_drift_90 : decode cX9_drift 90 = .ok (.aload_n 0, 1) := by decide +kernel
theorem dX9_drift_91 : decode cX9_drift 91 = .ok (.getfield 154, 3) := by decide +kernel
theorem dX9_drift_94 : decode cX9_drift 94 = .ok (.if_icmp .ne 7, 3) := by decide +kernel
theorem dX9_drift_97 : decode cX9_drift 97 = .ok (.iconst 0, 1) := by decide +kernel
theorem dX9_drift_98 : decode cX9_drift 98 = .ok (.goto 7, 3) := by decide +kernel
theorem dX9_drift_101 : decode cX9_drift 101 = .ok (.iload 7, 2) := by decide +kernel
theorem dX9_drift_103 : decode cX9_drift 103 = .ok (.iconst 1, 1) := by decide +kernel
theorem dX9_drift_104 : decode cX9_drift 104 = .ok (.iadd, 1) := by decide +kernel
theorem dX9_drift_105 : decode cX9_drift 105 = .ok (.iastore, 1) := by decide +kernel
theorem dX9_drift_106 : decode cX9_drift 106 = .ok (.iload 4, 2) := by decide +kernel
theorem dX9_drift_108 : decode cX9_drift 108 = .ok (.aload_n 0, 1) := by decide +kernel
theorem dX9_drift_109 : decode cX9_drift 109 = .ok (.invokevirtual 247, 3) := by decide +kernel
theorem dX9_drift_112 : decode cX9_drift 112 = .ok (.iadd, 1) := by decide +kernel
theorem dX9_drift_113 : decode cX9_drift 113 = .ok (.istore 4, 2) := by decide +kernel
theorem dX9_drift_115 : decode cX9_drift 115 = .ok (.iinc 5 1, 3) := by decide +kernel
theorem dX9_drift_118 : decode cX9_drift 118 = .ok (.goto (-65), 3) := by decide +kernel
theorem dX9_drift_121 : decode cX9_drift 121 = .ok (.aload_n 0, 1) := by decide +kernel
theorem dX9_drift_122 : decode cX9_drift 122 = .ok (.invokevirtual 189, 3) := by decide +kernel
theorem dX9_drift_125 : decode cX9_drift 125 = .ok (.istore 5, 2) := by decide +kernel
theorem dX9_drift_127 : decode cX9_drift 127 = .ok (.aload_n 0, 1) := by decide +kernel
theorem dX9_drift_128 : decode cX9_drift 128 = .ok (.sipush 222, 3) := by decide +kernel
theorem dX9_drift_131 : decode cX9_drift 131 = .ok (.iconst 0, 1) := by decide +kernel
theorem dX9_drift_132 : decode cX9_drift 132 = .ok (.invokevirtual 282, 3) := by decide +kernel
theorem dX9_drift_135 : decode cX9_drift 135 = .ok (.iload_n 3, 1) := by decide +kernel
theorem dX9_drift_136 : decode cX9_drift 136 = .ok (.ifCond .ne 8, 3) := by decide +kernel
theorem dX9_drift_139 : decode cX9_drift 139 = .ok (.iload 4, 2) := by decide +kernel
theorem dX9_drift_141 : decode cX9_drift 141 = .ok (.goto 5, 3) := by decide +kernel
theorem dX9_drift_144 : decode cX9_drift 144 = .ok (.iload 5, 2) := by decide +kernel
theorem dX9_drift_146 : decode cX9_drift 146 = .ok (.ireturn, 1) := by decide +kernel
theorem dX9_keep_0 : decode cX9_keep 0 = .ok (.iload_n 1, 1) := by decide +kernel
theorem dX9_keep_1 : decode cX9_keep 1 = .ok (.i2l, 1) := by decide +kernel
theorem dX9_keep_2 : decode cX9_keep 2 = .ok (.lconst 0, 1) := by decide +kernel
theorem dX9_keep_3 : decode cX9_keep 3 = .ok (.lconst 1, 1) := by decide +kernel
theorem dX9_keep_4 : decode cX9_keep 4 = .ok (.invokestatic 58, 3) := by decide +kernel
theorem dX9_keep_7 : decode cX9_keep 7 = .ok (.ifCond .ne 5, 3) := by decide +kernel
theorem dX9_keep_10 : decode cX9_keep 10 = .ok (.iconst (-1), 1) := by decide +kernel
theorem dX9_keep_11 : decode cX9_keep 11 = .ok (.ireturn, 1) := by decide +kernel
theorem dX9_keep_12 : decode cX9_keep 12 = .ok (.aload_n 0, 1) := by decide +kernel
theorem dX9_keep_13 : decode cX9_keep 13 = .ok (.iconst 0, 1) := by decide +kernel
theorem dX9_keep_14 : decode cX9_keep 14 = .ok (.bipush 74, 2) := by decide +kernel
theorem dX9_keep_16 : decode cX9_keep 16 = .ok (.iload_n 1, 1) := by decide +kernel
theorem dX9_keep_17 : decode cX9_keep 17 = .ok (.iconst 1, 1) := by decide +kernel
theorem dX9_keep_18 : decode cX9_keep 18 = .ok (.iadd, 1) := by decide +kernel
theorem dX9_keep_19 : decode cX9_keep 19 = .ok (.imul, 1) := by decide +kernel
theorem dX9_keep_20 : decode cX9_keep 20 = .ok (.invokevirtual 282, 3) := by decide +kernel
theorem dX9_keep_23 : decode cX9_keep 23 = .ok (.aload_n 0, 1) := by decide +kernel
theorem dX9_keep_24 : decode cX9_keep 24 = .ok (.getfield 43, 3) := by decide +kernel
theorem dX9_keep_27 : decode cX9_keep 27 = .ok (.iload_n 1, 1) := by decide +kernel
theorem dX9_keep_28 : decode cX9_keep 28 = .ok (.baload, 1) := by decide +kernel
theorem dX9_keep_29 : decode cX9_keep 29 = .ok (.ifCond .eq 7, 3) := by decide +kernel
theorem dX9_keep_32 : decode cX9_keep 32 = .ok (.iconst 1, 1) := by decide +kernel
theorem dX9_keep_33 : decode cX9_keep 33 = .ok (.goto 4, 3) := by decide +kernel
theorem dX9_keep_36 : decode cX9_keep 36 = .ok (.iconst 0, 1) := by decide +kernel
theorem dX9_keep_37 : decode cX9_keep 37 = .ok (.istore_n 2, 1) := by decide +kernel
theorem dX9_keep_38 : decode cX9_keep 38 = .ok (.aload_n 0, 1) := by decide +kernel
theorem dX9_keep_39 : decode cX9_keep 39 = .ok (.getfield 43, 3) := by decide +kernel
theorem dX9_keep_42 : decode cX9_keep 42 = .ok (.iload_n 1, 1) := by decide +kernel
theorem dX9_keep_43 : decode cX9_keep 43 = .ok (.iconst 1, 1) := by decide +kernel
theorem dX9_keep_44 : decode cX9_keep 44 = .ok (.bastore, 1) := by decide +kernel
theorem dX9_keep_45 : decode cX9_keep 45 = .ok (.iload_n 2, 1) := by decide +kernel
theorem dX9_keep_46 : decode cX9_keep 46 = .ok (.ireturn, 1) := by decide +kernel
theorem dX9_back_0 : decode cX9_back 0 = .ok (.iload_n 1, 1) := by decide +kernel
theorem dX9_back_1 : decode cX9_back 1 = .ok (.i2l, 1) := by decide +kernel
theorem dX9_back_2 : decode cX9_back 2 = .ok (.lconst 0, 1) := by decide +kernel
theorem dX9_back_3 : decode cX9_back 3 = .ok (.lconst 1, 1) := by decide +kernel
theorem dX9_back_4 : decode cX9_back 4 = .ok (.invokestatic 58, 3) := by decide +kernel
theorem dX9_back_7 : decode cX9_back 7 = .ok (.ifCond .ne 5, 3) := by decide +kernel
theorem dX9_back_10 : decode cX9_back 10 = .ok (.iconst (-1), 1) := by decide +kernel
theorem dX9_back_11 : decode cX9_back 11 = .ok (.ireturn, 1) := by decide +kernel
theorem dX9_back_12 : decode cX9_back 12 = .ok (.aload_n 0, 1) := by decide +kernel
theorem dX9_back_13 : decode cX9_back 13 = .ok (.getfield 43, 3) := by decide +kernel
theorem dX9_back_16 : decode cX9_back 16 = .ok (.iload_n 1, 1) := by decide +kernel
theorem dX9_back_17 : decode cX9_back 17 = .ok (.baload, 1) := by decide +kernel
theorem dX9_back_18 : decode cX9_back 18 = .ok (.ifCond .ne 6, 3) := by decide +kernel
theorem dX9_back_21 : decode cX9_back 21 = .ok (.bipush (-2), 2) := by decide +kernel
theorem dX9_back_23 : decode cX9_back 23 = .ok (.ireturn, 1) := by decide +kernel
theorem dX9_back_24 : decode cX9_back 24 = .ok (.aload_n 0, 1) := by decide +kernel
theorem dX9_back_25 : decode cX9_back 25 = .ok (.bipush 74, 2) := by decide +kernel
theorem dX9_back_27 : decode cX9_back 27 = .ok (.iload_n 1, 1) := by decide +kernel
theorem dX9_back_28 : decode cX9_back 28 = .ok (.iconst 1, 1) := by decide +kernel
theorem dX9_back_29 : decode cX9_back 29 = .ok (.iadd, 1) := by decide +kernel
theorem dX9_back_30 : decode cX9_back 30 = .ok (.imul, 1) := by decide +kernel
theorem dX9_back_31 : decode cX9_back 31 = .ok (.iconst 0, 1) := by decide +kernel
theorem dX9_back_32 : decode cX9_back 32 = .ok (.invokevirtual 282, 3) := by decide +kernel
theorem dX9_back_35 : decode cX9_back 35 = .ok (.aload_n 0, 1) := by decide +kernel
theorem dX9_back_36 : decode cX9_back 36 = .ok (.getfield 154, 3) := by decide +kernel
theorem dX9_back_39 : decode cX9_back 39 = .ok (.ireturn, 1) := by decide +kernel
theorem dX9_sheet_0 : decode cX9_sheet 0 = .ok (.iload_n 1, 1) := by decide +kernel
theorem dX9_sheet_1 : decode cX9_sheet 1 = .ok (.i2l, 1) := by decide +kernel
theorem dX9_sheet_2 : decode cX9_sheet 2 = .ok (.lconst 0, 1) := by decide +kernel
theorem dX9_sheet_3 : decode cX9_sheet 3 = .ok (.ldc2_w 215, 3) := by decide +kernel
theorem dX9_sheet_6 : decode cX9_sheet 6 = .ok (.invokestatic 58, 3) := by decide +kernel
theorem dX9_sheet_9 : decode cX9_sheet 9 = .ok (.ifCond .eq 21, 3) := by decide +kernel
theorem dX9_sheet_12 : decode cX9_sheet 12 = .ok (.iload_n 2, 1) := by decide +kernel
theorem dX9_sheet_13 : decode cX9_sheet 13 = .ok (.i2l, 1) := by decide +kernel
theorem dX9_sheet_14 : decode cX9_sheet 14 = .ok (.lconst 0, 1) := by decide +kernel
theorem dX9_sheet_15 : decode cX9_sheet 15 = .ok (.ldc2_w 162, 3) := by decide +kernel
theorem dX9_sheet_18 : decode cX9_sheet 18 = .ok (.invokestatic 58, 3) := by decide +kernel
theorem dX9_sheet_21 : decode cX9_sheet 21 = .ok (.ifCond .eq 9, 3) := by decide +kernel
theorem dX9_sheet_24 : decode cX9_sheet 24 = .ok (.iload_n 3, 1) := by decide +kernel
theorem dX9_sheet_25 : decode cX9_sheet 25 = .ok (.bipush 40, 2) := by decide +kernel
theorem dX9_sheet_27 : decode cX9_sheet 27 = .ok (.if_icmp .le 5, 3) := by decide +kernel
theorem dX9_sheet_30 : decode cX9_sheet 30 = .ok (.iconst (-1), 1) := by decide +kernel
theorem dX9_sheet_31 : decode cX9_sheet 31 = .ok (.ireturn, 1) := by decide +kernel
theorem dX9_sheet_32 : decode cX9_sheet 32 = .ok (.iload_n 3, 1) := by decide +kernel
theorem dX9_sheet_33 : decode cX9_sheet 33 = .ok (.ifCond .ge 6, 3) := by decide +kernel
theorem dX9_sheet_36 : decode cX9_sheet 36 = .ok (.bipush (-14), 2) := by decide +kernel
theorem dX9_sheet_38 : decode cX9_sheet 38 = .ok (.ireturn, 1) := by decide +kernel
theorem dX9_sheet_39 : decode cX9_sheet 39 = .ok (.aload_n 0, 1) := by decide +kernel
theorem dX9_sheet_40 : decode cX9_sheet 40 = .ok (.getfield 47, 3) := by decide +kernel
theorem dX9_sheet_43 : decode cX9_sheet 43 = .ok (.iload_n 1, 1) := by decide +kernel
theorem dX9_sheet_44 : decode cX9_sheet 44 = .ok (.iload_n 2, 1) := by decide +kernel
theorem dX9_sheet_45 : decode cX9_sheet 45 = .ok (.iastore, 1) := by decide +kernel
theorem dX9_sheet_46 : decode cX9_sheet 46 = .ok (.aload_n 0, 1) := by decide +kernel
theorem dX9_sheet_47 : decode cX9_sheet 47 = .ok (.getfield 50, 3) := by decide +kernel
theorem dX9_sheet_50 : decode cX9_sheet 50 = .ok (.iload_n 1, 1) := by decide +kernel
theorem dX9_sheet_51 : decode cX9_sheet 51 = .ok (.iload_n 3, 1) := by decide +kernel
theorem dX9_sheet_52 : decode cX9_sheet 52 = .ok (.iastore, 1) := by decide +kernel
theorem dX9_sheet_53 : decode cX9_sheet 53 = .ok (.iconst 0, 1) := by decide +kernel
theorem dX9_sheet_54 : decode cX9_sheet 54 = .ok (.istore 4, 2) := by decide +kernel
theorem dX9_sheet_56 : decode cX9_sheet 56 = .ok (.iload 4, 2) := by decide +kernel
theorem dX9_sheet_58 : decode cX9_sheet 58 = .ok (.bipush 40, 2) := by decide +kernel
theorem dX9_sheet_60 : decode cX9_sheet 60 = .ok (.if_icmp .ge 22, 3) := by decide +kernel
theorem dX9_sheet_63 : decode cX9_sheet 63 = .ok (.aload_n 0, 1) := by decide +kernel
theorem dX9_sheet_64 : decode cX9_sheet 64 = .ok (.getfield 53, 3) := by decide +kernel
theorem dX9_sheet_67 : decode cX9_sheet 67 = .ok (.bipush 40, 2) := by decide +kernel
theorem dX9_sheet_69 : decode cX9_sheet 69 = .ok (.iload_n 1, 1) := by decide +kernel
theorem dX9_sheet_70 : decode cX9_sheet 70 = .ok (.imul, 1) := by decide +kernel
theorem dX9_sheet_71 : decode cX9_sheet 71 = .ok (.iload 4, 2) := by decide +kernel
theorem dX9_sheet_73 : decode cX9_sheet 73 = .ok (.iadd, 1) := by decide +kernel
theorem dX9_sheet_74 : decode cX9_sheet 74 = .ok (.iconst 0, 1) := by decide +kernel
theorem dX9_sheet_75 : decode cX9_sheet 75 = .ok (.iastore, 1) := by decide +kernel
theorem dX9_sheet_76 : decode cX9_sheet 76 = .ok (.iinc 4 1, 3) := by decide +kernel
theorem dX9_sheet_79 : decode cX9_sheet 79 = .ok (.goto (-23), 3) := by decide +kernel
theorem dX9_sheet_82 : decode cX9_sheet 82 = .ok (.iconst 1, 1) := by decide +kernel
theorem dX9_sheet_83 : decode cX9_sheet 83 = .ok (.ireturn, 1) := by decide +kernel
theorem dX9_lay_0 : decode cX9_lay 0 = .ok (.iload_n 1, 1) := by decide +kernel
theorem dX9_lay_1 : decode cX9_lay 1 = .ok (.i2l, 1) := by decide +kernel
theorem dX9_lay_2 : decode cX9_lay 2 = .ok (.lconst 0, 1) := by decide +kernel
theorem dX9_lay_3 : decode cX9_lay 3 = .ok (.ldc2_w 215, 3) := by decide +kernel
theorem dX9_lay_6 : decode cX9_lay 6 = .ok (.invokestatic 58, 3) := by decide +kernel
theorem dX9_lay_9 : decode cX9_lay 9 = .ok (.ifCond .ne 5, 3) := by decide +kernel
theorem dX9_lay_12 : decode cX9_lay 12 = .ok (.iconst (-1), 1) := by decide +kernel
theorem dX9_lay_13 : decode cX9_lay 13 = .ok (.ireturn, 1) := by decide +kernel
theorem dX9_lay_14 : decode cX9_lay 14 = .ok (.aload_n 0, 1) := by decide +kernel
theorem dX9_lay_15 : decode cX9_lay 15 = .ok (.getfield 47, 3) := by decide +kernel
theorem dX9_lay_18 : decode cX9_lay 18 = .ok (.iload_n 1, 1) := by decide +kernel
theorem dX9_lay_19 : decode cX9_lay 19 = .ok (.iaload, 1) := by decide +kernel
theorem dX9_lay_20 : decode cX9_lay 20 = .ok (.bipush (-4), 2) := by decide +kernel
theorem dX9_lay_22 : decode cX9_lay 22 = .ok (.if_icmp .ne 6, 3) := by decide +kernel
theorem dX9_lay_25 : decode cX9_lay 25 = .ok (.bipush (-11), 2) := by decide +kernel
theorem dX9_lay_27 : decode cX9_lay 27 = .ok (.ireturn, 1) := by decide +kernel
theorem dX9_lay_28 : decode cX9_lay 28 = .ok (.iload_n 2, 1) := by decide +kernel
theorem dX9_lay_29 : decode cX9_lay 29 = .ok (.i2l, 1) := by decide +kernel
theorem dX9_lay_30 : decode cX9_lay 30 = .ok (.lconst 0, 1) := by decide +kernel
theorem dX9_lay_31 : decode cX9_lay 31 = .ok (.aload_n 0, 1) := by decide +kernel
theorem dX9_lay_32 : decode cX9_lay 32 = .ok (.getfield 50, 3) := by decide +kernel
theorem dX9_lay_35 : decode cX9_lay 35 = .ok (.iload_n 1, 1) := by decide +kernel
theorem dX9_lay_36 : decode cX9_lay 36 = .ok (.iaload, 1) := by decide +kernel
theorem dX9_lay_37 : decode cX9_lay 37 = .ok (.iconst 1, 1) := by decide +kernel
theorem dX9_lay_38 : decode cX9_lay 38 = .ok (.isub, 1) := by decide +kernel
theorem dX9_lay_39 : decode cX9_lay 39 = .ok (.i2l, 1) := by decide +kernel
theorem dX9_lay_40 : decode cX9_lay 40 = .ok (.invokestatic 58, 3) := by decide +kernel
theorem dX9_lay_43 : decode cX9_lay 43 = .ok (.ifCond .ne 6, 3) := by decide +kernel
theorem dX9_lay_46 : decode cX9_lay 46 = .ok (.bipush (-12), 2) := by decide +kernel
theorem dX9_lay_48 : decode cX9_lay 48 = .ok (.ireturn, 1) := by decide +kernel
theorem dX9_lay_49 : decode cX9_lay 49 = .ok (.aload_n 0, 1) := by decide +kernel
theorem dX9_lay_50 : decode cX9_lay 50 = .ok (.getfield 53, 3) := by decide +kernel
theorem dX9_lay_53 : decode cX9_lay 53 = .ok (.bipush 40, 2) := by decide +kernel
theorem dX9_lay_55 : decode cX9_lay 55 = .ok (.iload_n 1, 1) := by decide +kernel
theorem dX9_lay_56 : decode cX9_lay 56 = .ok (.imul, 1) := by decide +kernel
theorem dX9_lay_57 : decode cX9_lay 57 = .ok (.iload_n 2, 1) := by decide +kernel
theorem dX9_lay_58 : decode cX9_lay 58 = .ok (.iadd, 1) := by decide +kernel
theorem dX9_lay_59 : decode cX9_lay 59 = .ok (.aload_n 0, 1) := by decide +kernel
theorem dX9_lay_60 : decode cX9_lay 60 = .ok (.getfield 47, 3) := by decide +kernel
theorem dX9_lay_63 : decode cX9_lay 63 = .ok (.iload_n 1, 1) := by decide +kernel
theorem dX9_lay_64 : decode cX9_lay 64 = .ok (.iaload, 1) := by decide +kernel
theorem dX9_lay_65 : decode cX9_lay 65 = .ok (.ifCond .ne 13, 3) := by decide +kernel
theorem dX9_lay_68 : decode cX9_lay 68 = .ok (.iload_n 3, 1) := by decide +kernel
theorem dX9_lay_69 : decode cX9_lay 69 = .ok (.bipush 24, 2) := by decide +kernel
theorem dX9_lay_71 : decode cX9_lay 71 = .ok (.ishl, 1) := by decide +kernel
theorem dX9_lay_72 : decode cX9_lay 72 = .ok (.bipush 24, 2) := by decide +kernel
theorem dX9_lay_74 : decode cX9_lay 74 = .ok (.ishr, 1) := by decide +kernel
theorem dX9_lay_75 : decode cX9_lay 75 = .ok (.goto 24, 3) := by decide +kernel
theorem dX9_lay_78 : decode cX9_lay 78 = .ok (.aload_n 0, 1) := by decide +kernel
theorem dX9_lay_79 : decode cX9_lay 79 = .ok (.getfield 47, 3) := by decide +kernel
theorem dX9_lay_82 : decode cX9_lay 82 = .ok (.iload_n 1, 1) := by decide +kernel
theorem dX9_lay_83 : decode cX9_lay 83 = .ok (.iaload, 1) := by decide +kernel
theorem dX9_lay_84 : decode cX9_lay 84 = .ok (.iconst 1, 1) := by decide +kernel
theorem dX9_lay_85 : decode cX9_lay 85 = .ok (.if_icmp .ne 13, 3) := by decide +kernel
theorem dX9_lay_88 : decode cX9_lay 88 = .ok (.iload_n 3, 1) := by decide +kernel
theorem dX9_lay_89 : decode cX9_lay 89 = .ok (.bipush 16, 2) := by decide +kernel
theorem dX9_lay_91 : decode cX9_lay 91 = .ok (.ishl, 1) := by decide +kernel
theorem dX9_lay_92 : decode cX9_lay 92 = .ok (.bipush 16, 2) := by decide +kernel
theorem dX9_lay_94 : decode cX9_lay 94 = .ok (.ishr, 1) := by decide +kernel
theorem dX9_lay_95 : decode cX9_lay 95 = .ok (.goto 4, 3) := by decide +kernel
theorem dX9_lay_98 : decode cX9_lay 98 = .ok (.iload_n 3, 1) := by decide +kernel
theorem dX9_lay_99 : decode cX9_lay 99 = .ok (.iastore, 1) := by decide +kernel
theorem dX9_lay_100 : decode cX9_lay 100 = .ok (.iconst 1, 1) := by decide +kernel
theorem dX9_lay_101 : decode cX9_lay 101 = .ok (.ireturn, 1) := by decide +kernel
theorem dX9_read_0 : decode cX9_read 0 = .ok (.iload_n 1, 1) := by decide +kernel
theorem dX9_read_1 : decode cX9_read 1 = .ok (.i2l, 1) := by decide +kernel
theorem dX9_read_2 : decode cX9_read 2 = .ok (.lconst 0, 1) := by decide +kernel
theorem dX9_read_3 : decode cX9_read 3 = .ok (.ldc2_w 215, 3) := by decide +kernel
theorem dX9_read_6 : decode cX9_read 6 = .ok (.invokestatic 58, 3) := by decide +kernel
theorem dX9_read_9 : decode cX9_read 9 = .ok (.ifCond .eq 28, 3) := by decide +kernel
theorem dX9_read_12 : decode cX9_read 12 = .ok (.iload_n 2, 1) := by decide +kernel
theorem dX9_read_13 : decode cX9_read 13 = .ok (.i2l, 1) := by decide +kernel
theorem dX9_read_14 : decode cX9_read 14 = .ok (.lconst 0, 1) := by decide +kernel
theorem dX9_read_15 : decode cX9_read 15 = .ok (.ldc2_w 162, 3) := by decide +kernel
theorem dX9_read_18 : decode cX9_read 18 = .ok (.invokestatic 58, 3) := by decide +kernel
theorem dX9_read_21 : decode cX9_read 21 = .ok (.ifCond .eq 16, 3) := by decide +kernel
theorem dX9_read_24 : decode cX9_read 24 = .ok (.iload 4, 2) := by decide +kernel
theorem dX9_read_26 : decode cX9_read 26 = .ok (.i2l, 1) := by decide +kernel
theorem dX9_read_27 : decode cX9_read 27 = .ok (.lconst 0, 1) := by decide +kernel
theorem dX9_read_28 : decode cX9_read 28 = .ok (.ldc2_w 289, 3) := by decide +kernel
theorem dX9_read_31 : decode cX9_read 31 = .ok (.invokestatic 58, 3) := by decide +kernel
theorem dX9_read_34 : decode cX9_read 34 = .ok (.ifCond .ne 5, 3) := by decide +kernel
theorem dX9_read_37 : decode cX9_read 37 = .ok (.iconst (-1), 1) := by decide +kernel
theorem dX9_read_38 : decode cX9_read 38 = .ok (.ireturn, 1) := by decide +kernel
theorem dX9_read_39 : decode cX9_read 39 = .ok (.aload_n 0, 1) := by decide +kernel
theorem dX9_read_40 : decode cX9_read 40 = .ok (.iconst 0, 1) := by decide +kernel
theorem dX9_read_41 : decode cX9_read 41 = .ok (.sipush 222, 3) := by decide +kernel
theorem dX9_read_44 : decode cX9_read 44 = .ok (.invokevirtual 282, 3) := by decide +kernel
theorem dX9_read_47 : decode cX9_read 47 = .ok (.iconst 0, 1) := by decide +kernel
theorem dX9_read_48 : decode cX9_read 48 = .ok (.istore 5, 2) := by decide +kernel
theorem dX9_read_50 : decode cX9_read 50 = .ok (.iconst 0, 1) := by decide +kernel
theorem dX9_read_51 : decode cX9_read 51 = .ok (.istore 6, 2) := by decide +kernel
theorem dX9_read_53 : decode cX9_read 53 = .ok (.iconst 0, 1) := by decide +kernel
theorem dX9_read_54 : decode cX9_read 54 = .ok (.istore 7, 2) := by decide +kernel
theorem dX9_read_56 : decode cX9_read 56 = .ok (.iload 7, 2) := by decide +kernel
theorem dX9_read_58 : decode cX9_read 58 = .ok (.iconst 2, 1) := by decide +kernel
theorem dX9_read_59 : decode cX9_read 59 = .ok (.iload 4, 2) := by decide +kernel
theorem dX9_read_61 : decode cX9_read 61 = .ok (.imul, 1) := by decide +kernel
theorem dX9_read_62 : decode cX9_read 62 = .ok (.if_icmp .ge 137, 3) := by decide +kernel
theorem dX9_read_65 : decode cX9_read 65 = .ok (.iload 5, 2) := by decide +kernel
theorem dX9_read_67 : decode cX9_read 67 = .ok (.ifCond .ne 132, 3) := by decide +kernel
theorem dX9_read_70 : decode cX9_read 70 = .ok (.aload_n 0, 1) := by decide +kernel
theorem dX9_read_71 : decode cX9_read 71 = .ok (.getfield 47, 3) := by decide +kernel
theorem dX9_read_74 : decode cX9_read 74 = .ok (.iload_n 1, 1) := by decide +kernel
theorem dX9_read_75 : decode cX9_read 75 = .ok (.iaload, 1) := by decide +kernel
theorem dX9_read_76 : decode cX9_read 76 = .ok (.bipush (-4), 2) := by decide +kernel
theorem dX9_read_78 : decode cX9_read 78 = .ok (.if_icmp .ne 7, 3) := by decide +kernel
theorem dX9_read_81 : decode cX9_read 81 = .ok (.iconst 1, 1) := by decide +kernel
theorem dX9_read_82 : decode cX9_read 82 = .ok (.goto 44, 3) := by decide +kernel
theorem dX9_read_85 : decode cX9_read 85 = .ok (.aload_n 0, 1) := by decide +kernel
theorem dX9_read_86 : decode cX9_read 86 = .ok (.getfield 47, 3) := by decide +kernel
theorem dX9_read_89 : decode cX9_read 89 = .ok (.iload_n 1, 1) := by decide +kernel
theorem dX9_read_90 : decode cX9_read 90 = .ok (.iaload, 1) := by decide +kernel
theorem dX9_read_91 : decode cX9_read 91 = .ok (.iload_n 2, 1) := by decide +kernel
theorem dX9_read_92 : decode cX9_read 92 = .ok (.if_icmp .eq 7, 3) := by decide +kernel
theorem dX9_read_95 : decode cX9_read 95 = .ok (.iconst 3, 1) := by decide +kernel
theorem dX9_read_96 : decode cX9_read 96 = .ok (.goto 30, 3) := by decide +kernel
theorem dX9_read_99 : decode cX9_read 99 = .ok (.iload_n 3, 1) := by decide +kernel
theorem dX9_read_100 : decode cX9_read 100 = .ok (.i2l, 1) := by decide +kernel
theorem dX9_read_101 : decode cX9_read 101 = .ok (.iload 7, 2) := by decide +kernel
theorem dX9_read_103 : decode cX9_read 103 = .ok (.i2l, 1) := by decide +kernel
theorem dX9_read_104 : decode cX9_read 104 = .ok (.ladd, 1) := by decide +kernel
theorem dX9_read_105 : decode cX9_read 105 = .ok (.lconst 0, 1) := by decide +kernel
theorem dX9_read_106 : decode cX9_read 106 = .ok (.aload_n 0, 1) := by decide +kernel
theorem dX9_read_107 : decode cX9_read 107 = .ok (.getfield 50, 3) := by decide +kernel
theorem dX9_read_110 : decode cX9_read 110 = .ok (.iload_n 1, 1) := by decide +kernel
theorem dX9_read_111 : decode cX9_read 111 = .ok (.iaload, 1) := by decide +kernel
theorem dX9_read_112 : decode cX9_read 112 = .ok (.iconst 1, 1) := by decide +kernel
theorem dX9_read_113 : decode cX9_read 113 = .ok (.isub, 1) := by decide +kernel
theorem dX9_read_114 : decode cX9_read 114 = .ok (.i2l, 1) := by decide +kernel
theorem dX9_read_115 : decode cX9_read 115 = .ok (.invokestatic 58, 3) := by decide +kernel
theorem dX9_read_118 : decode cX9_read 118 = .ok (.ifCond .ne 7, 3) := by decide +kernel
theorem dX9_read_121 : decode cX9_read 121 = .ok (.iconst 2, 1) := by decide +kernel
theorem dX9_read_122 : decode cX9_read 122 = .ok (.goto 4, 3) := by decide +kernel
theorem dX9_read_125 : decode cX9_read 125 = .ok (.iconst 0, 1) := by decide +kernel
theorem dX9_read_126 : decode cX9_read 126 = .ok (.istore 5, 2) := by decide +kernel
theorem dX9_read_128 : decode cX9_read 128 = .ok (.iload 5, 2) := by decide +kernel
theorem dX9_read_130 : decode cX9_read 130 = .ok (.ifCond .ne 63, 3) := by decide +kernel
theorem dX9_read_133 : decode cX9_read 133 = .ok (.iload 7, 2) := by decide +kernel
theorem dX9_read_135 : decode cX9_read 135 = .ok (.iconst 2, 1) := by decide +kernel
theorem dX9_read_136 : decode cX9_read 136 = .ok (.irem, 1) := by decide +kernel
theorem dX9_read_137 : decode cX9_read 137 = .ok (.iconst 1, 1) := by decide +kernel
theorem dX9_read_138 : decode cX9_read 138 = .ok (.if_icmp .ne 55, 3) := by decide +kernel
theorem dX9_read_141 : decode cX9_read 141 = .ok (.bipush 40, 2) := by decide +kernel
theorem dX9_read_143 : decode cX9_read 143 = .ok (.iload_n 1, 1) := by decide +kernel
theorem dX9_read_144 : decode cX9_read 144 = .ok (.imul, 1) := by decide +kernel
theorem dX9_read_145 : decode cX9_read 145 = .ok (.iload_n 3, 1) := by decide +kernel
theorem dX9_read_146 : decode cX9_read 146 = .ok (.iadd, 1) := by decide +kernel
theorem dX9_read_147 : decode cX9_read 147 = .ok (.iload 7, 2) := by decide +kernel
theorem dX9_read_149 : decode cX9_read 149 = .ok (.iadd, 1) := by decide +kernel
theorem dX9_read_150 : decode cX9_read 150 = .ok (.istore 8, 2) := by decide +kernel
theorem dX9_read_152 : decode cX9_read 152 = .ok (.aload_n 0, 1) := by decide +kernel
theorem dX9_read_153 : decode cX9_read 153 = .ok (.aload_n 0, 1) := by decide +kernel
theorem dX9_read_154 : decode cX9_read 154 = .ok (.getfield 53, 3) := by decide +kernel
theorem dX9_read_157 : decode cX9_read 157 = .ok (.iload 8, 2) := by decide +kernel
theorem dX9_read_159 : decode cX9_read 159 = .ok (.iconst 1, 1) := by decide +kernel
theorem dX9_read_160 : decode cX9_read 160 = .ok (.isub, 1) := by decide +kernel
theorem dX9_read_161 : decode cX9_read 161 = .ok (.iaload, 1) := by decide +kernel
theorem dX9_read_162 : decode cX9_read 162 = .ok (.aload_n 0, 1) := by decide +kernel
theorem dX9_read_163 : decode cX9_read 163 = .ok (.getfield 53, 3) := by decide +kernel
theorem dX9_read_166 : decode cX9_read 166 = .ok (.iload 8, 2) := by decide +kernel
theorem dX9_read_168 : decode cX9_read 168 = .ok (.iaload, 1) := by decide +kernel
theorem dX9_read_169 : decode cX9_read 169 = .ok (.invokevirtual 221, 3) := by decide +kernel
theorem dX9_read_172 : decode cX9_read 172 = .ok (.iconst (-1), 1) := by decide +kernel
theorem dX9_read_173 : decode cX9_read 173 = .ok (.if_icmp .ne 17, 3) := by decide +kernel
theorem dX9_read_176 : decode cX9_read 176 = .ok (.aload_n 0, 1) := by decide +kernel
theorem dX9_read_177 : decode cX9_read 177 = .ok (.sipush 222, 3) := by decide +kernel
theorem dX9_read_180 : decode cX9_read 180 = .ok (.iconst 0, 1) := by decide +kernel
theorem dX9_read_181 : decode cX9_read 181 = .ok (.invokevirtual 282, 3) := by decide +kernel
theorem dX9_read_184 : decode cX9_read 184 = .ok (.bipush (-20), 2) := by decide +kernel
theorem dX9_read_186 : decode cX9_read 186 = .ok (.iload 6, 2) := by decide +kernel
theorem dX9_read_188 : decode cX9_read 188 = .ok (.isub, 1) := by decide +kernel
theorem dX9_read_189 : decode cX9_read 189 = .ok (.ireturn, 1) := by decide +kernel
theorem dX9_read_190 : decode cX9_read 190 = .ok (.iinc 6 1, 3) := by decide +kernel
theorem dX9_read_193 : decode cX9_read 193 = .ok (.iinc 7 1, 3) := by decide +kernel
theorem dX9_read_196 : decode cX9_read 196 = .ok (.goto (-140), 3) := by decide +kernel
theorem dX9_read_199 : decode cX9_read 199 = .ok (.aload_n 0, 1) := by decide +kernel
theorem dX9_read_200 : decode cX9_read 200 = .ok (.iload 5, 2) := by decide +kernel
theorem dX9_read_202 : decode cX9_read 202 = .ok (.putfield 291, 3) := by decide +kernel
theorem dX9_read_205 : decode cX9_read 205 = .ok (.iload 6, 2) := by decide +kernel
theorem dX9_read_207 : decode cX9_read 207 = .ok (.ireturn, 1) := by decide +kernel
theorem dX9_torn_0 : decode cX9_torn 0 = .ok (.aload_n 0, 1) := by decide +kernel
theorem dX9_torn_1 : decode cX9_torn 1 = .ok (.getfield 291, 3) := by decide +kernel
theorem dX9_torn_4 : decode cX9_torn 4 = .ok (.ireturn, 1) := by decide +kernel
theorem dX9_count_0 : decode cX9_count 0 = .ok (.iload_n 1, 1) := by decide +kernel
theorem dX9_count_1 : decode cX9_count 1 = .ok (.tableswitch 127 0 5 #[39, 44, 74, 79, 102, 109], 39) := by decide +kernel
theorem dX9_count_40 : decode cX9_count 40 = .ok (.aload_n 0, 1) := by decide +kernel
theorem dX9_count_41 : decode cX9_count 41 = .ok (.getfield 157, 3) := by decide +kernel
theorem dX9_count_44 : decode cX9_count 44 = .ok (.ireturn, 1) := by decide +kernel
theorem dX9_count_45 : decode cX9_count 45 = .ok (.aload_n 0, 1) := by decide +kernel
theorem dX9_count_46 : decode cX9_count 46 = .ok (.getfield 43, 3) := by decide +kernel
theorem dX9_count_49 : decode cX9_count 49 = .ok (.iconst 0, 1) := by decide +kernel
theorem dX9_count_50 : decode cX9_count 50 = .ok (.baload, 1) := by decide +kernel
theorem dX9_count_51 : decode cX9_count 51 = .ok (.ifCond .eq 7, 3) := by decide +kernel
theorem dX9_count_54 : decode cX9_count 54 = .ok (.iconst 1, 1) := by decide +kernel
theorem dX9_count_55 : decode cX9_count 55 = .ok (.goto 4, 3) := by decide +kernel
theorem dX9_count_58 : decode cX9_count 58 = .ok (.iconst 0, 1) := by decide +kernel
theorem dX9_count_59 : decode cX9_count 59 = .ok (.aload_n 0, 1) := by decide +kernel
theorem dX9_count_60 : decode cX9_count 60 = .ok (.getfield 43, 3) := by decide +kernel
theorem dX9_count_63 : decode cX9_count 63 = .ok (.iconst 1, 1) := by decide +kernel
theorem dX9_count_64 : decode cX9_count 64 = .ok (.baload, 1) := by decide +kernel
theorem dX9_count_65 : decode cX9_count 65 = .ok (.ifCond .eq 7, 3) := by decide +kernel
theorem dX9_count_68 : decode cX9_count 68 = .ok (.iconst 1, 1) := by decide +kernel
theorem dX9_count_69 : decode cX9_count 69 = .ok (.goto 4, 3) := by decide +kernel
theorem dX9_count_72 : decode cX9_count 72 = .ok (.iconst 0, 1) := by decide +kernel
theorem dX9_count_73 : decode cX9_count 73 = .ok (.iadd, 1) := by decide +kernel
theorem dX9_count_74 : decode cX9_count 74 = .ok (.ireturn, 1) := by decide +kernel
theorem dX9_count_75 : decode cX9_count 75 = .ok (.aload_n 0, 1) := by decide +kernel
theorem dX9_count_76 : decode cX9_count 76 = .ok (.getfield 62, 3) := by decide +kernel
theorem dX9_count_79 : decode cX9_count 79 = .ok (.ireturn, 1) := by decide +kernel
theorem dX9_count_80 : decode cX9_count 80 = .ok (.aload_n 0, 1) := by decide +kernel
theorem dX9_count_81 : decode cX9_count 81 = .ok (.getfield 47, 3) := by decide +kernel
theorem dX9_count_84 : decode cX9_count 84 = .ok (.iconst 0, 1) := by decide +kernel
theorem dX9_count_85 : decode cX9_count 85 = .ok (.iaload, 1) := by decide +kernel
theorem dX9_count_86 : decode cX9_count 86 = .ok (.bipush (-4), 2) := by decide +kernel
theorem dX9_count_88 : decode cX9_count 88 = .ok (.if_icmp .ne 8, 3) := by decide +kernel
theorem dX9_count_91 : decode cX9_count 91 = .ok (.bipush (-4), 2) := by decide +kernel
theorem dX9_count_93 : decode cX9_count 93 = .ok (.goto 9, 3) := by decide +kernel
theorem dX9_count_96 : decode cX9_count 96 = .ok (.aload_n 0, 1) := by decide +kernel
theorem dX9_count_97 : decode cX9_count 97 = .ok (.getfield 50, 3) := by decide +kernel
theorem dX9_count_100 : decode cX9_count 100 = .ok (.iconst 0, 1) := by decide +kernel
theorem dX9_count_101 : decode cX9_count 101 = .ok (.iaload, 1) := by decide +kernel
theorem dX9_count_102 : decode cX9_count 102 = .ok (.ireturn, 1) := by decide +kernel
theorem dX9_count_103 : decode cX9_count 103 = .ok (.aload_n 0, 1) := by decide +kernel
theorem dX9_count_104 : decode cX9_count 104 = .ok (.bipush 31, 2) := by decide +kernel
theorem dX9_count_106 : decode cX9_count 106 = .ok (.invokevirtual 210, 3) := by decide +kernel
theorem dX9_count_109 : decode cX9_count 109 = .ok (.ireturn, 1) := by decide +kernel
theorem dX9_count_110 : decode cX9_count 110 = .ok (.aload_n 0, 1) := by decide +kernel
theorem dX9_count_111 : decode cX9_count 111 = .ok (.bipush (-4), 2) := by decide +kernel
theorem dX9_count_113 : decode cX9_count 113 = .ok (.iconst 0, 1) := by decide +kernel
theorem dX9_count_114 : decode cX9_count 114 = .ok (.invokevirtual 185, 3) := by decide +kernel
theorem dX9_count_117 : decode cX9_count 117 = .ok (.aload_n 0, 1) := by decide +kernel
theorem dX9_count_118 : decode cX9_count 118 = .ok (.invokevirtual 189, 3) := by decide +kernel
theorem dX9_count_121 : decode cX9_count 121 = .ok (.iconst (-1), 1) := by decide +kernel
theorem dX9_count_122 : decode cX9_count 122 = .ok (.ixor, 1) := by decide +kernel
theorem dX9_count_123 : decode cX9_count 123 = .ok (.iand, 1) := by decide +kernel
theorem dX9_count_124 : decode cX9_count 124 = .ok (.invokestatic 250, 3) := by decide +kernel
theorem dX9_count_127 : decode cX9_count 127 = .ok (.ireturn, 1) := by decide +kernel
theorem dX9_count_128 : decode cX9_count 128 = .ok (.iconst (-1), 1) := by decide +kernel
theorem dX9_count_129 : decode cX9_count 129 = .ok (.ireturn, 1) := by decide +kernel
