theorem dX5_readTape_131 : decode cX5_readTape 131 = .ok (.aload_n 0, 1) := by decide +kernel
theorem dX5_readTape_132 : decode cX5_readTape 132 = .ok (.getfield 18, 3) := by decide +kernel
theorem dX5_readTape_135 : decode cX5_readTape 135 = .ok (.getfield 58, 3) := by decide +kernel
theorem dX5_readTape_138 : decode cX5_readTape 138 = .ok (.putfield 63, 3) := by decide +kernel
theorem dX5_readTape_141 : decode cX5_readTape 141 = .ok (.aload_n 0, 1) := by decide +kernel
theorem dX5_readTape_142 : decode cX5_readTape 142 = .ok (.bipush 6, 2) := by decide +kernel
theorem dX5_readTape_144 : decode cX5_readTape 144 = .ok (.invokevirtual 66, 3) := by decide +kernel
theorem dX5_readTape_147 : decode cX5_readTape 147 = .ok (.pop, 1) := by decide +kernel
theorem dX5_readTape_148 : decode cX5_readTape 148 = .ok (.return_, 1) := by decide +kernel
theorem dX5_meet_0 : decode cX5_meet 0 = .ok (.aload_n 0, 1) := by decide +kernel
theorem dX5_meet_1 : decode cX5_meet 1 = .ok (.iload_n 1, 1) := by decide +kernel
theorem dX5_meet_2 : decode cX5_meet 2 = .ok (.putfield 29, 3) := by decide +kernel
theorem dX5_meet_5 : decode cX5_meet 5 = .ok (.aload_n 0, 1) := by decide +kernel
theorem dX5_meet_6 : decode cX5_meet 6 = .ok (.aload_n 0, 1) := by decide +kernel
theorem dX5_meet_7 : decode cX5_meet 7 = .ok (.getfield 63, 3) := by decide +kernel
theorem dX5_meet_10 : decode cX5_meet 10 = .ok (.putfield 32, 3) := by decide +kernel
theorem dX5_meet_13 : decode cX5_meet 13 = .ok (.iconst 0, 1) := by decide +kernel
theorem dX5_meet_14 : decode cX5_meet 14 = .ok (.ireturn, 1) := by decide +kernel
theorem dX5_isLetter_0 : decode cX5_isLetter 0 = .ok (.iload_n 0, 1) := by decide +kernel
theorem dX5_isLetter_1 : decode cX5_isLetter 1 = .ok (.bipush 97, 2) := by decide +kernel
theorem dX5_isLetter_3 : decode cX5_isLetter 3 = .ok (.if_icmp .lt 13, 3) := by decide +kernel
theorem dX5_isLetter_6 : decode cX5_isLetter 6 = .ok (.iload_n 0, 1) := by decide +kernel
theorem dX5_isLetter_7 : decode cX5_isLetter 7 = .ok (.bipush 122, 2) := by decide +kernel
theorem dX5_isLetter_9 : decode cX5_isLetter 9 = .ok (.if_icmp .gt 7, 3) := by decide +kernel
theorem dX5_isLetter_12 : decode cX5_isLetter 12 = .ok (.iconst 1, 1) := by decide +kernel
theorem dX5_isLetter_13 : decode cX5_isLetter 13 = .ok (.goto 4, 3) := by decide +kernel
theorem dX5_isLetter_16 : decode cX5_isLetter 16 = .ok (.iconst 0, 1) := by decide +kernel
theorem dX5_isLetter_17 : decode cX5_isLetter 17 = .ok (.ireturn, 1) := by decide +kernel
theorem dX5_isFigure_0 : decode cX5_isFigure 0 = .ok (.iload_n 0, 1) := by decide +kernel
theorem dX5_isFigure_1 : decode cX5_isFigure 1 = .ok (.bipush 48, 2) := by decide +kernel
theorem dX5_isFigure_3 : decode cX5_isFigure 3 = .ok (.if_icmp .lt 13, 3) := by decide +kernel
theorem dX5_isFigure_6 : decode cX5_isFigure 6 = .ok (.iload_n 0, 1) := by decide +kernel
theorem dX5_isFigure_7 : decode cX5_isFigure 7 = .ok (.bipush 57, 2) := by decide +kernel
theorem dX5_isFigure_9 : decode cX5_isFigure 9 = .ok (.if_icmp .gt 7, 3) := by decide +kernel
theorem dX5_isFigure_12 : decode cX5_isFigure 12 = .ok (.iconst 1, 1) := by decide +kernel
theorem dX5_isFigure_13 : decode cX5_isFigure 13 = .ok (.goto 4, 3) := by decide +kernel
theorem dX5_isFigure_16 : decode cX5_isFigure 16 = .ok (.iconst 0, 1) := by decide +kernel
theorem dX5_isFigure_17 : decode cX5_isFigure 17 = .ok (.ireturn, 1) := by decide +kernel
theorem dX5_takeToken_0 : decode cX5_takeToken 0 = .ok (.aload_n 0, 1) := by decide +kernel
theorem dX5_takeToken_1 : decode cX5_takeToken 1 = .ok (.getfield 35, 3) := by decide +kernel
theorem dX5_takeToken_4 : decode cX5_takeToken 4 = .ok (.aload_n 0, 1) := by decide +kernel
theorem dX5_takeToken_5 : decode cX5_takeToken 5 = .ok (.getfield 18, 3) := by decide +kernel
theorem dX5_takeToken_8 : decode cX5_takeToken 8 = .ok (.getfield 58, 3) := by decide +kernel
theorem dX5_takeToken_11 : decode cX5_takeToken 11 = .ok (.if_icmp .ge 33, 3) := by decide +kernel
theorem dX5_takeToken_14 : decode cX5_takeToken 14 = .ok (.aload_n 0, 1) := by decide +kernel
theorem dX5_takeToken_15 : decode cX5_takeToken 15 = .ok (.getfield 18, 3) := by decide +kernel
theorem dX5_takeToken_18 : decode cX5_takeToken 18 = .ok (.aload_n 0, 1) := by decide +kernel
theorem dX5_takeToken_19 : decode cX5_takeToken 19 = .ok (.getfield 35, 3) := by decide +kernel
theorem dX5_takeToken_22 : decode cX5_takeToken 22 = .ok (.iconst 0, 1) := by decide +kernel
theorem dX5_takeToken_23 : decode cX5_takeToken 23 = .ok (.invokevirtual 70, 3) := by decide +kernel
theorem dX5_takeToken_26 : decode cX5_takeToken 26 = .ok (.bipush 32, 2) := by decide +kernel
theorem dX5_takeToken_28 : decode cX5_takeToken 28 = .ok (.if_icmp .ne 16, 3) := by decide +kernel
theorem dX5_takeToken_31 : decode cX5_takeToken 31 = .ok (.aload_n 0, 1) := by decide +kernel
theorem dX5_takeToken_32 : decode cX5_takeToken 32 = .ok (.dup, 1) := by decide +kernel
theorem dX5_takeToken_33 : decode cX5_takeToken 33 = .ok (.getfield 35, 3) := by decide +kernel
theorem dX5_takeToken_36 : decode cX5_takeToken 36 = .ok (.iconst 1, 1) := by decide +kernel
theorem dX5_takeToken_37 : decode cX5_takeToken 37 = .ok (.iadd, 1) := by decide +kernel
theorem dX5_takeToken_38 : decode cX5_takeToken 38 = .ok (.putfield 35, 3) := by decide +kernel
theorem dX5_takeToken_41 : decode cX5_takeToken 41 = .ok (.goto (-41), 3) := by decide +kernel
theorem dX5_takeToken_44 : decode cX5_takeToken 44 = .ok (.aload_n 0, 1) := by decide +kernel
theorem dX5_takeToken_45 : decode cX5_takeToken 45 = .ok (.aload_n 0, 1) := by decide +kernel
theorem dX5_takeToken_46 : decode cX5_takeToken 46 = .ok (.getfield 35, 3) := by decide +kernel
theorem dX5_takeToken_49 : decode cX5_takeToken 49 = .ok (.putfield 63, 3) := by decide +kernel
theorem dX5_takeToken_52 : decode cX5_takeToken 52 = .ok (.aload_n 0, 1) := by decide +kernel
theorem dX5_takeToken_53 : decode cX5_takeToken 53 = .ok (.getfield 18, 3) := by decide +kernel
theorem dX5_takeToken_56 : decode cX5_takeToken 56 = .ok (.aload_n 0, 1) := by decide +kernel
theorem dX5_takeToken_57 : decode cX5_takeToken 57 = .ok (.getfield 63, 3) := by decide +kernel
theorem dX5_takeToken_60 : decode cX5_takeToken 60 = .ok (.iconst 0, 1) := by decide +kernel
theorem dX5_takeToken_61 : decode cX5_takeToken 61 = .ok (.invokevirtual 70, 3) := by decide +kernel
theorem dX5_takeToken_64 : decode cX5_takeToken 64 = .ok (.istore_n 1, 1) := by decide +kernel
theorem dX5_takeToken_65 : decode cX5_takeToken 65 = .ok (.aload_n 0, 1) := by decide +kernel
theorem dX5_takeToken_66 : decode cX5_takeToken 66 = .ok (.getfield 63, 3) := by decide +kernel
theorem dX5_takeToken_69 : decode cX5_takeToken 69 = .ok (.aload_n 0, 1) := by decide +kernel
theorem dX5_takeToken_70 : decode cX5_takeToken 70 = .ok (.getfield 18, 3) := by decide +kernel
theorem dX5_takeToken_73 : decode cX5_takeToken 73 = .ok (.getfield 58, 3) := by decide +kernel
theorem dX5_takeToken_76 : decode cX5_takeToken 76 = .ok (.if_icmp .lt 11, 3) := by decide +kernel
theorem dX5_takeToken_79 : decode cX5_takeToken 79 = .ok (.aload_n 0, 1) := by decide +kernel
theorem dX5_takeToken_80 : decode cX5_takeToken 80 = .ok (.iconst 0, 1) := by decide +kernel
theorem dX5_takeToken_81 : decode cX5_takeToken 81 = .ok (.putfield 49, 3) := by decide +kernel
theorem dX5_takeToken_84 : decode cX5_takeToken 84 = .ok (.goto 69, 3) := by decide +kernel
theorem dX5_takeToken_87 : decode cX5_takeToken 87 = .ok (.iload_n 1, 1) := by decide +kernel
theorem dX5_takeToken_88 : decode cX5_takeToken 88 = .ok (.invokestatic 74, 3) := by decide +kernel
theorem dX5_takeToken_91 : decode cX5_takeToken 91 = .ok (.ifCond .eq 15, 3) := by decide +kernel
theorem dX5_takeToken_94 : decode cX5_takeToken 94 = .ok (.aload_n 0, 1) := by decide +kernel
theorem dX5_takeToken_95 : decode cX5_takeToken 95 = .ok (.iconst 1, 1) := by decide +kernel
theorem dX5_takeToken_96 : decode cX5_takeToken 96 = .ok (.putfield 49, 3) := by decide +kernel
theorem dX5_takeToken_99 : decode cX5_takeToken 99 = .ok (.aload_n 0, 1) := by decide +kernel
theorem dX5_takeToken_100 : decode cX5_takeToken 100 = .ok (.invokevirtual 77, 3) := by decide +kernel
theorem dX5_takeToken_103 : decode cX5_takeToken 103 = .ok (.goto 50, 3) := by decide +kernel
theorem dX5_takeToken_106 : decode cX5_takeToken 106 = .ok (.iload_n 1, 1) := by decide +kernel
theorem dX5_takeToken_107 : decode cX5_takeToken 107 = .ok (.invokestatic 80, 3) := by decide +kernel
theorem dX5_takeToken_110 : decode cX5_takeToken 110 = .ok (.ifCond .eq 13, 3) := by decide +kernel
theorem dX5_takeToken_113 : decode cX5_takeToken 113 = .ok (.aload_n 0, 1) := by decide +kernel
theorem dX5_takeToken_114 : decode cX5_takeToken 114 = .ok (.iconst 2, 1) := by decide +kernel
theorem dX5_takeToken_115 : decode cX5_takeToken 115 = .ok (.putfield 49, 3) := by decide +kernel
theorem dX5_takeToken_118 : decode cX5_takeToken 118 = .ok (.aload_n 0, 1) := by decide +kernel
theorem dX5_takeToken_119 : decode cX5_takeToken 119 = .ok (.invokevirtual 83, 3) := by decide +kernel
theorem dX5_takeToken_122 : decode cX5_takeToken 122 = .ok (.ireturn, 1) := by decide +kernel
theorem dX5_takeToken_123 : decode cX5_takeToken 123 = .ok (.iload_n 1, 1) := by decide +kernel
theorem dX5_takeToken_124 : decode cX5_takeToken 124 = .ok (.bipush 59, 2) := by decide +kernel
theorem dX5_takeToken_126 : decode cX5_takeToken 126 = .ok (.if_icmp .ne 21, 3) := by decide +kernel
theorem dX5_takeToken_129 : decode cX5_takeToken 129 = .ok (.aload_n 0, 1) := by decide +kernel
theorem dX5_takeToken_130 : decode cX5_takeToken 130 = .ok (.iconst 3, 1) := by decide +kernel
theorem dX5_takeToken_131 : decode cX5_takeToken 131 = .ok (.putfield 49, 3) := by decide +kernel
theorem dX5_takeToken_134 : decode cX5_takeToken 134 = .ok (.aload_n 0, 1) := by decide +kernel
theorem dX5_takeToken_135 : decode cX5_takeToken 135 = .ok (.dup, 1) := by decide +kernel
theorem dX5_takeToken_136 : decode cX5_takeToken 136 = .ok (.getfield 35, 3) := by decide +kernel
theorem dX5_takeToken_139 : decode cX5_takeToken 139 = .ok (.iconst 1, 1) := by decide +kernel
theorem dX5_takeToken_140 : decode cX5_takeToken 140 = .ok (.iadd, 1) := by decide +kernel
theorem dX5_takeToken_141 : decode cX5_takeToken 141 = .ok (.putfield 35, 3) := by decide +kernel
theorem dX5_takeToken_144 : decode cX5_takeToken 144 = .ok (.goto 9, 3) := by decide +kernel
theorem dX5_takeToken_147 : decode cX5_takeToken 147 = .ok (.aload_n 0, 1) := by decide +kernel
theorem dX5_takeToken_148 : decode cX5_takeToken 148 = .ok (.iconst 1, 1) := by decide +kernel
theorem dX5_takeToken_149 : decode cX5_takeToken 149 = .ok (.invokevirtual 66, 3) := by decide +kernel
theorem dX5_takeToken_152 : decode cX5_takeToken 152 = .ok (.ireturn, 1) := by decide +kernel
theorem dX5_takeToken_153 : decode cX5_takeToken 153 = .ok (.iconst 1, 1) := by decide +kernel
theorem dX5_takeToken_154 : decode cX5_takeToken 154 = .ok (.ireturn, 1) := by decide +kernel
theorem dX5_passLetters_0 : decode cX5_passLetters 0 = .ok (.aload_n 0, 1) := by decide +kernel
theorem dX5_passLetters_1 : decode cX5_passLetters 1 = .ok (.getfield 35, 3) := by decide +kernel
theorem dX5_passLetters_4 : decode cX5_passLetters 4 = .ok (.aload_n 0, 1) := by decide +kernel
theorem dX5_passLetters_5 : decode cX5_passLetters 5 = .ok (.getfield 18, 3) := by decide +kernel
theorem dX5_passLetters_8 : decode cX5_passLetters 8 = .ok (.getfield 58, 3) := by decide +kernel
theorem dX5_passLetters_11 : decode cX5_passLetters 11 = .ok (.if_icmp .ge 34, 3) := by decide +kernel
theorem dX5_passLetters_14 : decode cX5_passLetters 14 = .ok (.aload_n 0, 1) := by decide +kernel
theorem dX5_passLetters_15 : decode cX5_passLetters 15 = .ok (.getfield 18, 3) := by decide +kernel
theorem dX5_passLetters_18 : decode cX5_passLetters 18 = .ok (.aload_n 0, 1) := by decide +kernel
theorem dX5_passLetters_19 : decode cX5_passLetters 19 = .ok (.getfield 35, 3) := by decide +kernel
theorem dX5_passLetters_22 : decode cX5_passLetters 22 = .ok (.iconst 0, 1) := by decide +kernel
theorem dX5_passLetters_23 : decode cX5_passLetters 23 = .ok (.invokevirtual 70, 3) := by decide +kernel
theorem dX5_passLetters_26 : decode cX5_passLetters 26 = .ok (.invokestatic 74, 3) := by decide +kernel
theorem dX5_passLetters_29 : decode cX5_passLetters 29 = .ok (.ifCond .eq 16, 3) := by decide +kernel
theorem dX5_passLetters_32 : decode cX5_passLetters 32 = .ok (.aload_n 0, 1) := by decide +kernel
theorem dX5_passLetters_33 : decode cX5_passLetters 33 = .ok (.dup, 1) := by decide +kernel
theorem dX5_passLetters_34 : decode cX5_passLetters 34 = .ok (.getfield 35, 3) := by decide +kernel
theorem dX5_passLetters_37 : decode cX5_passLetters 37 = .ok (.iconst 1, 1) := by decide +kernel
theorem dX5_passLetters_38 : decode cX5_passLetters 38 = .ok (.iadd, 1) := by decide +kernel
theorem dX5_passLetters_39 : decode cX5_passLetters 39 = .ok (.putfield 35, 3) := by decide +kernel
theorem dX5_passLetters_42 : decode cX5_passLetters 42 = .ok (.goto (-42), 3) := by decide +kernel
theorem dX5_passLetters_45 : decode cX5_passLetters 45 = .ok (.return_, 1) := by decide +kernel
theorem dX5_takeFigures_0 : decode cX5_takeFigures 0 = .ok (.aload_n 0, 1) := by decide +kernel
theorem dX5_takeFigures_1 : decode cX5_takeFigures 1 = .ok (.iconst 0, 1) := by decide +kernel
theorem dX5_takeFigures_2 : decode cX5_takeFigures 2 = .ok (.putfield 86, 3) := by decide +kernel
theorem dX5_takeFigures_5 : decode cX5_takeFigures 5 = .ok (.aload_n 0, 1) := by decide +kernel
theorem dX5_takeFigures_6 : decode cX5_takeFigures 6 = .ok (.getfield 35, 3) := by decide +kernel
theorem dX5_takeFigures_9 : decode cX5_takeFigures 9 = .ok (.aload_n 0, 1) := by decide +kernel
theorem dX5_takeFigures_10 : decode cX5_takeFigures 10 = .ok (.getfield 18, 3) := by decide +kernel
theorem dX5_takeFigures_13 : decode cX5_takeFigures 13 = .ok (.getfield 58, 3) := by decide +kernel
theorem dX5_takeFigures_16 : decode cX5_takeFigures 16 = .ok (.if_icmp .ge 80, 3) := by decide +kernel
theorem dX5_takeFigures_19 : decode cX5_takeFigures 19 = .ok (.aload_n 0, 1) := by decide +kernel
theorem dX5_takeFigures_20 : decode cX5_takeFigures 20 = .ok (.getfield 18, 3) := by decide +kernel
theorem dX5_takeFigures_23 : decode cX5_takeFigures 23 = .ok (.aload_n 0, 1) := by decide +kernel
theorem dX5_takeFigures_24 : decode cX5_takeFigures 24 = .ok (.getfield 35, 3) := by decide +kernel
theorem dX5_takeFigures_27 : decode cX5_takeFigures 27 = .ok (.iconst 0, 1) := by decide +kernel
theorem dX5_takeFigures_28 : decode cX5_takeFigures 28 = .ok (.invokevirtual 70, 3) := by decide +kernel
theorem dX5_takeFigures_31 : decode cX5_takeFigures 31 = .ok (.invokestatic 80, 3) := by decide +kernel
theorem dX5_takeFigures_34 : decode cX5_takeFigures 34 = .ok (.ifCond .eq 62, 3) := by decide +kernel
theorem dX5_takeFigures_37 : decode cX5_takeFigures 37 = .ok (.aload_n 0, 1) := by decide +kernel
theorem dX5_takeFigures_38 : decode cX5_takeFigures 38 = .ok (.getfield 35, 3) := by decide +kernel
theorem dX5_takeFigures_41 : decode cX5_takeFigures 41 = .ok (.aload_n 0, 1) := by decide +kernel
theorem dX5_takeFigures_42 : decode cX5_takeFigures 42 = .ok (.getfield 63, 3) := by decide +kernel
theorem dX5_takeFigures_45 : decode cX5_takeFigures 45 = .ok (.isub, 1) := by decide +kernel
theorem dX5_takeFigures_46 : decode cX5_takeFigures 46 = .ok (.iconst 2, 1) := by decide +kernel
theorem dX5_takeFigures_47 : decode cX5_takeFigures 47 = .ok (.if_icmp .lt 9, 3) := by decide +kernel
theorem dX5_takeFigures_50 : decode cX5_takeFigures 50 = .ok (.aload_n 0, 1) := by decide +kernel
theorem dX5_takeFigures_51 : decode cX5_takeFigures 51 = .ok (.iconst 1, 1) := by decide +kernel
theorem dX5_takeFigures_52 : decode cX5_takeFigures 52 = .ok (.invokevirtual 66, 3) := by decide +kernel
theorem dX5_takeFigures_55 : decode cX5_takeFigures 55 = .ok (.ireturn, 1) := by decide +kernel
theorem dX5_takeFigures_56 : decode cX5_takeFigures 56 = .ok (.aload_n 0, 1) := by decide +kernel
theorem dX5_takeFigures_57 : decode cX5_takeFigures 57 = .ok (.aload_n 0, 1) := by decide +kernel
theorem dX5_takeFigures_58 : decode cX5_takeFigures 58 = .ok (.getfield 86, 3) := by decide +kernel
theorem dX5_takeFigures_61 : decode cX5_takeFigures 61 = .ok (.bipush 10, 2) := by decide +kernel
theorem dX5_takeFigures_63 : decode cX5_takeFigures 63 = .ok (.imul, 1) := by decide +kernel
theorem dX5_takeFigures_64 : decode cX5_takeFigures 64 = .ok (.aload_n 0, 1) := by decide +kernel
theorem dX5_takeFigures_65 : decode cX5_takeFigures 65 = .ok (.getfield 18, 3) := by decide +kernel
theorem dX5_takeFigures_68 : decode cX5_takeFigures 68 = .ok (.aload_n 0, 1) := by decide +kernel
theorem dX5_takeFigures_69 : decode cX5_takeFigures 69 = .ok (.getfield 35, 3) := by decide +kernel
theorem dX5_takeFigures_72 : decode cX5_takeFigures 72 = .ok (.iconst 0, 1) := by decide +kernel
theorem dX5_takeFigures_73 : decode cX5_takeFigures 73 = .ok (.invokevirtual 70, 3) := by decide +kernel
theorem dX5_takeFigures_76 : decode cX5_takeFigures 76 = .ok (.iadd, 1) := by decide +kernel
theorem dX5_takeFigures_77 : decode cX5_takeFigures 77 = .ok (.bipush 48, 2) := by decide +kernel
theorem dX5_takeFigures_79 : decode cX5_takeFigures 79 = .ok (.isub, 1) := by decide +kernel
theorem dX5_takeFigures_80 : decode cX5_takeFigures 80 = .ok (.putfield 86, 3) := by decide +kernel
theorem dX5_takeFigures_83 : decode cX5_takeFigures 83 = .ok (.aload_n 0, 1) := by decide +kernel
theorem dX5_takeFigures_84 : decode cX5_takeFigures 84 = .ok (.dup, 1) := by decide +kernel
theorem dX5_takeFigures_85 : decode cX5_takeFigures 85 = .ok (.getfield 35, 3) := by decide +kernel
theorem dX5_takeFigures_88 : decode cX5_takeFigures 88 = .ok (.iconst 1, 1) := by decide +kernel
theorem dX5_takeFigures_89 : decode cX5_takeFigures 89 = .ok (.iadd, 1) := by decide +kernel
theorem dX5_takeFigures_90 : decode cX5_takeFigures 90 = .ok (.putfield 35, 3) := by decide +kernel
theorem dX5_takeFigures_93 : decode cX5_takeFigures 93 = .ok (.goto (-88), 3) := by decide +kernel
theorem dX5_takeFigures_96 : decode cX5_takeFigures 96 = .ok (.iconst 1, 1) := by decide +kernel
theorem dX5_takeFigures_97 : decode cX5_takeFigures 97 = .ok (.ireturn, 1) := by decide +kernel
theorem dX5_isWord_0 : decode cX5_isWord 0 = .ok (.aload_n 0, 1) := by decide +kernel
theorem dX5_isWord_1 : decode cX5_isWord 1 = .ok (.getfield 35, 3) := by decide +kernel
theorem dX5_isWord_4 : decode cX5_isWord 4 = .ok (.aload_n 0, 1) := by decide +kernel
theorem dX5_isWord_5 : decode cX5_isWord 5 = .ok (.getfield 63, 3) := by decide +kernel
theorem dX5_isWord_8 : decode cX5_isWord 8 = .ok (.isub, 1) := by decide +kernel
theorem dX5_isWord_9 : decode cX5_isWord 9 = .ok (.aload_n 1, 1) := by decide +kernel
theorem dX5_isWord_10 : decode cX5_isWord 10 = .ok (.invokevirtual 89, 3) := by decide +kernel
theorem dX5_isWord_13 : decode cX5_isWord 13 = .ok (.if_icmp .eq 5, 3) := by decide +kernel
theorem dX5_isWord_16 : decode cX5_isWord 16 = .ok (.iconst 0, 1) := by decide +kernel
theorem dX5_isWord_17 : decode cX5_isWord 17 = .ok (.ireturn, 1) := by decide +kernel
theorem dX5_isWord_18 : decode cX5_isWord 18 = .ok (.iconst 0, 1) := by decide +kernel
theorem dX5_isWord_19 : decode cX5_isWord 19 = .ok (.istore_n 2, 1) := by decide +kernel
theorem dX5_isWord_20 : decode cX5_isWord 20 = .ok (.iload_n 2, 1) := by decide +kernel
theorem dX5_isWord_21 : decode cX5_isWord 21 = .ok (.aload_n 1, 1) := by decide +kernel
theorem dX5_isWord_22 : decode cX5_isWord 22 = .ok (.invokevirtual 89, 3) := by decide +kernel
theorem dX5_isWord_25 : decode cX5_isWord 25 = .ok (.if_icmp .ge 33, 3) := by decide +kernel
theorem dX5_isWord_28 : decode cX5_isWord 28 = .ok (.aload_n 0, 1) := by decide +kernel
theorem dX5_isWord_29 : decode cX5_isWord 29 = .ok (.getfield 18, 3) := by decide +kernel
theorem dX5_isWord_32 : decode cX5_isWord 32 = .ok (.aload_n 0, 1) := by decide +kernel
theorem dX5_isWord_33 : decode cX5_isWord 33 = .ok (.getfield 63, 3) := by decide +kernel
theorem dX5_isWord_36 : decode cX5_isWord 36 = .ok (.iload_n 2, 1) := by decide +kernel
theorem dX5_isWord_37 : decode cX5_isWord 37 = .ok (.iadd, 1) := by decide +kernel
theorem dX5_isWord_38 : decode cX5_isWord 38 = .ok (.iconst 0, 1) := by decide +kernel
theorem dX5_isWord_39 : decode cX5_isWord 39 = .ok (.invokevirtual 70, 3) := by decide +kernel
theorem dX5_isWord_42 : decode cX5_isWord 42 = .ok (.aload_n 1, 1) := by decide +kernel
theorem dX5_isWord_43 : decode cX5_isWord 43 = .ok (.iload_n 2, 1) := by decide +kernel
theorem dX5_isWord_44 : decode cX5_isWord 44 = .ok (.invokevirtual 95, 3) := by decide +kernel
theorem dX5_isWord_47 : decode cX5_isWord 47 = .ok (.if_icmp .eq 5, 3) := by decide +kernel
theorem dX5_isWord_50 : decode cX5_isWord 50 = .ok (.iconst 0, 1) := by decide +kernel
theorem dX5_isWord_51 : decode cX5_isWord 51 = .ok (.ireturn, 1) := by decide +kernel
theorem dX5_isWord_52 : decode cX5_isWord 52 = .ok (.iinc 2 1, 3) := by decide +kernel
theorem dX5_isWord_55 : decode cX5_isWord 55 = .ok (.goto (-35), 3) := by decide +kernel
theorem dX5_isWord_58 : decode cX5_isWord 58 = .ok (.iconst 1, 1) := by decide +kernel
theorem dX5_isWord_59 : decode cX5_isWord 59 = .ok (.ireturn, 1) := by decide +kernel
theorem dX5_takeLine_0 : decode cX5_takeLine 0 = .ok (.aload_n 0, 1) := by decide +kernel
theorem dX5_takeLine_1 : decode cX5_takeLine 1 = .ok (.getfield 49, 3) := by decide +kernel
theorem dX5_takeLine_4 : decode cX5_takeLine 4 = .ok (.iconst 1, 1) := by decide +kernel
theorem dX5_takeLine_5 : decode cX5_takeLine 5 = .ok (.if_icmp .eq 9, 3) := by decide +kernel
theorem dX5_takeLine_8 : decode cX5_takeLine 8 = .ok (.aload_n 0, 1) := by decide +kernel
theorem dX5_takeLine_9 : decode cX5_takeLine 9 = .ok (.iconst 2, 1) := by decide +kernel
theorem dX5_takeLine_10 : decode cX5_takeLine 10 = .ok (.invokevirtual 66, 3) := by decide +kernel
theorem dX5_takeLine_13 : decode cX5_takeLine 13 = .ok (.ireturn, 1) := by decide +kernel
theorem dX5_takeLine_14 : decode cX5_takeLine 14 = .ok (.aload_n 0, 1) := by decide +kernel
theorem dX5_takeLine_15 : decode cX5_takeLine 15 = .ok (.ldc 99, 2) := by decide +kernel
theorem dX5_takeLine_17 : decode cX5_takeLine 17 = .ok (.invokevirtual 101, 3) := by decide +kernel
theorem dX5_takeLine_20 : decode cX5_takeLine 20 = .ok (.ifCond .eq 9, 3) := by decide +kernel
theorem dX5_takeLine_23 : decode cX5_takeLine 23 = .ok (.aload_n 0, 1) := by decide +kernel
theorem dX5_takeLine_24 : decode cX5_takeLine 24 = .ok (.iconst 0, 1) := by decide +kernel
theorem dX5_takeLine_25 : decode cX5_takeLine 25 = .ok (.invokevirtual 105, 3) := by decide +kernel
theorem dX5_takeLine_28 : decode cX5_takeLine 28 = .ok (.ireturn, 1) := by decide +kernel
theorem dX5_takeLine_29 : decode cX5_takeLine 29 = .ok (.aload_n 0, 1) := by decide +kernel
theorem dX5_takeLine_30 : decode cX5_takeLine 30 = .ok (.ldc 108, 2) := by decide +kernel
theorem dX5_takeLine_32 : decode cX5_takeLine 32 = .ok (.invokevirtual 101, 3) := by decide +kernel
theorem dX5_takeLine_35 : decode cX5_takeLine 35 = .ok (.ifCond .eq 9, 3) := by decide +kernel
theorem dX5_takeLine_38 : decode cX5_takeLine 38 = .ok (.aload_n 0, 1) := by decide +kernel
theorem dX5_takeLine_39 : decode cX5_takeLine 39 = .ok (.iconst 1, 1) := by decide +kernel
theorem dX5_takeLine_40 : decode cX5_takeLine 40 = .ok (.invokevirtual 105, 3) := by decide +kernel
theorem dX5_takeLine_43 : decode cX5_takeLine 43 = .ok (.ireturn, 1) := by decide +kernel
theorem dX5_takeLine_44 : decode cX5_takeLine 44 = .ok (.aload_n 0, 1) := by decide +kernel
theorem dX5_takeLine_45 : decode cX5_takeLine 45 = .ok (.ldc 110, 2) := by decide +kernel
theorem dX5_takeLine_47 : decode cX5_takeLine 47 = .ok (.invokevirtual 101, 3) := by decide +kernel
theorem dX5_takeLine_50 : decode cX5_takeLine 50 = .ok (.ifCond .eq 9, 3) := by decide +kernel
theorem dX5_takeLine_53 : decode cX5_takeLine 53 = .ok (.aload_n 0, 1) := by decide +kernel
theorem dX5_takeLine_54 : decode cX5_takeLine 54 = .ok (.iconst 2, 1) := by decide +kernel
theorem dX5_takeLine_55 : decode cX5_takeLine 55 = .ok (.invokevirtual 105, 3) := by decide +kernel
theorem dX5_takeLine_58 : decode cX5_takeLine 58 = .ok (.ireturn, 1) := by decide +kernel
theorem dX5_takeLine_59 : decode cX5_takeLine 59 = .ok (.aload_n 0, 1) := by decide +kernel
theorem dX5_takeLine_60 : decode cX5_takeLine 60 = .ok (.ldc 112, 2) := by decide +kernel
theorem dX5_takeLine_62 : decode cX5_takeLine 62 = .ok (.invokevirtual 101, 3) := by decide +kernel
theorem dX5_takeLine_65 : decode cX5_takeLine 65 = .ok (.ifCond .eq 9, 3) := by decide +kernel
theorem dX5_takeLine_68 : decode cX5_takeLine 68 = .ok (.aload_n 0, 1) := by decide +kernel
theorem dX5_takeLine_69 : decode cX5_takeLine 69 = .ok (.iconst 3, 1) := by decide +kernel
theorem dX5_takeLine_70 : decode cX5_takeLine 70 = .ok (.invokevirtual 105, 3) := by decide +kernel
theorem dX5_takeLine_73 : decode cX5_takeLine 73 = .ok (.ireturn, 1) := by decide +kernel
theorem dX5_takeLine_74 : decode cX5_takeLine 74 = .ok (.aload_n 0, 1) := by decide +kernel
theorem dX5_takeLine_75 : decode cX5_takeLine 75 = .ok (.ldc 114, 2) := by decide +kernel
theorem dX5_takeLine_77 : decode cX5_takeLine 77 = .ok (.invokevirtual 101, 3) := by decide +kernel
theorem dX5_takeLine_80 : decode cX5_takeLine 80 = .ok (.ifCond .eq 8, 3) := by decide +kernel
theorem dX5_takeLine_83 : decode cX5_takeLine 83 = .ok (.aload_n 0, 1) := by decide +kernel
theorem dX5_takeLine_84 : decode cX5_takeLine 84 = .ok (.invokevirtual 116, 3) := by decide +kernel
theorem dX5_takeLine_87 : decode cX5_takeLine 87 = .ok (.ireturn, 1) := by decide +kernel
theorem dX5_takeLine_88 : decode cX5_takeLine 88 = .ok (.aload_n 0, 1) := by decide +kernel
theorem dX5_takeLine_89 : decode cX5_takeLine 89 = .ok (.ldc 119, 2) := by decide +kernel
theorem dX5_takeLine_91 : decode cX5_takeLine 91 = .ok (.invokevirtual 101, 3) := by decide +kernel
theorem dX5_takeLine_94 : decode cX5_takeLine 94 = .ok (.ifCond .eq 8, 3) := by decide +kernel
theorem dX5_takeLine_97 : decode cX5_takeLine 97 = .ok (.aload_n 0, 1) := by decide +kernel
theorem dX5_takeLine_98 : decode cX5_takeLine 98 = .ok (.invokevirtual 121, 3) := by decide +kernel
theorem dX5_takeLine_101 : decode cX5_takeLine 101 = .ok (.ireturn, 1) := by decide +kernel
theorem dX5_takeLine_102 : decode cX5_takeLine 102 = .ok (.aload_n 0, 1) := by decide +kernel
theorem dX5_takeLine_103 : decode cX5_takeLine 103 = .ok (.ldc 124, 2) := by decide +kernel
theorem dX5_takeLine_105 : decode cX5_takeLine 105 = .ok (.invokevirtual 101, 3) := by decide +kernel
theorem dX5_takeLine_108 : decode cX5_takeLine 108 = .ok (.ifCond .eq 8, 3) := by decide +kernel
theorem dX5_takeLine_111 : decode cX5_takeLine 111 = .ok (.aload_n 0, 1) := by decide +kernel
theorem dX5_takeLine_112 : decode cX5_takeLine 112 = .ok (.invokevirtual 126, 3) := by decide +kernel
theorem dX5_takeLine_115 : decode cX5_takeLine 115 = .ok (.ireturn, 1) := by decide +kernel
theorem dX5_takeLine_116 : decode cX5_takeLine 116 = .ok (.aload_n 0, 1) := by decide +kernel
theorem dX5_takeLine_117 : decode cX5_takeLine 117 = .ok (.ldc 129, 2) := by decide +kernel
theorem dX5_takeLine_119 : decode cX5_takeLine 119 = .ok (.invokevirtual 101, 3) := by decide +kernel
theorem dX5_takeLine_122 : decode cX5_takeLine 122 = .ok (.ifCond .eq 8, 3) := by decide +kernel
theorem dX5_takeLine_125 : decode cX5_takeLine 125 = .ok (.aload_n 0, 1) := by decide +kernel
theorem dX5_takeLine_126 : decode cX5_takeLine 126 = .ok (.invokevirtual 131, 3) := by decide +kernel
theorem dX5_takeLine_129 : decode cX5_takeLine 129 = .ok (.ireturn, 1) := by decide +kernel
theorem dX5_takeLine_130 : decode cX5_takeLine 130 = .ok (.aload_n 0, 1) := by decide +kernel
theorem dX5_takeLine_131 : decode cX5_takeLine 131 = .ok (.ldc 134, 2) := by decide +kernel
theorem dX5_takeLine_133 : decode cX5_takeLine 133 = .ok (.invokevirtual 101, 3) := by decide +kernel
theorem dX5_takeLine_136 : decode cX5_takeLine 136 = .ok (.ifCond .eq 10, 3) := by decide +kernel
theorem dX5_takeLine_139 : decode cX5_takeLine 139 = .ok (.aload_n 0, 1) := by decide +kernel
theorem dX5_takeLine_140 : decode cX5_takeLine 140 = .ok (.invokevirtual 136, 3) := by decide +kernel
theorem dX5_takeLine_143 : decode cX5_takeLine 143 = .ok (.goto 8, 3) := by decide +kernel
theorem dX5_takeLine_146 : decode cX5_takeLine 146 = .ok (.aload_n 0, 1) := by decide +kernel
theorem dX5_takeLine_147 : decode cX5_takeLine 147 = .ok (.iconst 2, 1) := by decide +kernel
theorem dX5_takeLine_148 : decode cX5_takeLine 148 = .ok (.invokevirtual 66, 3) := by decide +kernel
theorem dX5_takeLine_151 : decode cX5_takeLine 151 = .ok (.ireturn, 1) := by decide +kernel
theorem dX5_takeNumber_0 : decode cX5_takeNumber 0 = .ok (.aload_n 0, 1) := by decide +kernel
theorem dX5_takeNumber_1 : decode cX5_takeNumber 1 = .ok (.invokevirtual 45, 3) := by decide +kernel
theorem dX5_takeNumber_4 : decode cX5_takeNumber 4 = .ok (.ifCond .ne 5, 3) := by decide +kernel
theorem dX5_takeNumber_7 : decode cX5_takeNumber 7 = .ok (.iconst 0, 1) := by decide +kernel
theorem dX5_takeNumber_8 : decode cX5_takeNumber 8 = .ok (.ireturn, 1) := by decide +kernel
theorem dX5_takeNumber_9 : decode cX5_takeNumber 9 = .ok (.aload_n 0, 1) := by decide +kernel
theorem dX5_takeNumber_10 : decode cX5_takeNumber 10 = .ok (.getfield 49, 3) := by decide +kernel
theorem dX5_takeNumber_13 : decode cX5_takeNumber 13 = .ok (.iconst 2, 1) := by decide +kernel
theorem dX5_takeNumber_14 : decode cX5_takeNumber 14 = .ok (.if_icmp .eq 9, 3) := by decide +kernel
theorem dX5_takeNumber_17 : decode cX5_takeNumber 17 = .ok (.aload_n 0, 1) := by decide +kernel
theorem dX5_takeNumber_18 : decode cX5_takeNumber 18 = .ok (.iconst 2, 1) := by decide +kernel
theorem dX5_takeNumber_19 : decode cX5_takeNumber 19 = .ok (.invokevirtual 66, 3) := by decide +kernel
theorem dX5_takeNumber_22 : decode cX5_takeNumber 22 = .ok (.ireturn, 1) := by decide +kernel
theorem dX5_takeNumber_23 : decode cX5_takeNumber 23 = .ok (.aload_n 0, 1) := by decide +kernel
theorem dX5_takeNumber_24 : decode cX5_takeNumber 24 = .ok (.getfield 86, 3) := by decide +kernel
theorem dX5_takeNumber_27 : decode cX5_takeNumber 27 = .ok (.iload_n 1, 1) := by decide +kernel
theorem dX5_takeNumber_28 : decode cX5_takeNumber 28 = .ok (.if_icmp .lt 11, 3) := by decide +kernel
theorem dX5_takeNumber_31 : decode cX5_takeNumber 31 = .ok (.aload_n 0, 1) := by decide +kernel
theorem dX5_takeNumber_32 : decode cX5_takeNumber 32 = .ok (.getfield 86, 3) := by decide +kernel
theorem dX5_takeNumber_35 : decode cX5_takeNumber 35 = .ok (.iload_n 2, 1) := by decide +kernel
theorem dX5_takeNumber_36 : decode cX5_takeNumber 36 = .ok (.if_icmp .le 11, 3) := by decide +kernel
theorem dX5_takeNumber_39 : decode cX5_takeNumber 39 = .ok (.aload_n 0, 1) := by decide +kernel
theorem dX5_takeNumber_40 : decode cX5_takeNumber 40 = .ok (.iconst 3, 1) := by decide +kernel
theorem dX5_takeNumber_41 : decode cX5_takeNumber 41 = .ok (.invokevirtual 66, 3) := by decide +kernel
theorem dX5_takeNumber_44 : decode cX5_takeNumber 44 = .ok (.ifCond .eq 7, 3) := by decide +kernel
theorem dX5_takeNumber_47 : decode cX5_takeNumber 47 = .ok (.iconst 1, 1) := by decide +kernel
theorem dX5_takeNumber_48 : decode cX5_takeNumber 48 = .ok (.goto 4, 3) := by decide +kernel
theorem dX5_takeNumber_51 : decode cX5_takeNumber 51 = .ok (.iconst 0, 1) := by decide +kernel
theorem dX5_takeNumber_52 : decode cX5_takeNumber 52 = .ok (.ireturn, 1) := by decide +kernel
theorem dX5_takeStop_0 : decode cX5_takeStop 0 = .ok (.aload_n 0, 1) := by decide +kernel
theorem dX5_takeStop_1 : decode cX5_takeStop 1 = .ok (.invokevirtual 45, 3) := by decide +kernel
theorem dX5_takeStop_4 : decode cX5_takeStop 4 = .ok (.ifCond .eq 23, 3) := by decide +kernel
theorem dX5_takeStop_7 : decode cX5_takeStop 7 = .ok (.aload_n 0, 1) := by decide +kernel
theorem dX5_takeStop_8 : decode cX5_takeStop 8 = .ok (.getfield 49, 3) := by decide +kernel
theorem dX5_takeStop_11 : decode cX5_takeStop 11 = .ok (.iconst 3, 1) := by decide +kernel
theorem dX5_takeStop_12 : decode cX5_takeStop 12 = .ok (.if_icmp .eq 11, 3) := by decide +kernel
theorem dX5_takeStop_15 : decode cX5_takeStop 15 = .ok (.aload_n 0, 1) := by decide +kernel
theorem dX5_takeStop_16 : decode cX5_takeStop 16 = .ok (.iconst 2, 1) := by decide +kernel
theorem dX5_takeStop_17 : decode cX5_takeStop 17 = .ok (.invokevirtual 66, 3) := by decide +kernel
theorem dX5_takeStop_20 : decode cX5_takeStop 20 = .ok (.ifCond .eq 7, 3) := by decide +kernel
theorem dX5_takeStop_23 : decode cX5_takeStop 23 = .ok (.iconst 1, 1) := by decide +kernel
theorem dX5_takeStop_24 : decode cX5_takeStop 24 = .ok (.goto 4, 3) := by decide +kernel
theorem dX5_takeStop_27 : decode cX5_takeStop 27 = .ok (.iconst 0, 1) := by decide +kernel
theorem dX5_takeStop_28 : decode cX5_takeStop 28 = .ok (.ireturn, 1) := by decide +kernel
theorem dX5_hasRoom_0 : decode cX5_hasRoom 0 = .ok (.aload_n 1, 1) := by decide +kernel
theorem dX5_hasRoom_1 : decode cX5_hasRoom 1 = .ok (.getfield 58, 3) := by decide +kernel
theorem dX5_hasRoom_4 : decode cX5_hasRoom 4 = .ok (.aload_n 1, 1) := by decide +kernel
theorem dX5_hasRoom_5 : decode cX5_hasRoom 5 = .ok (.getfield 139, 3) := by decide +kernel
theorem dX5_hasRoom_8 : decode cX5_hasRoom 8 = .ok (.if_icmp .lt 11, 3) := by decide +kernel
theorem dX5_hasRoom_11 : decode cX5_hasRoom 11 = .ok (.aload_n 0, 1) := by decide +kernel
theorem dX5_hasRoom_12 : decode cX5_hasRoom 12 = .ok (.iconst 5, 1) := by decide +kernel
theorem dX5_hasRoom_13 : decode cX5_hasRoom 13 = .ok (.invokevirtual 66, 3) := by decide +kernel
theorem dX5_hasRoom_16 : decode cX5_hasRoom 16 = .ok (.ifCond .eq 7, 3) := by decide +kernel
theorem dX5_hasRoom_19 : decode cX5_hasRoom 19 = .ok (.iconst 1, 1) := by decide +kernel
theorem dX5_hasRoom_20 : decode cX5_hasRoom 20 = .ok (.goto 4, 3) := by decide +kernel
theorem dX5_hasRoom_23 : decode cX5_hasRoom 23 = .ok (.iconst 0, 1) := by decide +kernel
theorem dX5_hasRoom_24 : decode cX5_hasRoom 24 = .ok (.ireturn, 1) := by decide +kernel
theorem dX5_takeOne_0 : decode cX5_takeOne 0 = .ok (.aload_n 0, 1) := by decide +kernel
theorem dX5_takeOne_1 : decode cX5_takeOne 1 = .ok (.aload_n 0, 1) := by decide +kernel
theorem dX5_takeOne_2 : decode cX5_takeOne 2 = .ok (.getfield 12, 3) := by decide +kernel
theorem dX5_takeOne_5 : decode cX5_takeOne 5 = .ok (.getfield 142, 3) := by decide +kernel
theorem dX5_takeOne_8 : decode cX5_takeOne 8 = .ok (.invokevirtual 145, 3) := by decide +kernel
theorem dX5_takeOne_11 : decode cX5_takeOne 11 = .ok (.ifCond .eq 19, 3) := by decide +kernel
theorem dX5_takeOne_14 : decode cX5_takeOne 14 = .ok (.aload_n 0, 1) := by decide +kernel
theorem dX5_takeOne_15 : decode cX5_takeOne 15 = .ok (.iconst 0, 1) := by decide +kernel
theorem dX5_takeOne_16 : decode cX5_takeOne 16 = .ok (.iconst 2, 1) := by decide +kernel
theorem dX5_takeOne_17 : decode cX5_takeOne 17 = .ok (.invokevirtual 149, 3) := by decide +kernel
theorem dX5_takeOne_20 : decode cX5_takeOne 20 = .ok (.ifCond .eq 10, 3) := by decide +kernel
theorem dX5_takeOne_23 : decode cX5_takeOne 23 = .ok (.aload_n 0, 1) := by decide +kernel
theorem dX5_takeOne_24 : decode cX5_takeOne 24 = .ok (.invokevirtual 153, 3) := by decide +kernel
theorem dX5_takeOne_27 : decode cX5_takeOne 27 = .ok (.ifCond .ne 5, 3) := by decide +kernel
theorem dX5_takeOne_30 : decode cX5_takeOne 30 = .ok (.iconst 0, 1) := by decide +kernel
theorem dX5_takeOne_31 : decode cX5_takeOne 31 = .ok (.ireturn, 1) := by decide +kernel
theorem dX5_takeOne_32 : decode cX5_takeOne 32 = .ok (.aload_n 0, 1) := by decide +kernel
theorem dX5_takeOne_33 : decode cX5_takeOne 33 = .ok (.getfield 12, 3) := by decide +kernel
theorem dX5_takeOne_36 : decode cX5_takeOne 36 = .ok (.getfield 142, 3) := by decide +kernel
theorem dX5_takeOne_39 : decode cX5_takeOne 39 = .ok (.iload_n 1, 1) := by decide +kernel
theorem dX5_takeOne_40 : decode cX5_takeOne 40 = .ok (.aload_n 0, 1) := by decide +kernel
theorem dX5_takeOne_41 : decode cX5_takeOne 41 = .ok (.getfield 86, 3) := by decide +kernel
theorem dX5_takeOne_44 : decode cX5_takeOne 44 = .ok (.iconst 0, 1) := by decide +kernel
theorem dX5_takeOne_45 : decode cX5_takeOne 45 = .ok (.iconst 0, 1) := by decide +kernel
theorem dX5_takeOne_46 : decode cX5_takeOne 46 = .ok (.invokevirtual 156, 3) := by decide +kernel
theorem dX5_takeOne_49 : decode cX5_takeOne 49 = .ok (.pop, 1) := by decide +kernel
theorem dX5_takeOne_50 : decode cX5_takeOne 50 = .ok (.iconst 1, 1) := by decide +kernel
theorem dX5_takeOne_51 : decode cX5_takeOne 51 = .ok (.ireturn, 1) := by decide +kernel
theorem dX5_takeThing_0 : decode cX5_takeThing 0 = .ok (.aload_n 0, 1) := by decide +kernel
theorem dX5_takeThing_1 : decode cX5_takeThing 1 = .ok (.iconst 0, 1) := by decide +kernel
theorem dX5_takeThing_2 : decode cX5_takeThing 2 = .ok (.iconst 2, 1) := by decide +kernel
theorem dX5_takeThing_3 : decode cX5_takeThing 3 = .ok (.invokevirtual 149, 3) := by decide +kernel
theorem dX5_takeThing_6 : decode cX5_takeThing 6 = .ok (.ifCond .ne 5, 3) := by decide +kernel
theorem dX5_takeThing_9 : decode cX5_takeThing 9 = .ok (.iconst 0, 1) := by decide +kernel
theorem dX5_takeThing_10 : decode cX5_takeThing 10 = .ok (.ireturn, 1) := by decide +kernel
theorem dX5_takeThing_11 : decode cX5_takeThing 11 = .ok (.aload_n 0, 1) := by decide +kernel
theorem dX5_takeThing_12 : decode cX5_takeThing 12 = .ok (.getfield 86, 3) := by decide +kernel
theorem dX5_takeThing_15 : decode cX5_takeThing 15 = .ok (.istore_n 1, 1) := by decide +kernel
theorem dX5_takeThing_16 : decode cX5_takeThing 16 = .ok (.aload_n 0, 1) := by decide +kernel
theorem dX5_takeThing_17 : decode cX5_takeThing 17 = .ok (.getfield 38, 3) := by decide +kernel
theorem dX5_takeThing_20 : decode cX5_takeThing 20 = .ok (.iconst 1, 1) := by decide +kernel
theorem dX5_takeThing_21 : decode cX5_takeThing 21 = .ok (.iload_n 1, 1) := by decide +kernel
theorem dX5_takeThing_22 : decode cX5_takeThing 22 = .ok (.ishl, 1) := by decide +kernel
theorem dX5_takeThing_23 : decode cX5_takeThing 23 = .ok (.iand, 1) := by decide +kernel
theorem dX5_takeThing_24 : decode cX5_takeThing 24 = .ok (.ifCond .eq 9, 3) := by decide +kernel
theorem dX5_takeThing_27 : decode cX5_takeThing 27 = .ok (.aload_n 0, 1) := by decide +kernel
theorem dX5_takeThing_28 : decode cX5_takeThing 28 = .ok (.iconst 4, 1) := by decide +kernel
theorem dX5_takeThing_29 : decode cX5_takeThing 29 = .ok (.invokevirtual 66, 3) := by decide +kernel
theorem dX5_takeThing_32 : decode cX5_takeThing 32 = .ok (.ireturn, 1) := by decide +kernel
theorem dX5_takeThing_33 : decode cX5_takeThing 33 = .ok (.aload_n 0, 1) := by decide +kernel
theorem dX5_takeThing_34 : decode cX5_takeThing 34 = .ok (.iconst 0, 1) := by decide +kernel
theorem dX5_takeThing_35 : decode cX5_takeThing 35 = .ok (.bipush 9, 2) := by decide +kernel
theorem dX5_takeThing_37 : decode cX5_takeThing 37 = .ok (.invokevirtual 149, 3) := by decide +kernel
theorem dX5_takeThing_40 : decode cX5_takeThing 40 = .ok (.ifCond .eq 10, 3) := by decide +kernel
theorem dX5_takeThing_43 : decode cX5_takeThing 43 = .ok (.aload_n 0, 1) := by decide +kernel
theorem dX5_takeThing_44 : decode cX5_takeThing 44 = .ok (.invokevirtual 153, 3) := by decide +kernel
theorem dX5_takeThing_47 : decode cX5_takeThing 47 = .ok (.ifCond .ne 5, 3) := by decide +kernel
theorem dX5_takeThing_50 : decode cX5_takeThing 50 = .ok (.iconst 0, 1) := by decide +kernel
theorem dX5_takeThing_51 : decode cX5_takeThing 51 = .ok (.ireturn, 1) := by decide +kernel
theorem dX5_takeThing_52 : decode cX5_takeThing 52 = .ok (.aload_n 0, 1) := by decide +kernel
theorem dX5_takeThing_53 : decode cX5_takeThing 53 = .ok (.dup, 1) := by decide +kernel
theorem dX5_takeThing_54 : decode cX5_takeThing 54 = .ok (.getfield 38, 3) := by decide +kernel
theorem dX5_takeThing_57 : decode cX5_takeThing 57 = .ok (.iconst 1, 1) := by decide +kernel
theorem dX5_takeThing_58 : decode cX5_takeThing 58 = .ok (.iload_n 1, 1) := by decide +kernel
theorem dX5_takeThing_59 : decode cX5_takeThing 59 = .ok (.ishl, 1) := by decide +kernel
theorem dX5_takeThing_60 : decode cX5_takeThing 60 = .ok (.ior, 1) := by decide +kernel
theorem dX5_takeThing_61 : decode cX5_takeThing 61 = .ok (.putfield 38, 3) := by decide +kernel
theorem dX5_takeThing_64 : decode cX5_takeThing 64 = .ok (.iload_n 1, 1) := by decide +kernel
theorem dX5_takeThing_65 : decode cX5_takeThing 65 = .ok (.ifCond .lt 21, 3) := by decide +kernel
theorem dX5_takeThing_68 : decode cX5_takeThing 68 = .ok (.iload_n 1, 1) := by decide +kernel
theorem dX5_takeThing_69 : decode cX5_takeThing 69 = .ok (.iconst 3, 1) := by decide +kernel
theorem dX5_takeThing_70 : decode cX5_takeThing 70 = .ok (.if_icmp .ge 16, 3) := by decide +kernel
theorem dX5_takeThing_73 : decode cX5_takeThing 73 = .ok (.aload_n 0, 1) := by decide +kernel
theorem dX5_takeThing_74 : decode cX5_takeThing 74 = .ok (.getfield 12, 3) := by decide +kernel
theorem dX5_takeThing_77 : decode cX5_takeThing 77 = .ok (.getfield 160, 3) := by decide +kernel
theorem dX5_takeThing_80 : decode cX5_takeThing 80 = .ok (.iload_n 1, 1) := by decide +kernel
theorem dX5_takeThing_81 : decode cX5_takeThing 81 = .ok (.aload_n 0, 1) := by decide +kernel
theorem dX5_takeThing_82 : decode cX5_takeThing 82 = .ok (.getfield 86, 3) := by decide +kernel
theorem dX5_takeThing_85 : decode cX5_takeThing 85 = .ok (.iastore, 1) := by decide +kernel
theorem dX5_takeThing_86 : decode cX5_takeThing 86 = .ok (.iconst 1, 1) := by decide +kernel
theorem dX5_takeThing_87 : decode cX5_takeThing 87 = .ok (.ireturn, 1) := by decide +kernel
theorem dX5_takeTurn_0 : decode cX5_takeTurn 0 = .ok (.aload_n 0, 1) := by decide +kernel
theorem dX5_takeTurn_1 : decode cX5_takeTurn 1 = .ok (.aload_n 0, 1) := by decide +kernel
theorem dX5_takeTurn_2 : decode cX5_takeTurn 2 = .ok (.getfield 12, 3) := by decide +kernel
theorem dX5_takeTurn_5 : decode cX5_takeTurn 5 = .ok (.getfield 164, 3) := by decide +kernel
theorem dX5_takeTurn_8 : decode cX5_takeTurn 8 = .ok (.invokevirtual 145, 3) := by decide +kernel
theorem dX5_takeTurn_11 : decode cX5_takeTurn 11 = .ok (.ifCond .eq 13, 3) := by decide +kernel
theorem dX5_takeTurn_14 : decode cX5_takeTurn 14 = .ok (.aload_n 0, 1) := by decide +kernel
theorem dX5_takeTurn_15 : decode cX5_takeTurn 15 = .ok (.iconst 0, 1) := by decide +kernel
theorem dX5_takeTurn_16 : decode cX5_takeTurn 16 = .ok (.bipush 9, 2) := by decide +kernel
theorem dX5_takeTurn_18 : decode cX5_takeTurn 18 = .ok (.invokevirtual 149, 3) := by decide +kernel
theorem dX5_takeTurn_21 : decode cX5_takeTurn 21 = .ok (.ifCond .ne 5, 3) := by decide +kernel
theorem dX5_takeTurn_24 : decode cX5_takeTurn 24 = .ok (.iconst 0, 1) := by decide +kernel
theorem dX5_takeTurn_25 : decode cX5_takeTurn 25 = .ok (.ireturn, 1) := by decide +kernel
theorem dX5_takeTurn_26 : decode cX5_takeTurn 26 = .ok (.aload_n 0, 1) := by decide +kernel
theorem dX5_takeTurn_27 : decode cX5_takeTurn 27 = .ok (.getfield 86, 3) := by decide +kernel
theorem dX5_takeTurn_30 : decode cX5_takeTurn 30 = .ok (.istore_n 1, 1) := by decide +kernel
theorem dX5_takeTurn_31 : decode cX5_takeTurn 31 = .ok (.aload_n 0, 1) := by decide +kernel
theorem dX5_takeTurn_32 : decode cX5_takeTurn 32 = .ok (.iconst 0, 1) := by decide +kernel
theorem dX5_takeTurn_33 : decode cX5_takeTurn 33 = .ok (.iconst 2, 1) := by decide +kernel
theorem dX5_takeTurn_34 : decode cX5_takeTurn 34 = .ok (.invokevirtual 149, 3) := by decide +kernel
theorem dX5_takeTurn_37 : decode cX5_takeTurn 37 = .ok (.ifCond .ne 5, 3) := by decide +kernel
theorem dX5_takeTurn_40 : decode cX5_takeTurn 40 = .ok (.iconst 0, 1) := by decide +kernel
theorem dX5_takeTurn_41 : decode cX5_takeTurn 41 = .ok (.ireturn, 1) := by decide +kernel
theorem dX5_takeTurn_42 : decode cX5_takeTurn 42 = .ok (.aload_n 0, 1) := by decide +kernel
theorem dX5_takeTurn_43 : decode cX5_takeTurn 43 = .ok (.getfield 86, 3) := by decide +kernel
theorem dX5_takeTurn_46 : decode cX5_takeTurn 46 = .ok (.istore_n 2, 1) := by decide +kernel
theorem dX5_takeTurn_47 : decode cX5_takeTurn 47 = .ok (.aload_n 0, 1) := by decide +kernel
theorem dX5_takeTurn_48 : decode cX5_takeTurn 48 = .ok (.iconst 0, 1) := by decide +kernel
theorem dX5_takeTurn_49 : decode cX5_takeTurn 49 = .ok (.bipush 9, 2) := by decide +kernel
theorem dX5_takeTurn_51 : decode cX5_takeTurn 51 = .ok (.invokevirtual 149, 3) := by decide +kernel
theorem dX5_takeTurn_54 : decode cX5_takeTurn 54 = .ok (.ifCond .eq 10, 3) := by decide +kernel
theorem dX5_takeTurn_57 : decode cX5_takeTurn 57 = .ok (.aload_n 0, 1) := by decide +kernel
theorem dX5_takeTurn_58 : decode cX5_takeTurn 58 = .ok (.invokevirtual 153, 3) := by decide +kernel
theorem dX5_takeTurn_61 : decode cX5_takeTurn 61 = .ok (.ifCond .ne 5, 3) := by decide +kernel
theorem dX5_takeTurn_64 : decode cX5_takeTurn 64 = .ok (.iconst 0, 1) := by decide +kernel
theorem dX5_takeTurn_65 : decode cX5_takeTurn 65 = .ok (.ireturn, 1) := by decide +kernel
theorem dX5_takeTurn_66 : decode cX5_takeTurn 66 = .ok (.aload_n 0, 1) := by decide +kernel
theorem dX5_takeTurn_67 : decode cX5_takeTurn 67 = .ok (.getfield 12, 3) := by decide +kernel
theorem dX5_takeTurn_70 : decode cX5_takeTurn 70 = .ok (.getfield 164, 3) := by decide +kernel
theorem dX5_takeTurn_73 : decode cX5_takeTurn 73 = .ok (.iload_n 1, 1) := by decide +kernel
theorem dX5_takeTurn_74 : decode cX5_takeTurn 74 = .ok (.iload_n 2, 1) := by decide +kernel
theorem dX5_takeTurn_75 : decode cX5_takeTurn 75 = .ok (.aload_n 0, 1) := by decide +kernel
theorem dX5_takeTurn_76 : decode cX5_takeTurn 76 = .ok (.getfield 86, 3) := by decide +kernel
theorem dX5_takeTurn_79 : decode cX5_takeTurn 79 = .ok (.iconst 0, 1) := by decide +kernel
theorem dX5_takeTurn_80 : decode cX5_takeTurn 80 = .ok (.invokevirtual 156, 3) := by decide +kernel
theorem dX5_takeTurn_83 : decode cX5_takeTurn 83 = .ok (.pop, 1) := by decide +kernel
theorem dX5_takeTurn_84 : decode cX5_takeTurn 84 = .ok (.iconst 1, 1) := by decide +kernel
theorem dX5_takeTurn_85 : decode cX5_takeTurn 85 = .ok (.ireturn, 1) := by decide +kernel
theorem dX5_takeRota_0 : decode cX5_takeRota 0 = .ok (.aload_n 0, 1) := by decide +kernel
theorem dX5_takeRota_1 : decode cX5_takeRota 1 = .ok (.getfield 41, 3) := by decide +kernel
theorem dX5_takeRota_4 : decode cX5_takeRota 4 = .ok (.ifCond .eq 9, 3) := by decide +kernel
theorem dX5_takeRota_7 : decode cX5_takeRota 7 = .ok (.aload_n 0, 1) := by decide +kernel
theorem dX5_takeRota_8 : decode cX5_takeRota 8 = .ok (.iconst 4, 1) := by decide +kernel
theorem dX5_takeRota_9 : decode cX5_takeRota 9 = .ok (.invokevirtual 66, 3) := by decide +kernel
theorem dX5_takeRota_12 : decode cX5_takeRota 12 = .ok (.ireturn, 1) := by decide +kernel
theorem dX5_takeRota_13 : decode cX5_takeRota 13 = .ok (.aload_n 0, 1) := by decide +kernel
theorem dX5_takeRota_14 : decode cX5_takeRota 14 = .ok (.iconst 1, 1) := by decide +kernel
theorem dX5_takeRota_15 : decode cX5_takeRota 15 = .ok (.putfield 41, 3) := by decide +kernel
theorem dX5_takeRota_18 : decode cX5_takeRota 18 = .ok (.iconst 0, 1) := by decide +kernel
theorem dX5_takeRota_19 : decode cX5_takeRota 19 = .ok (.istore_n 1, 1) := by decide +kernel
theorem dX5_takeRota_20 : decode cX5_takeRota 20 = .ok (.iload_n 1, 1) := by decide +kernel
theorem dX5_takeRota_21 : decode cX5_takeRota 21 = .ok (.bipush 10, 2) := by decide +kernel
theorem dX5_takeRota_23 : decode cX5_takeRota 23 = .ok (.if_icmp .gt 94, 3) := by decide +kernel
theorem dX5_takeRota_26 : decode cX5_takeRota 26 = .ok (.aload_n 0, 1) := by decide +kernel
theorem dX5_takeRota_27 : decode cX5_takeRota 27 = .ok (.invokevirtual 45, 3) := by decide +kernel
theorem dX5_takeRota_30 : decode cX5_takeRota 30 = .ok (.ifCond .ne 5, 3) := by decide +kernel
theorem dX5_takeRota_33 : decode cX5_takeRota 33 = .ok (.iconst 0, 1) := by decide +kernel
theorem dX5_takeRota_34 : decode cX5_takeRota 34 = .ok (.ireturn, 1) := by decide +kernel
theorem dX5_takeRota_35 : decode cX5_takeRota 35 = .ok (.aload_n 0, 1) := by decide +kernel
theorem dX5_takeRota_36 : decode cX5_takeRota 36 = .ok (.getfield 49, 3) := by decide +kernel
theorem dX5_takeRota_39 : decode cX5_takeRota 39 = .ok (.iconst 3, 1) := by decide +kernel
theorem dX5_takeRota_40 : decode cX5_takeRota 40 = .ok (.if_icmp .ne 5, 3) := by decide +kernel
theorem dX5_takeRota_43 : decode cX5_takeRota 43 = .ok (.iconst 1, 1) := by decide +kernel
theorem dX5_takeRota_44 : decode cX5_takeRota 44 = .ok (.ireturn, 1) := by decide +kernel
theorem dX5_takeRota_45 : decode cX5_takeRota 45 = .ok (.aload_n 0, 1) := by decide +kernel
theorem dX5_takeRota_46 : decode cX5_takeRota 46 = .ok (.getfield 49, 3) := by decide +kernel
theorem dX5_takeRota_49 : decode cX5_takeRota 49 = .ok (.iconst 2, 1) := by decide +kernel
theorem dX5_takeRota_50 : decode cX5_takeRota 50 = .ok (.if_icmp .eq 9, 3) := by decide +kernel
theorem dX5_takeRota_53 : decode cX5_takeRota 53 = .ok (.aload_n 0, 1) := by decide +kernel
theorem dX5_takeRota_54 : decode cX5_takeRota 54 = .ok (.iconst 2, 1) := by decide +kernel
theorem dX5_takeRota_55 : decode cX5_takeRota 55 = .ok (.invokevirtual 66, 3) := by decide +kernel
theorem dX5_takeRota_58 : decode cX5_takeRota 58 = .ok (.ireturn, 1) := by decide +kernel
theorem dX5_takeRota_59 : decode cX5_takeRota 59 = .ok (.iload_n 1, 1) := by decide +kernel
theorem dX5_takeRota_60 : decode cX5_takeRota 60 = .ok (.bipush 10, 2) := by decide +kernel
theorem dX5_takeRota_62 : decode cX5_takeRota 62 = .ok (.if_icmp .lt 9, 3) := by decide +kernel
theorem dX5_takeRota_65 : decode cX5_takeRota 65 = .ok (.aload_n 0, 1) := by decide +kernel
theorem dX5_takeRota_66 : decode cX5_takeRota 66 = .ok (.iconst 5, 1) := by decide +kernel
theorem dX5_takeRota_67 : decode cX5_takeRota 67 = .ok (.invokevirtual 66, 3) := by decide +kernel
theorem dX5_takeRota_70 : decode cX5_takeRota 70 = .ok (.ireturn, 1) := by decide +kernel
theorem dX5_takeRota_71 : decode cX5_takeRota 71 = .ok (.aload_n 0, 1) := by decide +kernel
theorem dX5_takeRota_72 : decode cX5_takeRota 72 = .ok (.getfield 86, 3) := by decide +kernel
theorem dX5_takeRota_75 : decode cX5_takeRota 75 = .ok (.iconst 5, 1) := by decide +kernel
theorem dX5_takeRota_76 : decode cX5_takeRota 76 = .ok (.if_icmp .le 9, 3) := by decide +kernel
theorem dX5_takeRota_79 : decode cX5_takeRota 79 = .ok (.aload_n 0, 1) := by decide +kernel
theorem dX5_takeRota_80 : decode cX5_takeRota 80 = .ok (.iconst 3, 1) := by decide +kernel
theorem dX5_takeRota_81 : decode cX5_takeRota 81 = .ok (.invokevirtual 66, 3) := by decide +kernel
theorem dX5_takeRota_84 : decode cX5_takeRota 84 = .ok (.ireturn, 1) := by decide +kernel
theorem dX5_takeRota_85 : decode cX5_takeRota 85 = .ok (.aload_n 0, 1) := by decide +kernel
theorem dX5_takeRota_86 : decode cX5_takeRota 86 = .ok (.getfield 12, 3) := by decide +kernel
theorem dX5_takeRota_89 : decode cX5_takeRota 89 = .ok (.getfield 167, 3) := by decide +kernel
theorem dX5_takeRota_92 : decode cX5_takeRota 92 = .ok (.iload_n 1, 1) := by decide +kernel
theorem dX5_takeRota_93 : decode cX5_takeRota 93 = .ok (.aload_n 0, 1) := by decide +kernel
theorem dX5_takeRota_94 : decode cX5_takeRota 94 = .ok (.getfield 86, 3) := by decide +kernel
theorem dX5_takeRota_97 : decode cX5_takeRota 97 = .ok (.iconst 5, 1) := by decide +kernel
theorem dX5_takeRota_98 : decode cX5_takeRota 98 = .ok (.if_icmp .ne 8, 3) := by decide +kernel
theorem dX5_takeRota_101 : decode cX5_takeRota 101 = .ok (.bipush (-4), 2) := by decide +kernel
theorem dX5_takeRota_103 : decode cX5_takeRota 103 = .ok (.goto 7, 3) := by decide +kernel
theorem dX5_takeRota_106 : decode cX5_takeRota 106 = .ok (.aload_n 0, 1) := by decide +kernel
theorem dX5_takeRota_107 : decode cX5_takeRota 107 = .ok (.getfield 86, 3) := by decide +kernel
theorem dX5_takeRota_110 : decode cX5_takeRota 110 = .ok (.iastore, 1) := by decide +kernel
theorem dX5_takeRota_111 : decode cX5_takeRota 111 = .ok (.iinc 1 1, 3) := by decide +kernel
theorem dX5_takeRota_114 : decode cX5_takeRota 114 = .ok (.goto (-94), 3) := by decide +kernel
theorem dX5_takeRota_117 : decode cX5_takeRota 117 = .ok (.iconst 0, 1) := by decide +kernel
theorem dX5_takeRota_118 : decode cX5_takeRota 118 = .ok (.ireturn, 1) := by decide +kernel
theorem dX5_takeWork_0 : decode cX5_takeWork 0 = .ok (.aload_n 0, 1) := by decide +kernel
theorem dX5_takeWork_1 : decode cX5_takeWork 1 = .ok (.aload_n 0, 1) := by decide +kernel
theorem dX5_takeWork_2 : decode cX5_takeWork 2 = .ok (.getfield 12, 3) := by decide +kernel
theorem dX5_takeWork_5 : decode cX5_takeWork 5 = .ok (.getfield 170, 3) := by decide +kernel
theorem dX5_takeWork_8 : decode cX5_takeWork 8 = .ok (.invokevirtual 145, 3) := by decide +kernel
theorem dX5_takeWork_11 : decode cX5_takeWork 11 = .ok (.ifCond .eq 12, 3) := by decide +kernel
theorem dX5_takeWork_14 : decode cX5_takeWork 14 = .ok (.aload_n 0, 1) := by decide +kernel
theorem dX5_takeWork_15 : decode cX5_takeWork 15 = .ok (.iconst 0, 1) := by decide +kernel
theorem dX5_takeWork_16 : decode cX5_takeWork 16 = .ok (.iconst 4, 1) := by decide +kernel
theorem dX5_takeWork_17 : decode cX5_takeWork 17 = .ok (.invokevirtual 149, 3) := by decide +kernel
theorem dX5_takeWork_20 : decode cX5_takeWork 20 = .ok (.ifCond .ne 5, 3) := by decide +kernel
theorem dX5_takeWork_23 : decode cX5_takeWork 23 = .ok (.iconst 0, 1) := by decide +kernel
theorem dX5_takeWork_24 : decode cX5_takeWork 24 = .ok (.ireturn, 1) := by decide +kernel
theorem dX5_takeWork_25 : decode cX5_takeWork 25 = .ok (.aload_n 0, 1) := by decide +kernel
theorem dX5_takeWork_26 : decode cX5_takeWork 26 = .ok (.getfield 86, 3) := by decide +kernel
theorem dX5_takeWork_29 : decode cX5_takeWork 29 = .ok (.istore_n 1, 1) := by decide +kernel
theorem dX5_takeWork_30 : decode cX5_takeWork 30 = .ok (.aload_n 0, 1) := by decide +kernel
theorem dX5_takeWork_31 : decode cX5_takeWork 31 = .ok (.iconst 0, 1) := by decide +kernel
theorem dX5_takeWork_32 : decode cX5_takeWork 32 = .ok (.bipush 9, 2) := by decide +kernel
theorem dX5_takeWork_34 : decode cX5_takeWork 34 = .ok (.invokevirtual 149, 3) := by decide +kernel
theorem dX5_takeWork_37 : decode cX5_takeWork 37 = .ok (.ifCond .ne 5, 3) := by decide +kernel
theorem dX5_takeWork_40 : decode cX5_takeWork 40 = .ok (.iconst 0, 1) := by decide +kernel
theorem dX5_takeWork_41 : decode cX5_takeWork 41 = .ok (.ireturn, 1) := by decide +kernel
theorem dX5_takeWork_42 : decode cX5_takeWork 42 = .ok (.aload_n 0, 1) := by decide +kernel
theorem dX5_takeWork_43 : decode cX5_takeWork 43 = .ok (.getfield 86, 3) := by decide +kernel
theorem dX5_takeWork_46 : decode cX5_takeWork 46 = .ok (.istore_n 2, 1) := by decide +kernel
theorem dX5_takeWork_47 : decode cX5_takeWork 47 = .ok (.aload_n 0, 1) := by decide +kernel
theorem dX5_takeWork_48 : decode cX5_takeWork 48 = .ok (.iload_n 2, 1) := by decide +kernel
theorem dX5_takeWork_49 : decode cX5_takeWork 49 = .ok (.bipush 9, 2) := by decide +kernel
theorem dX5_takeWork_51 : decode cX5_takeWork 51 = .ok (.invokevirtual 149, 3) := by decide +kernel
theorem dX5_takeWork_54 : decode cX5_takeWork 54 = .ok (.ifCond .ne 5, 3) := by decide +kernel
theorem dX5_takeWork_57 : decode cX5_takeWork 57 = .ok (.iconst 0, 1) := by decide +kernel
theorem dX5_takeWork_58 : decode cX5_takeWork 58 = .ok (.ireturn, 1) := by decide +kernel
theorem dX5_takeWork_59 : decode cX5_takeWork 59 = .ok (.aload_n 0, 1) := by decide +kernel
theorem dX5_takeWork_60 : decode cX5_takeWork 60 = .ok (.getfield 86, 3) := by decide +kernel
theorem dX5_takeWork_63 : decode cX5_takeWork 63 = .ok (.istore_n 3, 1) := by decide +kernel
theorem dX5_takeWork_64 : decode cX5_takeWork 64 = .ok (.aload_n 0, 1) := by decide +kernel
theorem dX5_takeWork_65 : decode cX5_takeWork 65 = .ok (.iconst 1, 1) := by decide +kernel
theorem dX5_takeWork_66 : decode cX5_takeWork 66 = .ok (.bipush 9, 2) := by decide +kernel
theorem dX5_takeWork_68 : decode cX5_takeWork 68 = .ok (.invokevirtual 149, 3) := by decide +kernel
theorem dX5_takeWork_71 : decode cX5_takeWork 71 = .ok (.ifCond .eq 10, 3) := by decide +kernel
theorem dX5_takeWork_74 : decode cX5_takeWork 74 = .ok (.aload_n 0, 1) := by decide +kernel
theorem dX5_takeWork_75 : decode cX5_takeWork 75 = .ok (.invokevirtual 153, 3) := by decide +kernel
theorem dX5_takeWork_78 : decode cX5_takeWork 78 = .ok (.ifCond .ne 5, 3) := by decide +kernel
theorem dX5_takeWork_81 : decode cX5_takeWork 81 = .ok (.iconst 0, 1) := by decide +kernel
theorem dX5_takeWork_82 : decode cX5_takeWork 82 = .ok (.ireturn, 1) := by decide +kernel
theorem dX5_takeWork_83 : decode cX5_takeWork 83 = .ok (.aload_n 0, 1) := by decide +kernel
theorem dX5_takeWork_84 : decode cX5_takeWork 84 = .ok (.getfield 12, 3) := by decide +kernel
theorem dX5_takeWork_87 : decode cX5_takeWork 87 = .ok (.getfield 170, 3) := by decide +kernel
theorem dX5_takeWork_90 : decode cX5_takeWork 90 = .ok (.iload_n 1, 1) := by decide +kernel
theorem dX5_takeWork_91 : decode cX5_takeWork 91 = .ok (.iload_n 2, 1) := by decide +kernel
theorem dX5_takeWork_92 : decode cX5_takeWork 92 = .ok (.iload_n 3, 1) := by decide +kernel
theorem dX5_takeWork_93 : decode cX5_takeWork 93 = .ok (.aload_n 0, 1) := by decide +kernel
theorem dX5_takeWork_94 : decode cX5_takeWork 94 = .ok (.getfield 86, 3) := by decide +kernel
theorem dX5_takeWork_97 : decode cX5_takeWork 97 = .ok (.invokevirtual 156, 3) := by decide +kernel
theorem dX5_takeWork_100 : decode cX5_takeWork 100 = .ok (.pop, 1) := by decide +kernel
theorem dX5_takeWork_101 : decode cX5_takeWork 101 = .ok (.iconst 1, 1) := by decide +kernel
theorem dX5_takeWork_102 : decode cX5_takeWork 102 = .ok (.ireturn, 1) := by decide +kernel
theorem dX5_takeTelling_0 : decode cX5_takeTelling 0 = .ok (.aload_n 0, 1) := by decide +kernel
theorem dX5_takeTelling_1 : decode cX5_takeTelling 1 = .ok (.aload_n 0, 1) := by decide +kernel
theorem dX5_takeTelling_2 : decode cX5_takeTelling 2 = .ok (.getfield 12, 3) := by decide +kernel
theorem dX5_takeTelling_5 : decode cX5_takeTelling 5 = .ok (.getfield 173, 3) := by decide +kernel
theorem dX5_takeTelling_8 : decode cX5_takeTelling 8 = .ok (.invokevirtual 145, 3) := by decide +kernel
theorem dX5_takeTelling_11 : decode cX5_takeTelling 11 = .ok (.ifCond .eq 13, 3) := by decide +kernel
theorem dX5_takeTelling_14 : decode cX5_takeTelling 14 = .ok (.aload_n 0, 1) := by decide +kernel
theorem dX5_takeTelling_15 : decode cX5_takeTelling 15 = .ok (.iconst 0, 1) := by decide +kernel
theorem dX5_takeTelling_16 : decode cX5_takeTelling 16 = .ok (.bipush 9, 2) := by decide +kernel
theorem dX5_takeTelling_18 : decode cX5_takeTelling 18 = .ok (.invokevirtual 149, 3) := by decide +kernel
theorem dX5_takeTelling_21 : decode cX5_takeTelling 21 = .ok (.ifCond .ne 5, 3) := by decide +kernel
theorem dX5_takeTelling_24 : decode cX5_takeTelling 24 = .ok (.iconst 0, 1) := by decide +kernel
theorem dX5_takeTelling_25 : decode cX5_takeTelling 25 = .ok (.ireturn, 1) := by decide +kernel
theorem dX5_takeTelling_26 : decode cX5_takeTelling 26 = .ok (.aload_n 0, 1) := by decide +kernel
theorem dX5_takeTelling_27 : decode cX5_takeTelling 27 = .ok (.getfield 86, 3) := by decide +kernel
theorem dX5_takeTelling_30 : decode cX5_takeTelling 30 = .ok (.istore_n 1, 1) := by decide +kernel
theorem dX5_takeTelling_31 : decode cX5_takeTelling 31 = .ok (.aload_n 0, 1) := by decide +kernel
theorem dX5_takeTelling_32 : decode cX5_takeTelling 32 = .ok (.iconst 0, 1) := by decide +kernel
theorem dX5_takeTelling_33 : decode cX5_takeTelling 33 = .ok (.iconst 4, 1) := by decide +kernel
theorem dX5_takeTelling_34 : decode cX5_takeTelling 34 = .ok (.invokevirtual 149, 3) := by decide +kernel
theorem dX5_takeTelling_37 : decode cX5_takeTelling 37 = .ok (.ifCond .ne 5, 3) := by decide +kernel
theorem dX5_takeTelling_40 : decode cX5_takeTelling 40 = .ok (.iconst 0, 1) := by decide +kernel
theorem dX5_takeTelling_41 : decode cX5_takeTelling 41 = .ok (.ireturn, 1) := by decide +kernel
theorem dX5_takeTelling_42 : decode cX5_takeTelling 42 = .ok (.aload_n 0, 1) := by decide +kernel
theorem dX5_takeTelling_43 : decode cX5_takeTelling 43 = .ok (.getfield 86, 3) := by decide +kernel
theorem dX5_takeTelling_46 : decode cX5_takeTelling 46 = .ok (.istore_n 2, 1) := by decide +kernel
theorem dX5_takeTelling_47 : decode cX5_takeTelling 47 = .ok (.aload_n 0, 1) := by decide +kernel
theorem dX5_takeTelling_48 : decode cX5_takeTelling 48 = .ok (.iconst 0, 1) := by decide +kernel
theorem dX5_takeTelling_49 : decode cX5_takeTelling 49 = .ok (.iconst 4, 1) := by decide +kernel
theorem dX5_takeTelling_50 : decode cX5_takeTelling 50 = .ok (.invokevirtual 149, 3) := by decide +kernel
theorem dX5_takeTelling_53 : decode cX5_takeTelling 53 = .ok (.ifCond .ne 5, 3) := by decide +kernel
theorem dX5_takeTelling_56 : decode cX5_takeTelling 56 = .ok (.iconst 0, 1) := by decide +kernel
theorem dX5_takeTelling_57 : decode cX5_takeTelling 57 = .ok (.ireturn, 1) := by decide +kernel
theorem dX5_takeTelling_58 : decode cX5_takeTelling 58 = .ok (.aload_n 0, 1) := by decide +kernel
theorem dX5_takeTelling_59 : decode cX5_takeTelling 59 = .ok (.getfield 86, 3) := by decide +kernel
theorem dX5_takeTelling_62 : decode cX5_takeTelling 62 = .ok (.istore_n 3, 1) := by decide +kernel
theorem dX5_takeTelling_63 : decode cX5_takeTelling 63 = .ok (.iload_n 3, 1) := by decide +kernel
theorem dX5_takeTelling_64 : decode cX5_takeTelling 64 = .ok (.iload_n 2, 1) := by decide +kernel
theorem dX5_takeTelling_65 : decode cX5_takeTelling 65 = .ok (.if_icmp .ne 9, 3) := by decide +kernel
theorem dX5_takeTelling_68 : decode cX5_takeTelling 68 = .ok (.aload_n 0, 1) := by decide +kernel
theorem dX5_takeTelling_69 : decode cX5_takeTelling 69 = .ok (.iconst 3, 1) := by decide +kernel
theorem dX5_takeTelling_70 : decode cX5_takeTelling 70 = .ok (.invokevirtual 66, 3) := by decide +kernel
theorem dX5_takeTelling_73 : decode cX5_takeTelling 73 = .ok (.ireturn, 1) := by decide +kernel
theorem dX5_takeTelling_74 : decode cX5_takeTelling 74 = .ok (.aload_n 0, 1) := by decide +kernel
theorem dX5_takeTelling_75 : decode cX5_takeTelling 75 = .ok (.iconst 0, 1) := by decide +kernel
theorem dX5_takeTelling_76 : decode cX5_takeTelling 76 = .ok (.iconst 2, 1) := by decide +kernel
theorem dX5_takeTelling_77 : decode cX5_takeTelling 77 = .ok (.invokevirtual 149, 3) := by decide +kernel
theorem dX5_takeTelling_80 : decode cX5_takeTelling 80 = .ok (.ifCond .eq 10, 3) := by decide +kernel
theorem dX5_takeTelling_83 : decode cX5_takeTelling 83 = .ok (.aload_n 0, 1) := by decide +kernel
theorem dX5_takeTelling_84 : decode cX5_takeTelling 84 = .ok (.invokevirtual 153, 3) := by decide +kernel
theorem dX5_takeTelling_87 : decode cX5_takeTelling 87 = .ok (.ifCond .ne 5, 3) := by decide +kernel
theorem dX5_takeTelling_90 : decode cX5_takeTelling 90 = .ok (.iconst 0, 1) := by decide +kernel
theorem dX5_takeTelling_91 : decode cX5_takeTelling 91 = .ok (.ireturn, 1) := by decide +kernel
theorem dX5_takeTelling_92 : decode cX5_takeTelling 92 = .ok (.aload_n 0, 1) := by decide +kernel
theorem dX5_takeTelling_93 : decode cX5_takeTelling 93 = .ok (.getfield 12, 3) := by decide +kernel
theorem dX5_takeTelling_96 : decode cX5_takeTelling 96 = .ok (.getfield 173, 3) := by decide +kernel
theorem dX5_takeTelling_99 : decode cX5_takeTelling 99 = .ok (.iload_n 1, 1) := by decide +kernel
theorem dX5_takeTelling_100 : decode cX5_takeTelling 100 = .ok (.iload_n 2, 1) := by decide +kernel
theorem dX5_takeTelling_101 : decode cX5_takeTelling 101 = .ok (.iload_n 3, 1) := by decide +kernel
theorem dX5_takeTelling_102 : decode cX5_takeTelling 102 = .ok (.aload_n 0, 1) := by decide +kernel
theorem dX5_takeTelling_103 : decode cX5_takeTelling 103 = .ok (.getfield 86, 3) := by decide +kernel
theorem dX5_takeTelling_106 : decode cX5_takeTelling 106 = .ok (.invokevirtual 156, 3) := by decide +kernel
theorem dX5_takeTelling_109 : decode cX5_takeTelling 109 = .ok (.pop, 1) := by decide +kernel
theorem dX5_takeTelling_110 : decode cX5_takeTelling 110 = .ok (.iconst 1, 1) := by decide +kernel
theorem dX5_takeTelling_111 : decode cX5_takeTelling 111 = .ok (.ireturn, 1) := by decide +kernel
theorem dX6_init_0 : decode cX6_init 0 = .ok (.aload_n 0, 1) := by decide +kernel
theorem dX6_init_1 : decode cX6_init 1 = .ok (.invokespecial 3, 3) := by decide +kernel
theorem dX6_init_4 : decode cX6_init 4 = .ok (.aload_n 0, 1) := by decide +kernel
theorem dX6_init_5 : decode cX6_init 5 = .ok (.iconst 0, 1) := by decide +kernel
theorem dX6_init_6 : decode cX6_init 6 = .ok (.iload_n 1, 1) := by decide +kernel
theorem dX6_init_7 : decode cX6_init 7 = .ok (.invokestatic 9, 3) := by decide +kernel
theorem dX6_init_10 : decode cX6_init 10 = .ok (.putfield 15, 3) := by decide +kernel
theorem dX6_init_13 : decode cX6_init 13 = .ok (.aload_n 0, 1) := by decide +kernel
theorem dX6_init_14 : decode cX6_init 14 = .ok (.iconst 0, 1) := by decide +kernel
theorem dX6_init_15 : decode cX6_init 15 = .ok (.iload_n 2, 1) := by decide +kernel
theorem dX6_init_16 : decode cX6_init 16 = .ok (.invokestatic 9, 3) := by decide +kernel
theorem dX6_init_19 : decode cX6_init 19 = .ok (.putfield 21, 3) := by decide +kernel
theorem dX6_init_22 : decode cX6_init 22 = .ok (.aload_n 0, 1) := by decide +kernel
theorem dX6_init_23 : decode cX6_init 23 = .ok (.aload_n 0, 1) := by decide +kernel
theorem dX6_init_24 : decode cX6_init 24 = .ok (.getfield 15, 3) := by decide +kernel
theorem dX6_init_27 : decode cX6_init 27 = .ok (.aload_n 0, 1) := by decide +kernel
theorem dX6_init_28 : decode cX6_init 28 = .ok (.getfield 21, 3) := by decide +kernel
theorem dX6_init_31 : decode cX6_init 31 = .ok (.imul, 1) := by decide +kernel
theorem dX6_init_32 : decode cX6_init 32 = .ok (.newarray .int, 2) := by decide +kernel
theorem dX6_init_34 : decode cX6_init 34 = .ok (.putfield 24, 3) := by decide +kernel
theorem dX6_init_37 : decode cX6_init 37 = .ok (.return_, 1) := by decide +kernel
theorem dX6_has_0 : decode cX6_has 0 = .ok (.iload_n 1, 1) := by decide +kernel
theorem dX6_has_1 : decode cX6_has 1 = .ok (.ifCond .lt 15, 3) := by decide +kernel
theorem dX6_has_4 : decode cX6_has 4 = .ok (.iload_n 1, 1) := by decide +kernel
theorem dX6_has_5 : decode cX6_has 5 = .ok (.aload_n 0, 1) := by decide +kernel
theorem dX6_has_6 : decode cX6_has 6 = .ok (.getfield 28, 3) := by decide +kernel
theorem dX6_has_9 : decode cX6_has 9 = .ok (.if_icmp .ge 7, 3) := by decide +kernel
theorem dX6_has_12 : decode cX6_has 12 = .ok (.iconst 1, 1) := by decide +kernel
theorem dX6_has_13 : decode cX6_has 13 = .ok (.goto 4, 3) := by decide +kernel
theorem dX6_has_16 : decode cX6_has 16 = .ok (.iconst 0, 1) := by decide +kernel
theorem dX6_has_17 : decode cX6_has 17 = .ok (.ireturn, 1) := by decide +kernel
theorem dX6_at_0 : decode cX6_at 0 = .ok (.iload_n 1, 1) := by decide +kernel
theorem dX6_at_1 : decode cX6_at 1 = .ok (.ifCond .lt 27, 3) := by decide +kernel
theorem dX6_at_4 : decode cX6_at 4 = .ok (.iload_n 1, 1) := by decide +kernel
theorem dX6_at_5 : decode cX6_at 5 = .ok (.aload_n 0, 1) := by decide +kernel
theorem dX6_at_6 : decode cX6_at 6 = .ok (.getfield 28, 3) := by decide +kernel
theorem dX6_at_9 : decode cX6_at 9 = .ok (.if_icmp .ge 19, 3) := by decide +kernel
theorem dX6_at_12 : decode cX6_at 12 = .ok (.iload_n 2, 1) := by decide +kernel
theorem dX6_at_13 : decode cX6_at 13 = .ok (.ifCond .lt 15, 3) := by decide +kernel
theorem dX6_at_16 : decode cX6_at 16 = .ok (.iload_n 2, 1) := by decide +kernel
theorem dX6_at_17 : decode cX6_at 17 = .ok (.aload_n 0, 1) := by decide +kernel
theorem dX6_at_18 : decode cX6_at 18 = .ok (.getfield 15, 3) := by decide +kernel
theorem dX6_at_21 : decode cX6_at 21 = .ok (.if_icmp .ge 7, 3) := by decide +kernel
theorem dX6_at_24 : decode cX6_at 24 = .ok (.iconst 1, 1) := by decide +kernel
theorem dX6_at_25 : decode cX6_at 25 = .ok (.goto 4, 3) := by decide +kernel
theorem dX6_at_28 : decode cX6_at 28 = .ok (.iconst 0, 1) := by decide +kernel
theorem dX6_at_29 : decode cX6_at 29 = .ok (.istore_n 3, 1) := by decide +kernel
theorem dX6_at_30 : decode cX6_at 30 = .ok (.iload_n 3, 1) := by decide +kernel
theorem dX6_at_31 : decode cX6_at 31 = .ok (.ifCond .eq 19, 3) := by decide +kernel
theorem dX6_at_34 : decode cX6_at 34 = .ok (.aload_n 0, 1) := by decide +kernel
theorem dX6_at_35 : decode cX6_at 35 = .ok (.getfield 24, 3) := by decide +kernel
theorem dX6_at_38 : decode cX6_at 38 = .ok (.iload_n 1, 1) := by decide +kernel
theorem dX6_at_39 : decode cX6_at 39 = .ok (.aload_n 0, 1) := by decide +kernel
theorem dX6_at_40 : decode cX6_at 40 = .ok (.getfield 15, 3) := by decide +kernel
theorem dX6_at_43 : decode cX6_at 43 = .ok (.imul, 1) := by decide +kernel
theorem dX6_at_44 : decode cX6_at 44 = .ok (.iload_n 2, 1) := by decide +kernel
theorem dX6_at_45 : decode cX6_at 45 = .ok (.iadd, 1) := by decide +kernel
theorem dX6_at_46 : decode cX6_at 46 = .ok (.iaload, 1) := by decide +kernel
theorem dX6_at_47 : decode cX6_at 47 = .ok (.goto 4, 3) := by decide +kernel
theorem dX6_at_50 : decode cX6_at 50 = .ok (.iconst (-1), 1) := by decide +kernel
theorem dX6_at_51 : decode cX6_at 51 = .ok (.ireturn, 1) := by decide +kernel
theorem dX6_put_0 : decode cX6_put 0 = .ok (.aload_n 0, 1) := by decide +kernel
theorem dX6_put_1 : decode cX6_put 1 = .ok (.iload_n 1, 1) := by decide +kernel
theorem dX6_put_2 : decode cX6_put 2 = .ok (.invokevirtual 31, 3) := by decide +kernel
theorem dX6_put_5 : decode cX6_put 5 = .ok (.ifCond .eq 29, 3) := by decide +kernel
theorem dX6_put_8 : decode cX6_put 8 = .ok (.iload_n 2, 1) := by decide +kernel
theorem dX6_put_9 : decode cX6_put 9 = .ok (.ifCond .lt 25, 3) := by decide +kernel
theorem dX6_put_12 : decode cX6_put 12 = .ok (.iload_n 2, 1) := by decide +kernel
theorem dX6_put_13 : decode cX6_put 13 = .ok (.aload_n 0, 1) := by decide +kernel
theorem dX6_put_14 : decode cX6_put 14 = .ok (.getfield 15, 3) := by decide +kernel
theorem dX6_put_17 : decode cX6_put 17 = .ok (.if_icmp .ge 17, 3) := by decide +kernel
theorem dX6_put_20 : decode cX6_put 20 = .ok (.aload_n 0, 1) := by decide +kernel
theorem dX6_put_21 : decode cX6_put 21 = .ok (.getfield 24, 3) := by decide +kernel
theorem dX6_put_24 : decode cX6_put 24 = .ok (.iload_n 1, 1) := by decide +kernel
theorem dX6_put_25 : decode cX6_put 25 = .ok (.aload_n 0, 1) := by decide +kernel
theorem dX6_put_26 : decode cX6_put 26 = .ok (.getfield 15, 3) := by decide +kernel
theorem dX6_put_29 : decode cX6_put 29 = .ok (.imul, 1) := by decide +kernel
theorem dX6_put_30 : decode cX6_put 30 = .ok (.iload_n 2, 1) := by decide +kernel
theorem dX6_put_31 : decode cX6_put 31 = .ok (.iadd, 1) := by decide +kernel
theorem dX6_put_32 : decode cX6_put 32 = .ok (.iload_n 3, 1) := by decide +kernel
theorem dX6_put_33 : decode cX6_put 33 = .ok (.iastore, 1) := by decide +kernel
theorem dX6_put_34 : decode cX6_put 34 = .ok (.return_, 1) := by decide +kernel
theorem dX6_add_0 : decode cX6_add 0 = .ok (.aload_n 0, 1) := by decide +kernel
theorem dX6_add_1 : decode cX6_add 1 = .ok (.getfield 28, 3) := by decide +kernel
theorem dX6_add_4 : decode cX6_add 4 = .ok (.aload_n 0, 1) := by decide +kernel
theorem dX6_add_5 : decode cX6_add 5 = .ok (.getfield 21, 3) := by decide +kernel
theorem dX6_add_8 : decode cX6_add 8 = .ok (.if_icmp .lt 6, 3) := by decide +kernel
theorem dX6_add_11 : decode cX6_add 11 = .ok (.bipush (-3), 2) := by decide +kernel
theorem dX6_add_13 : decode cX6_add 13 = .ok (.ireturn, 1) := by decide +kernel
theorem dX6_add_14 : decode cX6_add 14 = .ok (.aload_n 0, 1) := by decide +kernel
theorem dX6_add_15 : decode cX6_add 15 = .ok (.dup, 1) := by decide +kernel
theorem dX6_add_16 : decode cX6_add 16 = .ok (.getfield 28, 3) := by decide +kernel
theorem dX6_add_19 : decode cX6_add 19 = .ok (.iconst 1, 1) := by decide +kernel
theorem dX6_add_20 : decode cX6_add 20 = .ok (.iadd, 1) := by decide +kernel
theorem dX6_add_21 : decode cX6_add 21 = .ok (.putfield 28, 3) := by decide +kernel
theorem dX6_add_24 : decode cX6_add 24 = .ok (.aload_n 0, 1) := by decide +kernel
theorem dX6_add_25 : decode cX6_add 25 = .ok (.aload_n 0, 1) := by decide +kernel
theorem dX6_add_26 : decode cX6_add 26 = .ok (.getfield 28, 3) := by decide +kernel
theorem dX6_add_29 : decode cX6_add 29 = .ok (.iconst 1, 1) := by decide +kernel
theorem dX6_add_30 : decode cX6_add 30 = .ok (.isub, 1) := by decide +kernel
theorem dX6_add_31 : decode cX6_add 31 = .ok (.iconst 0, 1) := by decide +kernel
theorem dX6_add_32 : decode cX6_add 32 = .ok (.iload_n 1, 1) := by decide +kernel
theorem dX6_add_33 : decode cX6_add 33 = .ok (.invokevirtual 35, 3) := by decide +kernel
theorem dX6_add_36 : decode cX6_add 36 = .ok (.aload_n 0, 1) := by decide +kernel
theorem dX6_add_37 : decode cX6_add 37 = .ok (.aload_n 0, 1) := by decide +kernel
theorem dX6_add_38 : decode cX6_add 38 = .ok (.getfield 28, 3) := by decide +kernel
theorem dX6_add_41 : decode cX6_add 41 = .ok (.iconst 1, 1) := by decide +kernel
theorem dX6_add_42 : decode cX6_add 42 = .ok (.isub, 1) := by decide +kernel
theorem dX6_add_43 : decode cX6_add 43 = .ok (.iconst 1, 1) := by decide +kernel
theorem dX6_add_44 : decode cX6_add 44 = .ok (.iload_n 2, 1) := by decide +kernel
theorem dX6_add_45 : decode cX6_add 45 = .ok (.invokevirtual 35, 3) := by decide +kernel
theorem dX6_add_48 : decode cX6_add 48 = .ok (.aload_n 0, 1) := by decide +kernel
theorem dX6_add_49 : decode cX6_add 49 = .ok (.aload_n 0, 1) := by decide +kernel
theorem dX6_add_50 : decode cX6_add 50 = .ok (.getfield 28, 3) := by decide +kernel
theorem dX6_add_53 : decode cX6_add 53 = .ok (.iconst 1, 1) := by decide +kernel
theorem dX6_add_54 : decode cX6_add 54 = .ok (.isub, 1) := by decide +kernel
theorem dX6_add_55 : decode cX6_add 55 = .ok (.iconst 2, 1) := by decide +kernel
theorem dX6_add_56 : decode cX6_add 56 = .ok (.iload_n 3, 1) := by decide +kernel
theorem dX6_add_57 : decode cX6_add 57 = .ok (.invokevirtual 35, 3) := by decide +kernel
theorem dX6_add_60 : decode cX6_add 60 = .ok (.aload_n 0, 1) := by decide +kernel
theorem dX6_add_61 : decode cX6_add 61 = .ok (.aload_n 0, 1) := by decide +kernel
theorem dX6_add_62 : decode cX6_add 62 = .ok (.getfield 28, 3) := by decide +kernel
theorem dX6_add_65 : decode cX6_add 65 = .ok (.iconst 1, 1) := by decide +kernel
theorem dX6_add_66 : decode cX6_add 66 = .ok (.isub, 1) := by decide +kernel
theorem dX6_add_67 : decode cX6_add 67 = .ok (.iconst 3, 1) := by decide +kernel
theorem dX6_add_68 : decode cX6_add 68 = .ok (.iload 4, 2) := by decide +kernel
theorem dX6_add_70 : decode cX6_add 70 = .ok (.invokevirtual 35, 3) := by decide +kernel
theorem dX6_add_73 : decode cX6_add 73 = .ok (.aload_n 0, 1) := by decide +kernel
theorem dX6_add_74 : decode cX6_add 74 = .ok (.getfield 28, 3) := by decide +kernel
theorem dX6_add_77 : decode cX6_add 77 = .ok (.ireturn, 1) := by decide +kernel
theorem dX6_cutTo_0 : decode cX6_cutTo 0 = .ok (.iload_n 1, 1) := by decide +kernel
theorem dX6_cutTo_1 : decode cX6_cutTo 1 = .ok (.ifCond .lt 11, 3) := by decide +kernel
theorem dX6_cutTo_4 : decode cX6_cutTo 4 = .ok (.iload_n 1, 1) := by decide +kernel
theorem dX6_cutTo_5 : decode cX6_cutTo 5 = .ok (.aload_n 0, 1) := by decide +kernel
theorem dX6_cutTo_6 : decode cX6_cutTo 6 = .ok (.getfield 28, 3) := by decide +kernel
theorem dX6_cutTo_9 : decode cX6_cutTo 9 = .ok (.if_icmp .le 5, 3) := by decide +kernel
theorem dX6_cutTo_12 : decode cX6_cutTo 12 = .ok (.iconst (-1), 1) := by decide +kernel
theorem dX6_cutTo_13 : decode cX6_cutTo 13 = .ok (.ireturn, 1) := by decide +kernel
theorem dX6_cutTo_14 : decode cX6_cutTo 14 = .ok (.aload_n 0, 1) := by decide +kernel
theorem dX6_cutTo_15 : decode cX6_cutTo 15 = .ok (.getfield 28, 3) := by decide +kernel
theorem dX6_cutTo_18 : decode cX6_cutTo 18 = .ok (.istore_n 2, 1) := by decide +kernel
theorem dX6_cutTo_19 : decode cX6_cutTo 19 = .ok (.aload_n 0, 1) := by decide +kernel
theorem dX6_cutTo_20 : decode cX6_cutTo 20 = .ok (.iload_n 1, 1) := by decide +kernel
theorem dX6_cutTo_21 : decode cX6_cutTo 21 = .ok (.putfield 28, 3) := by decide +kernel
theorem dX6_cutTo_24 : decode cX6_cutTo 24 = .ok (.iload_n 2, 1) := by decide +kernel
theorem dX6_cutTo_25 : decode cX6_cutTo 25 = .ok (.ireturn, 1) := by decide +kernel
theorem dX6_copyFrom_0 : decode cX6_copyFrom 0 = .ok (.aload_n 1, 1) := by decide +kernel
theorem dX6_copyFrom_1 : decode cX6_copyFrom 1 = .ok (.getfield 24, 3) := by decide +kernel
theorem dX6_copyFrom_4 : decode cX6_copyFrom 4 = .ok (.iconst 0, 1) := by decide +kernel
theorem dX6_copyFrom_5 : decode cX6_copyFrom 5 = .ok (.aload_n 0, 1) := by decide +kernel
theorem dX6_copyFrom_6 : decode cX6_copyFrom 6 = .ok (.getfield 24, 3) := by decide +kernel
theorem dX6_copyFrom_9 : decode cX6_copyFrom 9 = .ok (.iconst 0, 1) := by decide +kernel
theorem dX6_copyFrom_10 : decode cX6_copyFrom 10 = .ok (.aload_n 0, 1) := by decide +kernel
theorem dX6_copyFrom_11 : decode cX6_copyFrom 11 = .ok (.getfield 24, 3) := by decide +kernel
theorem dX6_copyFrom_14 : decode cX6_copyFrom 14 = .ok (.arraylength, 1) := by decide +kernel
theorem dX6_copyFrom_15 : decode cX6_copyFrom 15 = .ok (.aload_n 1, 1) := by decide +kernel
theorem dX6_copyFrom_16 : decode cX6_copyFrom 16 = .ok (.getfield 24, 3) := by decide +kernel
theorem dX6_copyFrom_19 : decode cX6_copyFrom 19 = .ok (.arraylength, 1) := by decide +kernel
theorem dX6_copyFrom_20 : decode cX6_copyFrom 20 = .ok (.invokestatic 39, 3) := by decide +kernel
theorem dX6_copyFrom_23 : decode cX6_copyFrom 23 = .ok (.invokestatic 42, 3) := by decide +kernel
theorem dX6_copyFrom_26 : decode cX6_copyFrom 26 = .ok (.aload_n 0, 1) := by decide +kernel
theorem dX6_copyFrom_27 : decode cX6_copyFrom 27 = .ok (.aload_n 0, 1) := by decide +kernel
theorem dX6_copyFrom_28 : decode cX6_copyFrom 28 = .ok (.getfield 21, 3) := by decide +kernel
theorem dX6_copyFrom_31 : decode cX6_copyFrom 31 = .ok (.aload_n 1, 1) := by decide +kernel
theorem dX6_copyFrom_32 : decode cX6_copyFrom 32 = .ok (.getfield 28, 3) := by decide +kernel
theorem dX6_copyFrom_35 : decode cX6_copyFrom 35 = .ok (.invokestatic 39, 3) := by decide +kernel
theorem dX6_copyFrom_38 : decode cX6_copyFrom 38 = .ok (.putfield 28, 3) := by decide +kernel
theorem dX6_copyFrom_41 : decode cX6_copyFrom 41 = .ok (.return_, 1) := by decide +kernel
theorem dX6_isLike_0 : decode cX6_isLike 0 = .ok (.aload_n 0, 1) := by decide +kernel
theorem dX6_isLike_1 : decode cX6_isLike 1 = .ok (.getfield 28, 3) := by decide +kernel
theorem dX6_isLike_4 : decode cX6_isLike 4 = .ok (.aload_n 1, 1) := by decide +kernel
theorem dX6_isLike_5 : decode cX6_isLike 5 = .ok (.getfield 28, 3) := by decide +kernel
theorem dX6_isLike_8 : decode cX6_isLike 8 = .ok (.if_icmp .ne 14, 3) := by decide +kernel
theorem dX6_isLike_11 : decode cX6_isLike 11 = .ok (.aload_n 0, 1) := by decide +kernel
theorem dX6_isLike_12 : decode cX6_isLike 12 = .ok (.getfield 15, 3) := by decide +kernel
theorem dX6_isLike_15 : decode cX6_isLike 15 = .ok (.aload_n 1, 1) := by decide +kernel
theorem dX6_isLike_16 : decode cX6_isLike 16 = .ok (.getfield 15, 3) := by decide +kernel
theorem dX6_isLike_19 : decode cX6_isLike 19 = .ok (.if_icmp .eq 5, 3) := by decide +kernel
theorem dX6_isLike_22 : decode cX6_isLike 22 = .ok (.iconst 0, 1) := by decide +kernel
theorem dX6_isLike_23 : decode cX6_isLike 23 = .ok (.ireturn, 1) := by decide +kernel
theorem dX6_isLike_24 : decode cX6_isLike 24 = .ok (.iconst 0, 1) := by decide +kernel
theorem dX6_isLike_25 : decode cX6_isLike 25 = .ok (.istore_n 2, 1) := by decide +kernel
theorem dX6_isLike_26 : decode cX6_isLike 26 = .ok (.iload_n 2, 1) := by decide +kernel
theorem dX6_isLike_27 : decode cX6_isLike 27 = .ok (.aload_n 0, 1) := by decide +kernel
theorem dX6_isLike_28 : decode cX6_isLike 28 = .ok (.getfield 28, 3) := by decide +kernel
theorem dX6_isLike_31 : decode cX6_isLike 31 = .ok (.aload_n 0, 1) := by decide +kernel
theorem dX6_isLike_32 : decode cX6_isLike 32 = .ok (.getfield 15, 3) := by decide +kernel
theorem dX6_isLike_35 : decode cX6_isLike 35 = .ok (.imul, 1) := by decide +kernel
theorem dX6_isLike_36 : decode cX6_isLike 36 = .ok (.if_icmp .ge 26, 3) := by decide +kernel
theorem dX6_isLike_39 : decode cX6_isLike 39 = .ok (.aload_n 0, 1) := by decide +kernel
theorem dX6_isLike_40 : decode cX6_isLike 40 = .ok (.getfield 24, 3) := by decide +kernel
theorem dX6_isLike_43 : decode cX6_isLike 43 = .ok (.iload_n 2, 1) := by decide +kernel
theorem dX6_isLike_44 : decode cX6_isLike 44 = .ok (.iaload, 1) := by decide +kernel
theorem dX6_isLike_45 : decode cX6_isLike 45 = .ok (.aload_n 1, 1) := by decide +kernel
theorem dX6_isLike_46 : decode cX6_isLike 46 = .ok (.getfield 24, 3) := by decide +kernel
theorem dX6_isLike_49 : decode cX6_isLike 49 = .ok (.iload_n 2, 1) := by decide +kernel
theorem dX6_isLike_50 : decode cX6_isLike 50 = .ok (.iaload, 1) := by decide +kernel
theorem dX6_isLike_51 : decode cX6_isLike 51 = .ok (.if_icmp .eq 5, 3) := by decide +kernel
theorem dX6_isLike_54 : decode cX6_isLike 54 = .ok (.iconst 0, 1) := by decide +kernel
theorem dX6_isLike_55 : decode cX6_isLike 55 = .ok (.ireturn, 1) := by decide +kernel
theorem dX6_isLike_56 : decode cX6_isLike 56 = .ok (.iinc 2 1, 3) := by decide +kernel
theorem dX6_isLike_59 : decode cX6_isLike 59 = .ok (.goto (-33), 3) := by decide +kernel
theorem dX6_isLike_62 : decode cX6_isLike 62 = .ok (.iconst 1, 1) := by decide +kernel
theorem dX6_isLike_63 : decode cX6_isLike 63 = .ok (.ireturn, 1) := by decide +kernel
theorem dX7_init_0 : decode cX7_init 0 = .ok (.aload_n 0, 1) := by decide +kernel
theorem dX7_init_1 : decode cX7_init 1 = .ok (.invokespecial 3, 3) := by decide +kernel
theorem dX7_init_4 : decode cX7_init 4 = .ok (.aload_n 0, 1) := by decide +kernel
theorem dX7_init_5 : decode cX7_init 5 = .ok (.bipush 10, 2) := by decide +kernel
theorem dX7_init_7 : decode cX7_init 7 = .ok (.newarray .int, 2) := by decide +kernel
theorem dX7_init_9 : decode cX7_init 9 = .ok (.putfield 9, 3) := by decide +kernel
theorem dX7_init_12 : decode cX7_init 12 = .ok (.aload_n 0, 1) := by decide +kernel
theorem dX7_init_13 : decode cX7_init 13 = .ok (.bipush 10, 2) := by decide +kernel
theorem dX7_init_15 : decode cX7_init 15 = .ok (.newarray .int, 2) := by decide +kernel
theorem dX7_init_17 : decode cX7_init 17 = .ok (.putfield 15, 3) := by decide +kernel
theorem dX7_init_20 : decode cX7_init 20 = .ok (.aload_n 0, 1) := by decide +kernel
theorem dX7_init_21 : decode cX7_init 21 = .ok (.iconst 5, 1) := by decide +kernel
theorem dX7_init_22 : decode cX7_init 22 = .ok (.newarray .int, 2) := by decide +kernel
theorem dX7_init_24 : decode cX7_init 24 = .ok (.putfield 18, 3) := by decide +kernel
theorem dX7_init_27 : decode cX7_init 27 = .ok (.return_, 1) := by decide +kernel
theorem dX7_hasEyes_0 : decode cX7_hasEyes 0 = .ok (.iload_n 0, 1) := by decide +kernel
theorem dX7_hasEyes_1 : decode cX7_hasEyes 1 = .ok (.iconst 1, 1) := by decide +kernel
theorem dX7_hasEyes_2 : decode cX7_hasEyes 2 = .ok (.if_icmp .ne 15, 3) := by decide +kernel
theorem dX7_hasEyes_5 : decode cX7_hasEyes 5 = .ok (.iload_n 1, 1) := by decide +kernel
theorem dX7_hasEyes_6 : decode cX7_hasEyes 6 = .ok (.bipush 6, 2) := by decide +kernel
theorem dX7_hasEyes_8 : decode cX7_hasEyes 8 = .ok (.if_icmp .ge 7, 3) := by decide +kernel
theorem dX7_hasEyes_11 : decode cX7_hasEyes 11 = .ok (.iconst 1, 1) := by decide +kernel
theorem dX7_hasEyes_12 : decode cX7_hasEyes 12 = .ok (.goto 4, 3) := by decide +kernel
theorem dX7_hasEyes_15 : decode cX7_hasEyes 15 = .ok (.iconst 0, 1) := by decide +kernel
theorem dX7_hasEyes_16 : decode cX7_hasEyes 16 = .ok (.ireturn, 1) := by decide +kernel
theorem dX7_hasEyes_17 : decode cX7_hasEyes 17 = .ok (.iload_n 0, 1) := by decide +kernel
theorem dX7_hasEyes_18 : decode cX7_hasEyes 18 = .ok (.iconst 3, 1) := by decide +kernel
theorem dX7_hasEyes_19 : decode cX7_hasEyes 19 = .ok (.if_icmp .ne 9, 3) := by decide +kernel
theorem dX7_hasEyes_22 : decode cX7_hasEyes 22 = .ok (.iload_n 1, 1) := by decide +kernel
theorem dX7_hasEyes_23 : decode cX7_hasEyes 23 = .ok (.bipush 6, 2) := by decide +kernel
theorem dX7_hasEyes_25 : decode cX7_hasEyes 25 = .ok (.if_icmp .lt 7, 3) := by decide +kernel
theorem dX7_hasEyes_28 : decode cX7_hasEyes 28 = .ok (.iconst 1, 1) := by decide +kernel
theorem dX7_hasEyes_29 : decode cX7_hasEyes 29 = .ok (.goto 4, 3) := by decide +kernel
theorem dX7_hasEyes_32 : decode cX7_hasEyes 32 = .ok (.iconst 0, 1) := by decide +kernel
theorem dX7_hasEyes_33 : decode cX7_hasEyes 33 = .ok (.ireturn, 1) := by decide +kernel
theorem dX7_isNear_0 : decode cX7_isNear 0 = .ok (.iload_n 1, 1) := by decide +kernel
theorem dX7_isNear_1 : decode cX7_isNear 1 = .ok (.bipush (-4), 2) := by decide +kernel
theorem dX7_isNear_3 : decode cX7_isNear 3 = .ok (.if_icmp .eq 13, 3) := by decide +kernel
theorem dX7_isNear_6 : decode cX7_isNear 6 = .ok (.iload_n 0, 1) := by decide +kernel
theorem dX7_isNear_7 : decode cX7_isNear 7 = .ok (.iload_n 1, 1) := by decide +kernel
theorem dX7_isNear_8 : decode cX7_isNear 8 = .ok (.isub, 1) := by decide +kernel
theorem dX7_isNear_9 : decode cX7_isNear 9 = .ok (.invokestatic 21, 3) := by decide +kernel
theorem dX7_isNear_12 : decode cX7_isNear 12 = .ok (.iconst 1, 1) := by decide +kernel
theorem dX7_isNear_13 : decode cX7_isNear 13 = .ok (.if_icmp .gt 7, 3) := by decide +kernel
theorem dX7_isNear_16 : decode cX7_isNear 16 = .ok (.iconst 1, 1) := by decide +kernel
theorem dX7_isNear_17 : decode cX7_isNear 17 = .ok (.goto 4, 3) := by decide +kernel
theorem dX7_isNear_20 : decode cX7_isNear 20 = .ok (.iconst 0, 1) := by decide +kernel
theorem dX7_isNear_21 : decode cX7_isNear 21 = .ok (.ireturn, 1) := by decide +kernel
theorem dX7_seerIn_0 : decode cX7_seerIn 0 = .ok (.iload_n 2, 1) := by decide +kernel
theorem dX7_seerIn_1 : decode cX7_seerIn 1 = .ok (.ifCond .lt 19, 3) := by decide +kernel
theorem dX7_seerIn_4 : decode cX7_seerIn 4 = .ok (.iload_n 2, 1) := by decide +kernel
theorem dX7_seerIn_5 : decode cX7_seerIn 5 = .ok (.aload_n 1, 1) := by decide +kernel
theorem dX7_seerIn_6 : decode cX7_seerIn 6 = .ok (.arraylength, 1) := by decide +kernel
theorem dX7_seerIn_7 : decode cX7_seerIn 7 = .ok (.if_icmp .ge 13, 3) := by decide +kernel
theorem dX7_seerIn_10 : decode cX7_seerIn 10 = .ok (.aload_n 0, 1) := by decide +kernel
theorem dX7_seerIn_11 : decode cX7_seerIn 11 = .ok (.aload_n 1, 1) := by decide +kernel
theorem dX7_seerIn_12 : decode cX7_seerIn 12 = .ok (.iload_n 2, 1) := by decide +kernel
theorem dX7_seerIn_13 : decode cX7_seerIn 13 = .ok (.iaload, 1) := by decide +kernel
theorem dX7_seerIn_14 : decode cX7_seerIn 14 = .ok (.invokevirtual 27, 3) := by decide +kernel
theorem dX7_seerIn_17 : decode cX7_seerIn 17 = .ok (.ifCond .ne 6, 3) := by decide +kernel
theorem dX7_seerIn_20 : decode cX7_seerIn 20 = .ok (.bipush (-4), 2) := by decide +kernel
theorem dX7_seerIn_22 : decode cX7_seerIn 22 = .ok (.ireturn, 1) := by decide +kernel
theorem dX7_seerIn_23 : decode cX7_seerIn 23 = .ok (.aload_n 1, 1) := by decide +kernel
theorem dX7_seerIn_24 : decode cX7_seerIn 24 = .ok (.iload_n 2, 1) := by decide +kernel
theorem dX7_seerIn_25 : decode cX7_seerIn 25 = .ok (.iaload, 1) := by decide +kernel
theorem dX7_seerIn_26 : decode cX7_seerIn 26 = .ok (.istore_n 3, 1) := by decide +kernel
theorem dX7_seerIn_27 : decode cX7_seerIn 27 = .ok (.iload_n 2, 1) := by decide +kernel
theorem dX7_seerIn_28 : decode cX7_seerIn 28 = .ok (.ifCond .ne 8, 3) := by decide +kernel
theorem dX7_seerIn_31 : decode cX7_seerIn 31 = .ok (.bipush (-4), 2) := by decide +kernel
theorem dX7_seerIn_33 : decode cX7_seerIn 33 = .ok (.goto 8, 3) := by decide +kernel
theorem dX7_seerIn_36 : decode cX7_seerIn 36 = .ok (.aload_n 1, 1) := by decide +kernel
theorem dX7_seerIn_37 : decode cX7_seerIn 37 = .ok (.iload_n 2, 1) := by decide +kernel
theorem dX7_seerIn_38 : decode cX7_seerIn 38 = .ok (.iconst 1, 1) := by decide +kernel
theorem dX7_seerIn_39 : decode cX7_seerIn 39 = .ok (.isub, 1) := by decide +kernel
theorem dX7_seerIn_40 : decode cX7_seerIn 40 = .ok (.iaload, 1) := by decide +kernel
theorem dX7_seerIn_41 : decode cX7_seerIn 41 = .ok (.istore 4, 2) := by decide +kernel
theorem dX7_seerIn_43 : decode cX7_seerIn 43 = .ok (.aload_n 0, 1) := by decide +kernel
theorem dX7_seerIn_44 : decode cX7_seerIn 44 = .ok (.iload_n 3, 1) := by decide +kernel
theorem dX7_seerIn_45 : decode cX7_seerIn 45 = .ok (.invokevirtual 33, 3) := by decide +kernel
theorem dX7_seerIn_48 : decode cX7_seerIn 48 = .ok (.iload_n 2, 1) := by decide +kernel
theorem dX7_seerIn_49 : decode cX7_seerIn 49 = .ok (.invokestatic 36, 3) := by decide +kernel
theorem dX7_seerIn_52 : decode cX7_seerIn 52 = .ok (.ifCond .eq 16, 3) := by decide +kernel
theorem dX7_seerIn_55 : decode cX7_seerIn 55 = .ok (.iload_n 3, 1) := by decide +kernel
theorem dX7_seerIn_56 : decode cX7_seerIn 56 = .ok (.iload 4, 2) := by decide +kernel
theorem dX7_seerIn_58 : decode cX7_seerIn 58 = .ok (.invokestatic 40, 3) := by decide +kernel
theorem dX7_seerIn_61 : decode cX7_seerIn 61 = .ok (.ifCond .eq 7, 3) := by decide +kernel
theorem dX7_seerIn_64 : decode cX7_seerIn 64 = .ok (.iload_n 3, 1) := by decide +kernel
theorem dX7_seerIn_65 : decode cX7_seerIn 65 = .ok (.goto 5, 3) := by decide +kernel
theorem dX7_seerIn_68 : decode cX7_seerIn 68 = .ok (.bipush (-4), 2) := by decide +kernel
theorem dX7_seerIn_70 : decode cX7_seerIn 70 = .ok (.ireturn, 1) := by decide +kernel
theorem dX7_look_0 : decode cX7_look 0 = .ok (.iconst 0, 1) := by decide +kernel
theorem dX7_look_1 : decode cX7_look 1 = .ok (.istore_n 3, 1) := by decide +kernel
theorem dX7_look_2 : decode cX7_look 2 = .ok (.iload_n 3, 1) := by decide +kernel
theorem dX7_look_3 : decode cX7_look 3 = .ok (.iconst 5, 1) := by decide +kernel
theorem dX7_look_4 : decode cX7_look 4 = .ok (.if_icmp .ge 16, 3) := by decide +kernel
theorem dX7_look_7 : decode cX7_look 7 = .ok (.aload_n 0, 1) := by decide +kernel
theorem dX7_look_8 : decode cX7_look 8 = .ok (.getfield 18, 3) := by decide +kernel
theorem dX7_look_11 : decode cX7_look 11 = .ok (.iload_n 3, 1) := by decide +kernel
theorem dX7_look_12 : decode cX7_look 12 = .ok (.iconst 0, 1) := by decide +kernel
theorem dX7_look_13 : decode cX7_look 13 = .ok (.iastore, 1) := by decide +kernel
theorem dX7_look_14 : decode cX7_look 14 = .ok (.iinc 3 1, 3) := by decide +kernel
theorem dX7_look_17 : decode cX7_look 17 = .ok (.goto (-15), 3) := by decide +kernel
theorem dX7_look_20 : decode cX7_look 20 = .ok (.iconst 0, 1) := by decide +kernel
theorem dX7_look_21 : decode cX7_look 21 = .ok (.istore_n 3, 1) := by decide +kernel
theorem dX7_look_22 : decode cX7_look 22 = .ok (.iload_n 3, 1) := by decide +kernel
theorem dX7_look_23 : decode cX7_look 23 = .ok (.bipush 10, 2) := by decide +kernel
theorem dX7_look_25 : decode cX7_look 25 = .ok (.if_icmp .ge 64, 3) := by decide +kernel
theorem dX7_look_28 : decode cX7_look 28 = .ok (.iload_n 3, 1) := by decide +kernel
theorem dX7_look_29 : decode cX7_look 29 = .ok (.aload_n 2, 1) := by decide +kernel
theorem dX7_look_30 : decode cX7_look 30 = .ok (.arraylength, 1) := by decide +kernel
theorem dX7_look_31 : decode cX7_look 31 = .ok (.if_icmp .ge 58, 3) := by decide +kernel
theorem dX7_look_34 : decode cX7_look 34 = .ok (.aload_n 1, 1) := by decide +kernel
theorem dX7_look_35 : decode cX7_look 35 = .ok (.aload_n 2, 1) := by decide +kernel
theorem dX7_look_36 : decode cX7_look 36 = .ok (.iload_n 3, 1) := by decide +kernel
theorem dX7_look_37 : decode cX7_look 37 = .ok (.invokestatic 43, 3) := by decide +kernel
theorem dX7_look_40 : decode cX7_look 40 = .ok (.istore 4, 2) := by decide +kernel
theorem dX7_look_42 : decode cX7_look 42 = .ok (.aload_n 0, 1) := by decide +kernel
theorem dX7_look_43 : decode cX7_look 43 = .ok (.getfield 9, 3) := by decide +kernel
theorem dX7_look_46 : decode cX7_look 46 = .ok (.iload_n 3, 1) := by decide +kernel
theorem dX7_look_47 : decode cX7_look 47 = .ok (.aload_n 2, 1) := by decide +kernel
theorem dX7_look_48 : decode cX7_look 48 = .ok (.iload_n 3, 1) := by decide +kernel
theorem dX7_look_49 : decode cX7_look 49 = .ok (.iaload, 1) := by decide +kernel
theorem dX7_look_50 : decode cX7_look 50 = .ok (.iastore, 1) := by decide +kernel
theorem dX7_look_51 : decode cX7_look 51 = .ok (.aload_n 0, 1) := by decide +kernel
theorem dX7_look_52 : decode cX7_look 52 = .ok (.getfield 15, 3) := by decide +kernel
theorem dX7_look_55 : decode cX7_look 55 = .ok (.iload_n 3, 1) := by decide +kernel
theorem dX7_look_56 : decode cX7_look 56 = .ok (.iload 4, 2) := by decide +kernel
theorem dX7_look_58 : decode cX7_look 58 = .ok (.iastore, 1) := by decide +kernel
theorem dX7_look_59 : decode cX7_look 59 = .ok (.iload 4, 2) := by decide +kernel
theorem dX7_look_61 : decode cX7_look 61 = .ok (.ifCond .lt 22, 3) := by decide +kernel
theorem dX7_look_64 : decode cX7_look 64 = .ok (.iload 4, 2) := by decide +kernel
theorem dX7_look_66 : decode cX7_look 66 = .ok (.iconst 5, 1) := by decide +kernel
theorem dX7_look_67 : decode cX7_look 67 = .ok (.if_icmp .ge 16, 3) := by decide +kernel
theorem dX7_look_70 : decode cX7_look 70 = .ok (.aload_n 0, 1) := by decide +kernel
theorem dX7_look_71 : decode cX7_look 71 = .ok (.getfield 18, 3) := by decide +kernel
theorem dX7_look_74 : decode cX7_look 74 = .ok (.iload 4, 2) := by decide +kernel
theorem dX7_look_76 : decode cX7_look 76 = .ok (.dup2, 1) := by decide +kernel
theorem dX7_look_77 : decode cX7_look 77 = .ok (.iaload, 1) := by decide +kernel
theorem dX7_look_78 : decode cX7_look 78 = .ok (.iconst 1, 1) := by decide +kernel
theorem dX7_look_79 : decode cX7_look 79 = .ok (.iload_n 3, 1) := by decide +kernel
theorem dX7_look_80 : decode cX7_look 80 = .ok (.ishl, 1) := by decide +kernel
theorem dX7_look_81 : decode cX7_look 81 = .ok (.ior, 1) := by decide +kernel
theorem dX7_look_82 : decode cX7_look 82 = .ok (.iastore, 1) := by decide +kernel
theorem dX7_look_83 : decode cX7_look 83 = .ok (.iinc 3 1, 3) := by decide +kernel
theorem dX7_look_86 : decode cX7_look 86 = .ok (.goto (-64), 3) := by decide +kernel
theorem dX7_look_89 : decode cX7_look 89 = .ok (.return_, 1) := by decide +kernel
theorem dX7_hoursOf_0 : decode cX7_hoursOf 0 = .ok (.iload_n 1, 1) := by decide +kernel
theorem dX7_hoursOf_1 : decode cX7_hoursOf 1 = .ok (.ifCond .lt 17, 3) := by decide +kernel
theorem dX7_hoursOf_4 : decode cX7_hoursOf 4 = .ok (.iload_n 1, 1) := by decide +kernel
theorem dX7_hoursOf_5 : decode cX7_hoursOf 5 = .ok (.iconst 5, 1) := by decide +kernel
theorem dX7_hoursOf_6 : decode cX7_hoursOf 6 = .ok (.if_icmp .ge 12, 3) := by decide +kernel
theorem dX7_hoursOf_9 : decode cX7_hoursOf 9 = .ok (.aload_n 0, 1) := by decide +kernel
theorem dX7_hoursOf_10 : decode cX7_hoursOf 10 = .ok (.getfield 18, 3) := by decide +kernel
theorem dX7_hoursOf_13 : decode cX7_hoursOf 13 = .ok (.iload_n 1, 1) := by decide +kernel
theorem dX7_hoursOf_14 : decode cX7_hoursOf 14 = .ok (.iaload, 1) := by decide +kernel
theorem dX7_hoursOf_15 : decode cX7_hoursOf 15 = .ok (.goto 4, 3) := by decide +kernel
theorem dX7_hoursOf_18 : decode cX7_hoursOf 18 = .ok (.iconst 0, 1) := by decide +kernel
theorem dX7_hoursOf_19 : decode cX7_hoursOf 19 = .ok (.ireturn, 1) := by decide +kernel
theorem dX7_hoursSeen_0 : decode cX7_hoursSeen 0 = .ok (.iconst 0, 1) := by decide +kernel
theorem dX7_hoursSeen_1 : decode cX7_hoursSeen 1 = .ok (.istore_n 1, 1) := by decide +kernel
theorem dX7_hoursSeen_2 : decode cX7_hoursSeen 2 = .ok (.iconst 0, 1) := by decide +kernel
theorem dX7_hoursSeen_3 : decode cX7_hoursSeen 3 = .ok (.istore_n 2, 1) := by decide +kernel
theorem dX7_hoursSeen_4 : decode cX7_hoursSeen 4 = .ok (.iload_n 2, 1) := by decide +kernel
theorem dX7_hoursSeen_5 : decode cX7_hoursSeen 5 = .ok (.iconst 5, 1) := by decide +kernel
theorem dX7_hoursSeen_6 : decode cX7_hoursSeen 6 = .ok (.if_icmp .ge 18, 3) := by decide +kernel
theorem dX7_hoursSeen_9 : decode cX7_hoursSeen 9 = .ok (.iload_n 1, 1) := by decide +kernel
theorem dX7_hoursSeen_10 : decode cX7_hoursSeen 10 = .ok (.aload_n 0, 1) := by decide +kernel
theorem dX7_hoursSeen_11 : decode cX7_hoursSeen 11 = .ok (.getfield 18, 3) := by decide +kernel
theorem dX7_hoursSeen_14 : decode cX7_hoursSeen 14 = .ok (.iload_n 2, 1) := by decide +kernel
theorem dX7_hoursSeen_15 : decode cX7_hoursSeen 15 = .ok (.iaload, 1) := by decide +kernel
theorem dX7_hoursSeen_16 : decode cX7_hoursSeen 16 = .ok (.ior, 1) := by decide +kernel
theorem dX7_hoursSeen_17 : decode cX7_hoursSeen 17 = .ok (.istore_n 1, 1) := by decide +kernel
theorem dX7_hoursSeen_18 : decode cX7_hoursSeen 18 = .ok (.iinc 2 1, 3) := by decide +kernel
theorem dX7_hoursSeen_21 : decode cX7_hoursSeen 21 = .ok (.goto (-17), 3) := by decide +kernel
theorem dX7_hoursSeen_24 : decode cX7_hoursSeen 24 = .ok (.iload_n 1, 1) := by decide +kernel
theorem dX7_hoursSeen_25 : decode cX7_hoursSeen 25 = .ok (.ireturn, 1) := by decide +kernel
theorem dX7_isDone_0 : decode cX7_isDone 0 = .ok (.aload_n 1, 1) := by decide +kernel
theorem dX7_isDone_1 : decode cX7_isDone 1 = .ok (.getfield 47, 3) := by decide +kernel
theorem dX7_isDone_4 : decode cX7_isDone 4 = .ok (.iload_n 2, 1) := by decide +kernel
theorem dX7_isDone_5 : decode cX7_isDone 5 = .ok (.iconst 1, 1) := by decide +kernel
theorem dX7_isDone_6 : decode cX7_isDone 6 = .ok (.invokevirtual 51, 3) := by decide +kernel
theorem dX7_isDone_9 : decode cX7_isDone 9 = .ok (.istore_n 3, 1) := by decide +kernel
theorem dX7_isDone_10 : decode cX7_isDone 10 = .ok (.aload_n 1, 1) := by decide +kernel
theorem dX7_isDone_11 : decode cX7_isDone 11 = .ok (.getfield 47, 3) := by decide +kernel
theorem dX7_isDone_14 : decode cX7_isDone 14 = .ok (.iload_n 2, 1) := by decide +kernel
theorem dX7_isDone_15 : decode cX7_isDone 15 = .ok (.iconst 2, 1) := by decide +kernel
theorem dX7_isDone_16 : decode cX7_isDone 16 = .ok (.invokevirtual 51, 3) := by decide +kernel
theorem dX7_isDone_19 : decode cX7_isDone 19 = .ok (.istore 4, 2) := by decide +kernel
theorem dX7_isDone_21 : decode cX7_isDone 21 = .ok (.iconst 1, 1) := by decide +kernel
theorem dX7_isDone_22 : decode cX7_isDone 22 = .ok (.iload 4, 2) := by decide +kernel
theorem dX7_isDone_24 : decode cX7_isDone 24 = .ok (.iconst 1, 1) := by decide +kernel
theorem dX7_isDone_25 : decode cX7_isDone 25 = .ok (.iadd, 1) := by decide +kernel
theorem dX7_isDone_26 : decode cX7_isDone 26 = .ok (.ishl, 1) := by decide +kernel
theorem dX7_isDone_27 : decode cX7_isDone 27 = .ok (.iconst 1, 1) := by decide +kernel
theorem dX7_isDone_28 : decode cX7_isDone 28 = .ok (.iload_n 3, 1) := by decide +kernel
theorem dX7_isDone_29 : decode cX7_isDone 29 = .ok (.ishl, 1) := by decide +kernel
theorem dX7_isDone_30 : decode cX7_isDone 30 = .ok (.isub, 1) := by decide +kernel
theorem dX7_isDone_31 : decode cX7_isDone 31 = .ok (.istore 5, 2) := by decide +kernel
theorem dX7_isDone_33 : decode cX7_isDone 33 = .ok (.aload_n 0, 1) := by decide +kernel
theorem dX7_isDone_34 : decode cX7_isDone 34 = .ok (.aload_n 1, 1) := by decide +kernel
theorem dX7_isDone_35 : decode cX7_isDone 35 = .ok (.getfield 47, 3) := by decide +kernel
theorem dX7_isDone_38 : decode cX7_isDone 38 = .ok (.iload_n 2, 1) := by decide +kernel
theorem dX7_isDone_39 : decode cX7_isDone 39 = .ok (.iconst 0, 1) := by decide +kernel
theorem dX7_isDone_40 : decode cX7_isDone 40 = .ok (.invokevirtual 51, 3) := by decide +kernel
theorem dX7_isDone_43 : decode cX7_isDone 43 = .ok (.invokevirtual 57, 3) := by decide +kernel
theorem dX7_isDone_46 : decode cX7_isDone 46 = .ok (.iload 5, 2) := by decide +kernel
theorem dX7_isDone_48 : decode cX7_isDone 48 = .ok (.iand, 1) := by decide +kernel
theorem dX7_isDone_49 : decode cX7_isDone 49 = .ok (.ifCond .eq 7, 3) := by decide +kernel
theorem dX7_isDone_52 : decode cX7_isDone 52 = .ok (.iconst 1, 1) := by decide +kernel
theorem dX7_isDone_53 : decode cX7_isDone 53 = .ok (.goto 4, 3) := by decide +kernel
theorem dX7_isDone_56 : decode cX7_isDone 56 = .ok (.iconst 0, 1) := by decide +kernel
theorem dX7_isDone_57 : decode cX7_isDone 57 = .ok (.ireturn, 1) := by decide +kernel
theorem dX7_donePieces_0 : decode cX7_donePieces 0 = .ok (.iconst 0, 1) := by decide +kernel
theorem dX7_donePieces_1 : decode cX7_donePieces 1 = .ok (.istore_n 2, 1) := by decide +kernel
theorem dX7_donePieces_2 : decode cX7_donePieces 2 = .ok (.iconst 0, 1) := by decide +kernel
theorem dX7_donePieces_3 : decode cX7_donePieces 3 = .ok (.istore_n 3, 1) := by decide +kernel
theorem dX7_donePieces_4 : decode cX7_donePieces 4 = .ok (.iload_n 3, 1) := by decide +kernel
theorem dX7_donePieces_5 : decode cX7_donePieces 5 = .ok (.aload_n 1, 1) := by decide +kernel
theorem dX7_donePieces_6 : decode cX7_donePieces 6 = .ok (.getfield 47, 3) := by decide +kernel
theorem dX7_donePieces_9 : decode cX7_donePieces 9 = .ok (.getfield 60, 3) := by decide +kernel
theorem dX7_donePieces_12 : decode cX7_donePieces 12 = .ok (.if_icmp .ge 28, 3) := by decide +kernel
theorem dX7_donePieces_15 : decode cX7_donePieces 15 = .ok (.iload_n 2, 1) := by decide +kernel
theorem dX7_donePieces_16 : decode cX7_donePieces 16 = .ok (.aload_n 0, 1) := by decide +kernel
theorem dX7_donePieces_17 : decode cX7_donePieces 17 = .ok (.aload_n 1, 1) := by decide +kernel
theorem dX7_donePieces_18 : decode cX7_donePieces 18 = .ok (.iload_n 3, 1) := by decide +kernel
theorem dX7_donePieces_19 : decode cX7_donePieces 19 = .ok (.invokevirtual 64, 3) := by decide +kernel
theorem dX7_donePieces_22 : decode cX7_donePieces 22 = .ok (.ifCond .eq 9, 3) := by decide +kernel
theorem dX7_donePieces_25 : decode cX7_donePieces 25 = .ok (.iconst 1, 1) := by decide +kernel
theorem dX7_donePieces_26 : decode cX7_donePieces 26 = .ok (.iload_n 3, 1) := by decide +kernel
theorem dX7_donePieces_27 : decode cX7_donePieces 27 = .ok (.ishl, 1) := by decide +kernel
theorem dX7_donePieces_28 : decode cX7_donePieces 28 = .ok (.goto 4, 3) := by decide +kernel
theorem dX7_donePieces_31 : decode cX7_donePieces 31 = .ok (.iconst 0, 1) := by decide +kernel
theorem dX7_donePieces_32 : decode cX7_donePieces 32 = .ok (.ior, 1) := by decide +kernel
theorem dX7_donePieces_33 : decode cX7_donePieces 33 = .ok (.istore_n 2, 1) := by decide +kernel
theorem dX7_donePieces_34 : decode cX7_donePieces 34 = .ok (.iinc 3 1, 3) := by decide +kernel
theorem dX7_donePieces_37 : decode cX7_donePieces 37 = .ok (.goto (-33), 3) := by decide +kernel
theorem dX7_donePieces_40 : decode cX7_donePieces 40 = .ok (.iload_n 2, 1) := by decide +kernel
theorem dX7_donePieces_41 : decode cX7_donePieces 41 = .ok (.ireturn, 1) := by decide +kernel
theorem dX7_doneWorth_0 : decode cX7_doneWorth 0 = .ok (.iconst 0, 1) := by decide +kernel
theorem dX7_doneWorth_1 : decode cX7_doneWorth 1 = .ok (.istore_n 2, 1) := by decide +kernel
theorem dX7_doneWorth_2 : decode cX7_doneWorth 2 = .ok (.iconst 0, 1) := by decide +kernel
theorem dX7_doneWorth_3 : decode cX7_doneWorth 3 = .ok (.istore_n 3, 1) := by decide +kernel
theorem dX7_doneWorth_4 : decode cX7_doneWorth 4 = .ok (.iload_n 3, 1) := by decide +kernel
theorem dX7_doneWorth_5 : decode cX7_doneWorth 5 = .ok (.aload_n 1, 1) := by decide +kernel
theorem dX7_doneWorth_6 : decode cX7_doneWorth 6 = .ok (.getfield 47, 3) := by decide +kernel
theorem dX7_doneWorth_9 : decode cX7_doneWorth 9 = .ok (.getfield 60, 3) := by decide +kernel
theorem dX7_doneWorth_12 : decode cX7_doneWorth 12 = .ok (.if_icmp .ge 30, 3) := by decide +kernel
theorem dX7_doneWorth_15 : decode cX7_doneWorth 15 = .ok (.iload_n 2, 1) := by decide +kernel
theorem dX7_doneWorth_16 : decode cX7_doneWorth 16 = .ok (.aload_n 0, 1) := by decide +kernel
theorem dX7_doneWorth_17 : decode cX7_doneWorth 17 = .ok (.aload_n 1, 1) := by decide +kernel
theorem dX7_doneWorth_18 : decode cX7_doneWorth 18 = .ok (.iload_n 3, 1) := by decide +kernel
theorem dX7_doneWorth_19 : decode cX7_doneWorth 19 = .ok (.invokevirtual 64, 3) := by decide +kernel
theorem dX7_doneWorth_22 : decode cX7_doneWorth 22 = .ok (.ifCond .eq 11, 3) := by decide +kernel
theorem dX7_doneWorth_25 : decode cX7_doneWorth 25 = .ok (.aload_n 1, 1) := by decide +kernel
theorem dX7_doneWorth_26 : decode cX7_doneWorth 26 = .ok (.iload_n 3, 1) := by decide +kernel
theorem dX7_doneWorth_27 : decode cX7_doneWorth 27 = .ok (.invokevirtual 68, 3) := by decide +kernel
theorem dX7_doneWorth_30 : decode cX7_doneWorth 30 = .ok (.goto 4, 3) := by decide +kernel
theorem dX7_doneWorth_33 : decode cX7_doneWorth 33 = .ok (.iconst 0, 1) := by decide +kernel
theorem dX7_doneWorth_34 : decode cX7_doneWorth 34 = .ok (.iadd, 1) := by decide +kernel
theorem dX7_doneWorth_35 : decode cX7_doneWorth 35 = .ok (.istore_n 2, 1) := by decide +kernel
theorem dX7_doneWorth_36 : decode cX7_doneWorth 36 = .ok (.iinc 3 1, 3) := by decide +kernel
theorem dX7_doneWorth_39 : decode cX7_doneWorth 39 = .ok (.goto (-35), 3) := by decide +kernel
theorem dX7_doneWorth_42 : decode cX7_doneWorth 42 = .ok (.iload_n 2, 1) := by decide +kernel
theorem dX7_doneWorth_43 : decode cX7_doneWorth 43 = .ok (.ireturn, 1) := by decide +kernel
theorem dX7_chancesOf_0 : decode cX7_chancesOf 0 = .ok (.aload_n 1, 1) := by decide +kernel
theorem dX7_chancesOf_1 : decode cX7_chancesOf 1 = .ok (.getfield 47, 3) := by decide +kernel
theorem dX7_chancesOf_4 : decode cX7_chancesOf 4 = .ok (.iload_n 2, 1) := by decide +kernel
theorem dX7_chancesOf_5 : decode cX7_chancesOf 5 = .ok (.iconst 0, 1) := by decide +kernel
theorem dX7_chancesOf_6 : decode cX7_chancesOf 6 = .ok (.invokevirtual 51, 3) := by decide +kernel
theorem dX7_chancesOf_9 : decode cX7_chancesOf 9 = .ok (.istore_n 3, 1) := by decide +kernel
theorem dX7_chancesOf_10 : decode cX7_chancesOf 10 = .ok (.aload_n 1, 1) := by decide +kernel
theorem dX7_chancesOf_11 : decode cX7_chancesOf 11 = .ok (.getfield 47, 3) := by decide +kernel
theorem dX7_chancesOf_14 : decode cX7_chancesOf 14 = .ok (.iload_n 2, 1) := by decide +kernel
theorem dX7_chancesOf_15 : decode cX7_chancesOf 15 = .ok (.iconst 1, 1) := by decide +kernel
theorem dX7_chancesOf_16 : decode cX7_chancesOf 16 = .ok (.invokevirtual 51, 3) := by decide +kernel
theorem dX7_chancesOf_19 : decode cX7_chancesOf 19 = .ok (.istore 4, 2) := by decide +kernel
theorem dX7_chancesOf_21 : decode cX7_chancesOf 21 = .ok (.aload_n 1, 1) := by decide +kernel
theorem dX7_chancesOf_22 : decode cX7_chancesOf 22 = .ok (.getfield 47, 3) := by decide +kernel
theorem dX7_chancesOf_25 : decode cX7_chancesOf 25 = .ok (.iload_n 2, 1) := by decide +kernel
theorem dX7_chancesOf_26 : decode cX7_chancesOf 26 = .ok (.iconst 2, 1) := by decide +kernel
theorem dX7_chancesOf_27 : decode cX7_chancesOf 27 = .ok (.invokevirtual 51, 3) := by decide +kernel
theorem dX7_chancesOf_30 : decode cX7_chancesOf 30 = .ok (.istore 5, 2) := by decide +kernel
theorem dX7_chancesOf_32 : decode cX7_chancesOf 32 = .ok (.iconst 0, 1) := by decide +kernel
theorem dX7_chancesOf_33 : decode cX7_chancesOf 33 = .ok (.istore 6, 2) := by decide +kernel
theorem dX7_chancesOf_35 : decode cX7_chancesOf 35 = .ok (.iconst 0, 1) := by decide +kernel
theorem dX7_chancesOf_36 : decode cX7_chancesOf 36 = .ok (.istore 7, 2) := by decide +kernel
theorem dX7_chancesOf_38 : decode cX7_chancesOf 38 = .ok (.iconst 0, 1) := by decide +kernel
theorem dX7_chancesOf_39 : decode cX7_chancesOf 39 = .ok (.istore 8, 2) := by decide +kernel
theorem dX7_chancesOf_41 : decode cX7_chancesOf 41 = .ok (.iload 8, 2) := by decide +kernel
theorem dX7_chancesOf_43 : decode cX7_chancesOf 43 = .ok (.bipush 10, 2) := by decide +kernel
theorem dX7_chancesOf_45 : decode cX7_chancesOf 45 = .ok (.if_icmp .ge 62, 3) := by decide +kernel
theorem dX7_chancesOf_48 : decode cX7_chancesOf 48 = .ok (.aload_n 0, 1) := by decide +kernel
theorem dX7_chancesOf_49 : decode cX7_chancesOf 49 = .ok (.getfield 9, 3) := by decide +kernel
theorem dX7_chancesOf_52 : decode cX7_chancesOf 52 = .ok (.iload 8, 2) := by decide +kernel
theorem dX7_chancesOf_54 : decode cX7_chancesOf 54 = .ok (.iaload, 1) := by decide +kernel
theorem dX7_chancesOf_55 : decode cX7_chancesOf 55 = .ok (.iload_n 3, 1) := by decide +kernel
theorem dX7_chancesOf_56 : decode cX7_chancesOf 56 = .ok (.if_icmp .eq 9, 3) := by decide +kernel
theorem dX7_chancesOf_59 : decode cX7_chancesOf 59 = .ok (.iconst 0, 1) := by decide +kernel
theorem dX7_chancesOf_60 : decode cX7_chancesOf 60 = .ok (.istore 7, 2) := by decide +kernel
theorem dX7_chancesOf_62 : decode cX7_chancesOf 62 = .ok (.goto 39, 3) := by decide +kernel
theorem dX7_chancesOf_65 : decode cX7_chancesOf 65 = .ok (.iload 7, 2) := by decide +kernel
theorem dX7_chancesOf_67 : decode cX7_chancesOf 67 = .ok (.ifCond .ne 34, 3) := by decide +kernel
theorem dX7_chancesOf_70 : decode cX7_chancesOf 70 = .ok (.iload 8, 2) := by decide +kernel
theorem dX7_chancesOf_72 : decode cX7_chancesOf 72 = .ok (.iload 4, 2) := by decide +kernel
theorem dX7_chancesOf_74 : decode cX7_chancesOf 74 = .ok (.if_icmp .lt 27, 3) := by decide +kernel
theorem dX7_chancesOf_77 : decode cX7_chancesOf 77 = .ok (.iload 8, 2) := by decide +kernel
theorem dX7_chancesOf_79 : decode cX7_chancesOf 79 = .ok (.iload 5, 2) := by decide +kernel
theorem dX7_chancesOf_81 : decode cX7_chancesOf 81 = .ok (.if_icmp .gt 20, 3) := by decide +kernel
theorem dX7_chancesOf_84 : decode cX7_chancesOf 84 = .ok (.aload_n 0, 1) := by decide +kernel
theorem dX7_chancesOf_85 : decode cX7_chancesOf 85 = .ok (.getfield 15, 3) := by decide +kernel
theorem dX7_chancesOf_88 : decode cX7_chancesOf 88 = .ok (.iload 8, 2) := by decide +kernel
theorem dX7_chancesOf_90 : decode cX7_chancesOf 90 = .ok (.iaload, 1) := by decide +kernel
theorem dX7_chancesOf_91 : decode cX7_chancesOf 91 = .ok (.iload_n 3, 1) := by decide +kernel
theorem dX7_chancesOf_92 : decode cX7_chancesOf 92 = .ok (.if_icmp .ne 9, 3) := by decide +kernel
theorem dX7_chancesOf_95 : decode cX7_chancesOf 95 = .ok (.iconst 1, 1) := by decide +kernel
theorem dX7_chancesOf_96 : decode cX7_chancesOf 96 = .ok (.istore 7, 2) := by decide +kernel
theorem dX7_chancesOf_98 : decode cX7_chancesOf 98 = .ok (.iinc 6 1, 3) := by decide +kernel
theorem dX7_chancesOf_101 : decode cX7_chancesOf 101 = .ok (.iinc 8 1, 3) := by decide +kernel
theorem dX7_chancesOf_104 : decode cX7_chancesOf 104 = .ok (.goto (-63), 3) := by decide +kernel
theorem dX7_chancesOf_107 : decode cX7_chancesOf 107 = .ok (.iload 6, 2) := by decide +kernel
theorem dX7_chancesOf_109 : decode cX7_chancesOf 109 = .ok (.ireturn, 1) := by decide +kernel
theorem dJ6_bitCount_0f7a4_0 : decode cJ6_bitCount_0f7a4 0 = .ok (.iload_n 0, 1) := by decide +kernel
theorem dJ6_bitCount_0f7a4_1 : decode cJ6_bitCount_0f7a4 1 = .ok (.iload_n 0, 1) := by decide +kernel
theorem dJ6_bitCount_0f7a4_2 : decode cJ6_bitCount_0f7a4 2 = .ok (.iconst 1, 1) := by decide +kernel
theorem dJ6_bitCount_0f7a4_3 : decode cJ6_bitCount_0f7a4 3 = .ok (.iushr, 1) := by decide +kernel
theorem dJ6_bitCount_0f7a4_4 : decode cJ6_bitCount_0f7a4 4 = .ok (.ldc_w 265, 3) := by decide +kernel
theorem dJ6_bitCount_0f7a4_7 : decode cJ6_bitCount_0f7a4 7 = .ok (.iand, 1) := by decide +kernel
theorem dJ6_bitCount_0f7a4_8 : decode cJ6_bitCount_0f7a4 8 = .ok (.isub, 1) := by decide +kernel
theorem dJ6_bitCount_0f7a4_9 : decode cJ6_bitCount_0f7a4 9 = .ok (.istore_n 0, 1) := by decide +kernel
theorem dJ6_bitCount_0f7a4_10 : decode cJ6_bitCount_0f7a4 10 = .ok (.iload_n 0, 1) := by decide +kernel
theorem dJ6_bitCount_0f7a4_11 : decode cJ6_bitCount_0f7a4 11 = .ok (.ldc_w 266, 3) := by decide +kernel
theorem dJ6_bitCount_0f7a4_14 : decode cJ6_bitCount_0f7a4 14 = .ok (.iand, 1) := by decide +kernel
theorem dJ6_bitCount_0f7a4_15 : decode cJ6_bitCount_0f7a4 15 = .ok (.iload_n 0, 1) := by decide +kernel
theorem dJ6_bitCount_0f7a4_16 : decode cJ6_bitCount_0f7a4 16 = .ok (.iconst 2, 1) := by decide +kernel
theorem dJ6_bitCount_0f7a4_17 : decode cJ6_bitCount_0f7a4 17 = .ok (.iushr, 1) := by decide +kernel
theorem dJ6_bitCount_0f7a4_18 : decode cJ6_bitCount_0f7a4 18 = .ok (.ldc_w 266, 3) := by decide +kernel
theorem dJ6_bitCount_0f7a4_21 : decode cJ6_bitCount_0f7a4 21 = .ok (.iand, 1) := by decide +kernel
theorem dJ6_bitCount_0f7a4_22 : decode cJ6_bitCount_0f7a4 22 = .ok (.iadd, 1) := by decide +kernel
theorem dJ6_bitCount_0f7a4_23 : decode cJ6_bitCount_0f7a4 23 = .ok (.istore_n 0, 1) := by decide +kernel
theorem dJ6_bitCount_0f7a4_24 : decode cJ6_bitCount_0f7a4 24 = .ok (.iload_n 0, 1) := by decide +kernel
theorem dJ6_bitCount_0f7a4_25 : decode cJ6_bitCount_0f7a4 25 = .ok (.iload_n 0, 1) := by decide +kernel
theorem dJ6_bitCount_0f7a4_26 : decode cJ6_bitCount_0f7a4 26 = .ok (.iconst 4, 1) := by decide +kernel
theorem dJ6_bitCount_0f7a4_27 : decode cJ6_bitCount_0f7a4 27 = .ok (.iushr, 1) := by decide +kernel
theorem dJ6_bitCount_0f7a4_28 : decode cJ6_bitCount_0f7a4 28 = .ok (.iadd, 1) := by decide +kernel
theorem dJ6_bitCount_0f7a4_29 : decode cJ6_bitCount_0f7a4 29 = .ok (.ldc_w 267, 3) := by decide +kernel
theorem dJ6_bitCount_0f7a4_32 : decode cJ6_bitCount_0f7a4 32 = .ok (.iand, 1) := by decide +kernel
theorem dJ6_bitCount_0f7a4_33 : decode cJ6_bitCount_0f7a4 33 = .ok (.istore_n 0, 1) := by decide +kernel
theorem dJ6_bitCount_0f7a4_34 : decode cJ6_bitCount_0f7a4 34 = .ok (.iload_n 0, 1) := by decide +kernel
theorem dJ6_bitCount_0f7a4_35 : decode cJ6_bitCount_0f7a4 35 = .ok (.iload_n 0, 1) := by decide +kernel
theorem dJ6_bitCount_0f7a4_36 : decode cJ6_bitCount_0f7a4 36 = .ok (.bipush 8, 2) := by decide +kernel
theorem dJ6_bitCount_0f7a4_38 : decode cJ6_bitCount_0f7a4 38 = .ok (.iushr, 1) := by decide +kernel
theorem dJ6_bitCount_0f7a4_39 : decode cJ6_bitCount_0f7a4 39 = .ok (.iadd, 1) := by decide +kernel
theorem dJ6_bitCount_0f7a4_40 : decode cJ6_bitCount_0f7a4 40 = .ok (.istore_n 0, 1) := by decide +kernel
theorem dJ6_bitCount_0f7a4_41 : decode cJ6_bitCount_0f7a4 41 = .ok (.iload_n 0, 1) := by decide +kernel
theorem dJ6_bitCount_0f7a4_42 : decode cJ6_bitCount_0f7a4 42 = .ok (.iload_n 0, 1) := by decide +kernel
theorem dJ6_bitCount_0f7a4_43 : decode cJ6_bitCount_0f7a4 43 = .ok (.bipush 16, 2) := by decide +kernel
theorem dJ6_bitCount_0f7a4_45 : decode cJ6_bitCount_0f7a4 45 = .ok (.iushr, 1) := by decide +kernel
theorem dJ6_bitCount_0f7a4_46 : decode cJ6_bitCount_0f7a4 46 = .ok (.iadd, 1) := by decide +kernel
theorem dJ6_bitCount_0f7a4_47 : decode cJ6_bitCount_0f7a4 47 = .ok (.istore_n 0, 1) := by decide +kernel
theorem dJ6_bitCount_0f7a4_48 : decode cJ6_bitCount_0f7a4 48 = .ok (.iload_n 0, 1) := by decide +kernel
theorem dJ6_bitCount_0f7a4_49 : decode cJ6_bitCount_0f7a4 49 = .ok (.bipush 63, 2) := by decide +kernel
theorem dJ6_bitCount_0f7a4_51 : decode cJ6_bitCount_0f7a4 51 = .ok (.iand, 1) := by decide +kernel
theorem dJ6_bitCount_0f7a4_52 : decode cJ6_bitCount_0f7a4 52 = .ok (.ireturn, 1) := by decide +kernel
theorem dJ9_abs_0f7a4_0 : decode cJ9_abs_0f7a4 0 = .ok (.iload_n 0, 1) := by decide +kernel
theorem dJ9_abs_0f7a4_1 : decode cJ9_abs_0f7a4 1 = .ok (.ifCond .ge 8, 3) := by decide +kernel
theorem dJ9_abs_0f7a4_4 : decode cJ9_abs_0f7a4 4 = .ok (.iload_n 0, 1) := by decide +kernel
theorem dJ9_abs_0f7a4_5 : decode cJ9_abs_0f7a4 5 = .ok (.ineg, 1) := by decide +kernel
theorem dJ9_abs_0f7a4_6 : decode cJ9_abs_0f7a4 6 = .ok (.goto 4, 3) := by decide +kernel
theorem dJ9_abs_0f7a4_9 : decode cJ9_abs_0f7a4 9 = .ok (.iload_n 0, 1) := by decide +kernel
theorem dJ9_abs_0f7a4_10 : decode cJ9_abs_0f7a4 10 = .ok (.ireturn, 1) := by decide +kernel
theorem dJ9_max_7cf53_0 : decode cJ9_max_7cf53 0 = .ok (.iload_n 0, 1) := by decide +kernel
theorem dJ9_max_7cf53_1 : decode cJ9_max_7cf53 1 = .ok (.iload_n 1, 1) := by decide +kernel
theorem dJ9_max_7cf53_2 : decode cJ9_max_7cf53 2 = .ok (.if_icmp .lt 7, 3) := by decide +kernel
theorem dJ9_max_7cf53_5 : decode cJ9_max_7cf53 5 = .ok (.iload_n 0, 1) := by decide +kernel
theorem dJ9_max_7cf53_6 : decode cJ9_max_7cf53 6 = .ok (.goto 4, 3) := by decide +kernel
theorem dJ9_max_7cf53_9 : decode cJ9_max_7cf53 9 = .ok (.iload_n 1, 1) := by decide +kernel
theorem dJ9_max_7cf53_10 : decode cJ9_max_7cf53 10 = .ok (.ireturn, 1) := by decide +kernel
theorem dJ9_min_7cf53_0 : decode cJ9_min_7cf53 0 = .ok (.iload_n 0, 1) := by decide +kernel
theorem dJ9_min_7cf53_1 : decode cJ9_min_7cf53 1 = .ok (.iload_n 1, 1) := by decide +kernel
theorem dJ9_min_7cf53_2 : decode cJ9_min_7cf53 2 = .ok (.if_icmp .gt 7, 3) := by decide +kernel
theorem dJ9_min_7cf53_5 : decode cJ9_min_7cf53 5 = .ok (.iload_n 0, 1) := by decide +kernel
theorem dJ9_min_7cf53_6 : decode cJ9_min_7cf53 6 = .ok (.goto 4, 3) := by decide +kernel
theorem dJ9_min_7cf53_9 : decode cJ9_min_7cf53 9 = .ok (.iload_n 1, 1) := by decide +kernel
theorem dJ9_min_7cf53_10 : decode cJ9_min_7cf53 10 = .ok (.ireturn, 1) := by decide +kernel
theorem dJ0_length_8abf5_0 : decode cJ0_length_8abf5 0 = .ok (.aload_n 0, 1) := by decide +kernel
theorem dJ0_length_8abf5_1 : decode cJ0_length_8abf5 1 = .ok (.getfield 9, 3) := by decide +kernel
theorem dJ0_length_8abf5_4 : decode cJ0_length_8abf5 4 = .ok (.arraylength, 1) := by decide +kernel
theorem dJ0_length_8abf5_5 : decode cJ0_length_8abf5 5 = .ok (.aload_n 0, 1) := by decide +kernel
theorem dJ0_length_8abf5_6 : decode cJ0_length_8abf5 6 = .ok (.invokevirtual 335, 3) := by decide +kernel
theorem dJ0_length_8abf5_9 : decode cJ0_length_8abf5 9 = .ok (.ishr, 1) := by decide +kernel
theorem dJ0_length_8abf5_10 : decode cJ0_length_8abf5 10 = .ok (.ireturn, 1) := by decide +kernel
theorem dJ0_charAt_5068e_0 : decode cJ0_charAt_5068e 0 = .ok (.aload_n 0, 1) := by decide +kernel
theorem dJ0_charAt_5068e_1 : decode cJ0_charAt_5068e 1 = .ok (.invokevirtual 492, 3) := by decide +kernel
theorem dJ0_charAt_5068e_4 : decode cJ0_charAt_5068e 4 = .ok (.ifCond .eq 12, 3) := by decide +kernel
theorem dJ0_charAt_5068e_7 : decode cJ0_charAt_5068e 7 = .ok (.aload_n 0, 1) := by decide +kernel
theorem dJ0_charAt_5068e_8 : decode cJ0_charAt_5068e 8 = .ok (.getfield 9, 3) := by decide +kernel
theorem dJ0_charAt_5068e_11 : decode cJ0_charAt_5068e 11 = .ok (.iload_n 1, 1) := by decide +kernel
theorem dJ0_charAt_5068e_12 : decode cJ0_charAt_5068e 12 = .ok (.invokestatic 495, 3) := by decide +kernel
theorem dJ0_charAt_5068e_15 : decode cJ0_charAt_5068e 15 = .ok (.ireturn, 1) := by decide +kernel
theorem dJ0_charAt_5068e_16 : decode cJ0_charAt_5068e 16 = .ok (.aload_n 0, 1) := by decide +kernel
theorem dJ0_charAt_5068e_17 : decode cJ0_charAt_5068e 17 = .ok (.getfield 9, 3) := by decide +kernel
theorem dJ0_charAt_5068e_20 : decode cJ0_charAt_5068e 20 = .ok (.iload_n 1, 1) := by decide +kernel
theorem dJ0_charAt_5068e_21 : decode cJ0_charAt_5068e 21 = .ok (.invokestatic 498, 3) := by decide +kernel
theorem dJ0_charAt_5068e_24 : decode cJ0_charAt_5068e 24 = .ok (.ireturn, 1) := by decide +kernel
theorem dJ0_coder_7d493_0 : decode cJ0_coder_7d493 0 = .ok (.getstatic 38, 3) := by decide +kernel
theorem dJ0_coder_7d493_3 : decode cJ0_coder_7d493 3 = .ok (.ifCond .eq 10, 3) := by decide +kernel
theorem dJ0_coder_7d493_6 : decode cJ0_coder_7d493 6 = .ok (.aload_n 0, 1) := by decide +kernel
theorem dJ0_coder_7d493_7 : decode cJ0_coder_7d493 7 = .ok (.getfield 15, 3) := by decide +kernel
theorem dJ0_coder_7d493_10 : decode cJ0_coder_7d493 10 = .ok (.goto 4, 3) := by decide +kernel
theorem dJ0_coder_7d493_13 : decode cJ0_coder_7d493 13 = .ok (.iconst 1, 1) := by decide +kernel
theorem dJ0_coder_7d493_14 : decode cJ0_coder_7d493 14 = .ok (.ireturn, 1) := by decide +kernel
theorem dJ0_isLatin1_aae02_0 : decode cJ0_isLatin1_aae02 0 = .ok (.getstatic 38, 3) := by decide +kernel
theorem dJ0_isLatin1_aae02_3 : decode cJ0_isLatin1_aae02 3 = .ok (.ifCond .eq 14, 3) := by decide +kernel
theorem dJ0_isLatin1_aae02_6 : decode cJ0_isLatin1_aae02 6 = .ok (.aload_n 0, 1) := by decide +kernel
theorem dJ0_isLatin1_aae02_7 : decode cJ0_isLatin1_aae02 7 = .ok (.getfield 15, 3) := by decide +kernel
theorem dJ0_isLatin1_aae02_10 : decode cJ0_isLatin1_aae02 10 = .ok (.ifCond .ne 7, 3) := by decide +kernel
theorem dJ0_isLatin1_aae02_13 : decode cJ0_isLatin1_aae02 13 = .ok (.iconst 1, 1) := by decide +kernel
theorem dJ0_isLatin1_aae02_14 : decode cJ0_isLatin1_aae02 14 = .ok (.goto 4, 3) := by decide +kernel
theorem dJ0_isLatin1_aae02_17 : decode cJ0_isLatin1_aae02 17 = .ok (.iconst 0, 1) := by decide +kernel
theorem dJ0_isLatin1_aae02_18 : decode cJ0_isLatin1_aae02 18 = .ok (.ireturn, 1) := by decide +kernel
theorem dJ0_checkIndex_df160_0 : decode cJ0_checkIndex_df160 0 = .ok (.iload_n 0, 1) := by decide +kernel
theorem dJ0_checkIndex_df160_1 : decode cJ0_checkIndex_df160 1 = .ok (.iload_n 1, 1) := by decide +kernel
theorem dJ0_checkIndex_df160_2 : decode cJ0_checkIndex_df160 2 = .ok (.getstatic 1053, 3) := by decide +kernel
theorem dJ0_checkIndex_df160_5 : decode cJ0_checkIndex_df160 5 = .ok (.invokestatic 1059, 3) := by decide +kernel
theorem dJ0_checkIndex_df160_8 : decode cJ0_checkIndex_df160 8 = .ok (.pop, 1) := by decide +kernel
theorem dJ0_checkIndex_df160_9 : decode cJ0_checkIndex_df160 9 = .ok (.return_, 1) := by decide +kernel
theorem dJ1_charAt_3b067_0 : decode cJ1_charAt_3b067 0 = .ok (.iload_n 1, 1) := by decide +kernel
theorem dJ1_charAt_3b067_1 : decode cJ1_charAt_3b067 1 = .ok (.aload_n 0, 1) := by decide +kernel
theorem dJ1_charAt_3b067_2 : decode cJ1_charAt_3b067 2 = .ok (.arraylength, 1) := by decide +kernel
theorem dJ1_charAt_3b067_3 : decode cJ1_charAt_3b067 3 = .ok (.invokestatic 9, 3) := by decide +kernel
theorem dJ1_charAt_3b067_6 : decode cJ1_charAt_3b067 6 = .ok (.aload_n 0, 1) := by decide +kernel
theorem dJ1_charAt_3b067_7 : decode cJ1_charAt_3b067 7 = .ok (.iload_n 1, 1) := by decide +kernel
theorem dJ1_charAt_3b067_8 : decode cJ1_charAt_3b067 8 = .ok (.baload, 1) := by decide +kernel
theorem dJ1_charAt_3b067_9 : decode cJ1_charAt_3b067 9 = .ok (.sipush 255, 3) := by decide +kernel
theorem dJ1_charAt_3b067_12 : decode cJ1_charAt_3b067 12 = .ok (.iand, 1) := by decide +kernel
theorem dJ1_charAt_3b067_13 : decode cJ1_charAt_3b067 13 = .ok (.i2c, 1) := by decide +kernel
theorem dJ1_charAt_3b067_14 : decode cJ1_charAt_3b067 14 = .ok (.ireturn, 1) := by decide +kernel
theorem dJ2_getChar_3b067_0 : decode cJ2_getChar_3b067 0 = .ok (.getstatic 44, 3) := by decide +kernel
theorem dJ2_getChar_3b067_3 : decode cJ2_getChar_3b067 3 = .ok (.ifCond .ne 25, 3) := by decide +kernel
theorem dJ2_getChar_3b067_6 : decode cJ2_getChar_3b067 6 = .ok (.iload_n 1, 1) := by decide +kernel
theorem dJ2_getChar_3b067_7 : decode cJ2_getChar_3b067 7 = .ok (.ifCond .lt 11, 3) := by decide +kernel
theorem dJ2_getChar_3b067_10 : decode cJ2_getChar_3b067 10 = .ok (.iload_n 1, 1) := by decide +kernel
theorem dJ2_getChar_3b067_11 : decode cJ2_getChar_3b067 11 = .ok (.aload_n 0, 1) := by decide +kernel
theorem dJ2_getChar_3b067_12 : decode cJ2_getChar_3b067 12 = .ok (.invokestatic 48, 3) := by decide +kernel
theorem dJ2_getChar_3b067_15 : decode cJ2_getChar_3b067 15 = .ok (.if_icmp .lt 13, 3) := by decide +kernel
theorem dJ2_getChar_3b067_18 : decode cJ2_getChar_3b067 18 = .ok (.new 52, 3) := by decide +kernel
theorem dJ2_getChar_3b067_21 : decode cJ2_getChar_3b067 21 = .ok (.dup, 1) := by decide +kernel
theorem dJ2_getChar_3b067_22 : decode cJ2_getChar_3b067 22 = .ok (.ldc 54, 2) := by decide +kernel
theorem dJ2_getChar_3b067_24 : decode cJ2_getChar_3b067 24 = .ok (.invokespecial 56, 3) := by decide +kernel
theorem dJ2_getChar_3b067_27 : decode cJ2_getChar_3b067 27 = .ok (.athrow, 1) := by decide +kernel
theorem dJ2_getChar_3b067_28 : decode cJ2_getChar_3b067 28 = .ok (.iload_n 1, 1) := by decide +kernel
theorem dJ2_getChar_3b067_29 : decode cJ2_getChar_3b067 29 = .ok (.iconst 1, 1) := by decide +kernel
theorem dJ2_getChar_3b067_30 : decode cJ2_getChar_3b067 30 = .ok (.ishl, 1) := by decide +kernel
theorem dJ2_getChar_3b067_31 : decode cJ2_getChar_3b067 31 = .ok (.istore_n 1, 1) := by decide +kernel
theorem dJ2_getChar_3b067_32 : decode cJ2_getChar_3b067 32 = .ok (.aload_n 0, 1) := by decide +kernel
theorem dJ2_getChar_3b067_33 : decode cJ2_getChar_3b067 33 = .ok (.iload_n 1, 1) := by decide +kernel
theorem dJ2_getChar_3b067_34 : decode cJ2_getChar_3b067 34 = .ok (.iinc 1 1, 3) := by decide +kernel
theorem dJ2_getChar_3b067_37 : decode cJ2_getChar_3b067 37 = .ok (.baload, 1) := by decide +kernel
theorem dJ2_getChar_3b067_38 : decode cJ2_getChar_3b067 38 = .ok (.sipush 255, 3) := by decide +kernel
theorem dJ2_getChar_3b067_41 : decode cJ2_getChar_3b067 41 = .ok (.iand, 1) := by decide +kernel
theorem dJ2_getChar_3b067_42 : decode cJ2_getChar_3b067 42 = .ok (.getstatic 59, 3) := by decide +kernel
theorem dJ2_getChar_3b067_45 : decode cJ2_getChar_3b067 45 = .ok (.ishl, 1) := by decide +kernel
theorem dJ2_getChar_3b067_46 : decode cJ2_getChar_3b067 46 = .ok (.aload_n 0, 1) := by decide +kernel
theorem dJ2_getChar_3b067_47 : decode cJ2_getChar_3b067 47 = .ok (.iload_n 1, 1) := by decide +kernel
theorem dJ2_getChar_3b067_48 : decode cJ2_getChar_3b067 48 = .ok (.baload, 1) := by decide +kernel
theorem dJ2_getChar_3b067_49 : decode cJ2_getChar_3b067 49 = .ok (.sipush 255, 3) := by decide +kernel
theorem dJ2_getChar_3b067_52 : decode cJ2_getChar_3b067 52 = .ok (.iand, 1) := by decide +kernel
theorem dJ2_getChar_3b067_53 : decode cJ2_getChar_3b067 53 = .ok (.getstatic 63, 3) := by decide +kernel
theorem dJ2_getChar_3b067_56 : decode cJ2_getChar_3b067 56 = .ok (.ishl, 1) := by decide +kernel
theorem dJ2_getChar_3b067_57 : decode cJ2_getChar_3b067 57 = .ok (.ior, 1) := by decide +kernel
theorem dJ2_getChar_3b067_58 : decode cJ2_getChar_3b067 58 = .ok (.i2c, 1) := by decide +kernel
theorem dJ2_getChar_3b067_59 : decode cJ2_getChar_3b067 59 = .ok (.ireturn, 1) := by decide +kernel
theorem dJ2_length_9d52b_0 : decode cJ2_length_9d52b 0 = .ok (.aload_n 0, 1) := by decide +kernel
theorem dJ2_length_9d52b_1 : decode cJ2_length_9d52b 1 = .ok (.arraylength, 1) := by decide +kernel
theorem dJ2_length_9d52b_2 : decode cJ2_length_9d52b 2 = .ok (.iconst 1, 1) := by decide +kernel
theorem dJ2_length_9d52b_3 : decode cJ2_length_9d52b 3 = .ok (.ishr, 1) := by decide +kernel
theorem dJ2_length_9d52b_4 : decode cJ2_length_9d52b 4 = .ok (.ireturn, 1) := by decide +kernel
theorem dJ2_charAt_3b067_0 : decode cJ2_charAt_3b067 0 = .ok (.iload_n 1, 1) := by decide +kernel
theorem dJ2_charAt_3b067_1 : decode cJ2_charAt_3b067 1 = .ok (.aload_n 0, 1) := by decide +kernel
theorem dJ2_charAt_3b067_2 : decode cJ2_charAt_3b067 2 = .ok (.invokestatic 67, 3) := by decide +kernel
theorem dJ2_charAt_3b067_5 : decode cJ2_charAt_3b067 5 = .ok (.aload_n 0, 1) := by decide +kernel
theorem dJ2_charAt_3b067_6 : decode cJ2_charAt_3b067 6 = .ok (.iload_n 1, 1) := by decide +kernel
theorem dJ2_charAt_3b067_7 : decode cJ2_charAt_3b067 7 = .ok (.invokestatic 71, 3) := by decide +kernel
theorem dJ2_charAt_3b067_10 : decode cJ2_charAt_3b067 10 = .ok (.ireturn, 1) := by decide +kernel
theorem dJ2_checkIndex_2214a_0 : decode cJ2_checkIndex_2214a 0 = .ok (.iload_n 0, 1) := by decide +kernel
theorem dJ2_checkIndex_2214a_1 : decode cJ2_checkIndex_2214a 1 = .ok (.aload_n 1, 1) := by decide +kernel
theorem dJ2_checkIndex_2214a_2 : decode cJ2_checkIndex_2214a 2 = .ok (.invokestatic 48, 3) := by decide +kernel
theorem dJ2_checkIndex_2214a_5 : decode cJ2_checkIndex_2214a 5 = .ok (.invokestatic 414, 3) := by decide +kernel
theorem dJ2_checkIndex_2214a_8 : decode cJ2_checkIndex_2214a 8 = .ok (.return_, 1) := by decide +kernel
theorem dJ3_checkIndex_8e157_0 : decode cJ3_checkIndex_8e157 0 = .ok (.iload_n 0, 1) := by decide +kernel
theorem dJ3_checkIndex_8e157_1 : decode cJ3_checkIndex_8e157 1 = .ok (.ifCond .lt 8, 3) := by decide +kernel
theorem dJ3_checkIndex_8e157_4 : decode cJ3_checkIndex_8e157 4 = .ok (.iload_n 0, 1) := by decide +kernel
theorem dJ3_checkIndex_8e157_5 : decode cJ3_checkIndex_8e157 5 = .ok (.iload_n 1, 1) := by decide +kernel
theorem dJ3_checkIndex_8e157_6 : decode cJ3_checkIndex_8e157 6 = .ok (.if_icmp .lt 10, 3) := by decide +kernel
theorem dJ3_checkIndex_8e157_9 : decode cJ3_checkIndex_8e157 9 = .ok (.aload_n 2, 1) := by decide +kernel
theorem dJ3_checkIndex_8e157_10 : decode cJ3_checkIndex_8e157 10 = .ok (.iload_n 0, 1) := by decide +kernel
theorem dJ3_checkIndex_8e157_11 : decode cJ3_checkIndex_8e157 11 = .ok (.iload_n 1, 1) := by decide +kernel
theorem dJ3_checkIndex_8e157_12 : decode cJ3_checkIndex_8e157 12 = .ok (.invokestatic 95, 3) := by decide +kernel
theorem dJ3_checkIndex_8e157_15 : decode cJ3_checkIndex_8e157 15 = .ok (.athrow, 1) := by decide +kernel
theorem dJ3_checkIndex_8e157_16 : decode cJ3_checkIndex_8e157 16 = .ok (.iload_n 0, 1) := by decide +kernel
theorem dJ3_checkIndex_8e157_17 : decode cJ3_checkIndex_8e157 17 = .ok (.ireturn, 1) := by decide +kernel
