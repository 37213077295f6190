theorem dX9_tellings_32 : decode cX9_tellings 32 = .ok (.iaload, 1) := by decide +kernel
theorem dX9_tellings_33 : decode cX9_tellings 33 = .ok (.imul, 1) := by decide +kernel
theorem dX9_tellings_34 : decode cX9_tellings 34 = .ok (.iadd, 1) := by decide +kernel
theorem dX9_tellings_35 : decode cX9_tellings 35 = .ok (.aload_n 0, 1) := by decide +kernel
theorem dX9_tellings_36 : decode cX9_tellings 36 = .ok (.getfield 7, 3) := by decide +kernel
theorem dX9_tellings_39 : decode cX9_tellings 39 = .ok (.iload_n 3, 1) := by decide +kernel
theorem dX9_tellings_40 : decode cX9_tellings 40 = .ok (.iconst 3, 1) := by decide +kernel
theorem dX9_tellings_41 : decode cX9_tellings 41 = .ok (.iadd, 1) := by decide +kernel
theorem dX9_tellings_42 : decode cX9_tellings 42 = .ok (.iaload, 1) := by decide +kernel
theorem dX9_tellings_43 : decode cX9_tellings 43 = .ok (.iadd, 1) := by decide +kernel
theorem dX9_tellings_44 : decode cX9_tellings 44 = .ok (.istore 4, 2) := by decide +kernel
theorem dX9_tellings_46 : decode cX9_tellings 46 = .ok (.bipush 15, 2) := by decide +kernel
theorem dX9_tellings_48 : decode cX9_tellings 48 = .ok (.iload_n 1, 1) := by decide +kernel
theorem dX9_tellings_49 : decode cX9_tellings 49 = .ok (.imul, 1) := by decide +kernel
theorem dX9_tellings_50 : decode cX9_tellings 50 = .ok (.iconst 3, 1) := by decide +kernel
theorem dX9_tellings_51 : decode cX9_tellings 51 = .ok (.aload_n 0, 1) := by decide +kernel
theorem dX9_tellings_52 : decode cX9_tellings 52 = .ok (.getfield 7, 3) := by decide +kernel
theorem dX9_tellings_55 : decode cX9_tellings 55 = .ok (.iload_n 3, 1) := by decide +kernel
theorem dX9_tellings_56 : decode cX9_tellings 56 = .ok (.iconst 2, 1) := by decide +kernel
theorem dX9_tellings_57 : decode cX9_tellings 57 = .ok (.iadd, 1) := by decide +kernel
theorem dX9_tellings_58 : decode cX9_tellings 58 = .ok (.iaload, 1) := by decide +kernel
theorem dX9_tellings_59 : decode cX9_tellings 59 = .ok (.imul, 1) := by decide +kernel
theorem dX9_tellings_60 : decode cX9_tellings 60 = .ok (.iadd, 1) := by decide +kernel
theorem dX9_tellings_61 : decode cX9_tellings 61 = .ok (.aload_n 0, 1) := by decide +kernel
theorem dX9_tellings_62 : decode cX9_tellings 62 = .ok (.getfield 7, 3) := by decide +kernel
theorem dX9_tellings_65 : decode cX9_tellings 65 = .ok (.iload_n 3, 1) := by decide +kernel
theorem dX9_tellings_66 : decode cX9_tellings 66 = .ok (.iconst 3, 1) := by decide +kernel
theorem dX9_tellings_67 : decode cX9_tellings 67 = .ok (.iadd, 1) := by decide +kernel
theorem dX9_tellings_68 : decode cX9_tellings 68 = .ok (.iaload, 1) := by decide +kernel
theorem dX9_tellings_69 : decode cX9_tellings 69 = .ok (.iadd, 1) := by decide +kernel
theorem dX9_tellings_70 : decode cX9_tellings 70 = .ok (.istore 5, 2) := by decide +kernel
theorem dX9_tellings_72 : decode cX9_tellings 72 = .ok (.aload_n 0, 1) := by decide +kernel
theorem dX9_tellings_73 : decode cX9_tellings 73 = .ok (.getfield 7, 3) := by decide +kernel
theorem dX9_tellings_76 : decode cX9_tellings 76 = .ok (.iload_n 3, 1) := by decide +kernel
theorem dX9_tellings_77 : decode cX9_tellings 77 = .ok (.iaload, 1) := by decide +kernel
theorem dX9_tellings_78 : decode cX9_tellings 78 = .ok (.iload_n 1, 1) := by decide +kernel
theorem dX9_tellings_79 : decode cX9_tellings 79 = .ok (.if_icmp .ne 43, 3) := by decide +kernel
theorem dX9_tellings_82 : decode cX9_tellings 82 = .ok (.aload_n 0, 1) := by decide +kernel
theorem dX9_tellings_83 : decode cX9_tellings 83 = .ok (.getfield 28, 3) := by decide +kernel
theorem dX9_tellings_86 : decode cX9_tellings 86 = .ok (.iload 4, 2) := by decide +kernel
theorem dX9_tellings_88 : decode cX9_tellings 88 = .ok (.iaload, 1) := by decide +kernel
theorem dX9_tellings_89 : decode cX9_tellings 89 = .ok (.bipush (-4), 2) := by decide +kernel
theorem dX9_tellings_91 : decode cX9_tellings 91 = .ok (.if_icmp .eq 31, 3) := by decide +kernel
theorem dX9_tellings_94 : decode cX9_tellings 94 = .ok (.aload_n 0, 1) := by decide +kernel
theorem dX9_tellings_95 : decode cX9_tellings 95 = .ok (.getfield 28, 3) := by decide +kernel
theorem dX9_tellings_98 : decode cX9_tellings 98 = .ok (.iload 5, 2) := by decide +kernel
theorem dX9_tellings_100 : decode cX9_tellings 100 = .ok (.aload_n 0, 1) := by decide +kernel
theorem dX9_tellings_101 : decode cX9_tellings 101 = .ok (.getfield 28, 3) := by decide +kernel
theorem dX9_tellings_104 : decode cX9_tellings 104 = .ok (.iload 4, 2) := by decide +kernel
theorem dX9_tellings_106 : decode cX9_tellings 106 = .ok (.iaload, 1) := by decide +kernel
theorem dX9_tellings_107 : decode cX9_tellings 107 = .ok (.iastore, 1) := by decide +kernel
theorem dX9_tellings_108 : decode cX9_tellings 108 = .ok (.aload_n 0, 1) := by decide +kernel
theorem dX9_tellings_109 : decode cX9_tellings 109 = .ok (.getfield 31, 3) := by decide +kernel
theorem dX9_tellings_112 : decode cX9_tellings 112 = .ok (.iload 5, 2) := by decide +kernel
theorem dX9_tellings_114 : decode cX9_tellings 114 = .ok (.aload_n 0, 1) := by decide +kernel
theorem dX9_tellings_115 : decode cX9_tellings 115 = .ok (.getfield 31, 3) := by decide +kernel
theorem dX9_tellings_118 : decode cX9_tellings 118 = .ok (.iload 4, 2) := by decide +kernel
theorem dX9_tellings_120 : decode cX9_tellings 120 = .ok (.iaload, 1) := by decide +kernel
theorem dX9_tellings_121 : decode cX9_tellings 121 = .ok (.iastore, 1) := by decide +kernel
theorem dX9_tellings_122 : decode cX9_tellings 122 = .ok (.iinc 2 1, 3) := by decide +kernel
theorem dX9_tellings_125 : decode cX9_tellings 125 = .ok (.goto (-123), 3) := by decide +kernel
theorem dX9_tellings_128 : decode cX9_tellings 128 = .ok (.return_, 1) := by decide +kernel
theorem dX9_hoursGo_0 : decode cX9_hoursGo 0 = .ok (.iconst 0, 1) := by decide +kernel
theorem dX9_hoursGo_1 : decode cX9_hoursGo 1 = .ok (.istore_n 1, 1) := by decide +kernel
theorem dX9_hoursGo_2 : decode cX9_hoursGo 2 = .ok (.iload_n 1, 1) := by decide +kernel
theorem dX9_hoursGo_3 : decode cX9_hoursGo 3 = .ok (.bipush 10, 2) := by decide +kernel
theorem dX9_hoursGo_5 : decode cX9_hoursGo 5 = .ok (.if_icmp .ge 214, 3) := by decide +kernel
theorem dX9_hoursGo_8 : decode cX9_hoursGo 8 = .ok (.iconst 0, 1) := by decide +kernel
theorem dX9_hoursGo_9 : decode cX9_hoursGo 9 = .ok (.istore_n 2, 1) := by decide +kernel
theorem dX9_hoursGo_10 : decode cX9_hoursGo 10 = .ok (.iload_n 2, 1) := by decide +kernel
theorem dX9_hoursGo_11 : decode cX9_hoursGo 11 = .ok (.bipush 15, 2) := by decide +kernel
theorem dX9_hoursGo_13 : decode cX9_hoursGo 13 = .ok (.if_icmp .ge 129, 3) := by decide +kernel
theorem dX9_hoursGo_16 : decode cX9_hoursGo 16 = .ok (.bipush 15, 2) := by decide +kernel
theorem dX9_hoursGo_18 : decode cX9_hoursGo 18 = .ok (.iload_n 1, 1) := by decide +kernel
theorem dX9_hoursGo_19 : decode cX9_hoursGo 19 = .ok (.imul, 1) := by decide +kernel
theorem dX9_hoursGo_20 : decode cX9_hoursGo 20 = .ok (.iload_n 2, 1) := by decide +kernel
theorem dX9_hoursGo_21 : decode cX9_hoursGo 21 = .ok (.iadd, 1) := by decide +kernel
theorem dX9_hoursGo_22 : decode cX9_hoursGo 22 = .ok (.istore_n 3, 1) := by decide +kernel
theorem dX9_hoursGo_23 : decode cX9_hoursGo 23 = .ok (.iload_n 1, 1) := by decide +kernel
theorem dX9_hoursGo_24 : decode cX9_hoursGo 24 = .ok (.ifCond .le 58, 3) := by decide +kernel
theorem dX9_hoursGo_27 : decode cX9_hoursGo 27 = .ok (.iload_n 2, 1) := by decide +kernel
theorem dX9_hoursGo_28 : decode cX9_hoursGo 28 = .ok (.iconst 3, 1) := by decide +kernel
theorem dX9_hoursGo_29 : decode cX9_hoursGo 29 = .ok (.idiv, 1) := by decide +kernel
theorem dX9_hoursGo_30 : decode cX9_hoursGo 30 = .ok (.aload_n 0, 1) := by decide +kernel
theorem dX9_hoursGo_31 : decode cX9_hoursGo 31 = .ok (.getfield 154, 3) := by decide +kernel
theorem dX9_hoursGo_34 : decode cX9_hoursGo 34 = .ok (.if_icmp .ge 48, 3) := by decide +kernel
theorem dX9_hoursGo_37 : decode cX9_hoursGo 37 = .ok (.aload_n 0, 1) := by decide +kernel
theorem dX9_hoursGo_38 : decode cX9_hoursGo 38 = .ok (.getfield 28, 3) := by decide +kernel
theorem dX9_hoursGo_41 : decode cX9_hoursGo 41 = .ok (.iload_n 3, 1) := by decide +kernel
theorem dX9_hoursGo_42 : decode cX9_hoursGo 42 = .ok (.bipush 15, 2) := by decide +kernel
theorem dX9_hoursGo_44 : decode cX9_hoursGo 44 = .ok (.isub, 1) := by decide +kernel
theorem dX9_hoursGo_45 : decode cX9_hoursGo 45 = .ok (.iaload, 1) := by decide +kernel
theorem dX9_hoursGo_46 : decode cX9_hoursGo 46 = .ok (.bipush (-4), 2) := by decide +kernel
theorem dX9_hoursGo_48 : decode cX9_hoursGo 48 = .ok (.if_icmp .eq 34, 3) := by decide +kernel
theorem dX9_hoursGo_51 : decode cX9_hoursGo 51 = .ok (.aload_n 0, 1) := by decide +kernel
theorem dX9_hoursGo_52 : decode cX9_hoursGo 52 = .ok (.getfield 31, 3) := by decide +kernel
theorem dX9_hoursGo_55 : decode cX9_hoursGo 55 = .ok (.iload_n 3, 1) := by decide +kernel
theorem dX9_hoursGo_56 : decode cX9_hoursGo 56 = .ok (.bipush 15, 2) := by decide +kernel
theorem dX9_hoursGo_58 : decode cX9_hoursGo 58 = .ok (.isub, 1) := by decide +kernel
theorem dX9_hoursGo_59 : decode cX9_hoursGo 59 = .ok (.iaload, 1) := by decide +kernel
theorem dX9_hoursGo_60 : decode cX9_hoursGo 60 = .ok (.iconst 1, 1) := by decide +kernel
theorem dX9_hoursGo_61 : decode cX9_hoursGo 61 = .ok (.iadd, 1) := by decide +kernel
theorem dX9_hoursGo_62 : decode cX9_hoursGo 62 = .ok (.aload_n 0, 1) := by decide +kernel
theorem dX9_hoursGo_63 : decode cX9_hoursGo 63 = .ok (.getfield 13, 3) := by decide +kernel
theorem dX9_hoursGo_66 : decode cX9_hoursGo 66 = .ok (.aload_n 0, 1) := by decide +kernel
theorem dX9_hoursGo_67 : decode cX9_hoursGo 67 = .ok (.getfield 7, 3) := by decide +kernel
theorem dX9_hoursGo_70 : decode cX9_hoursGo 70 = .ok (.iload_n 2, 1) := by decide +kernel
theorem dX9_hoursGo_71 : decode cX9_hoursGo 71 = .ok (.iconst 3, 1) := by decide +kernel
theorem dX9_hoursGo_72 : decode cX9_hoursGo 72 = .ok (.idiv, 1) := by decide +kernel
theorem dX9_hoursGo_73 : decode cX9_hoursGo 73 = .ok (.iaload, 1) := by decide +kernel
theorem dX9_hoursGo_74 : decode cX9_hoursGo 74 = .ok (.iaload, 1) := by decide +kernel
theorem dX9_hoursGo_75 : decode cX9_hoursGo 75 = .ok (.if_icmp .gt 7, 3) := by decide +kernel
theorem dX9_hoursGo_78 : decode cX9_hoursGo 78 = .ok (.iconst 1, 1) := by decide +kernel
theorem dX9_hoursGo_79 : decode cX9_hoursGo 79 = .ok (.goto 4, 3) := by decide +kernel
theorem dX9_hoursGo_82 : decode cX9_hoursGo 82 = .ok (.iconst 0, 1) := by decide +kernel
theorem dX9_hoursGo_83 : decode cX9_hoursGo 83 = .ok (.istore 4, 2) := by decide +kernel
theorem dX9_hoursGo_85 : decode cX9_hoursGo 85 = .ok (.aload_n 0, 1) := by decide +kernel
theorem dX9_hoursGo_86 : decode cX9_hoursGo 86 = .ok (.getfield 28, 3) := by decide +kernel
theorem dX9_hoursGo_89 : decode cX9_hoursGo 89 = .ok (.iload_n 3, 1) := by decide +kernel
theorem dX9_hoursGo_90 : decode cX9_hoursGo 90 = .ok (.iload 4, 2) := by decide +kernel
theorem dX9_hoursGo_92 : decode cX9_hoursGo 92 = .ok (.ifCond .eq 15, 3) := by decide +kernel
theorem dX9_hoursGo_95 : decode cX9_hoursGo 95 = .ok (.aload_n 0, 1) := by decide +kernel
theorem dX9_hoursGo_96 : decode cX9_hoursGo 96 = .ok (.getfield 28, 3) := by decide +kernel
theorem dX9_hoursGo_99 : decode cX9_hoursGo 99 = .ok (.iload_n 3, 1) := by decide +kernel
theorem dX9_hoursGo_100 : decode cX9_hoursGo 100 = .ok (.bipush 15, 2) := by decide +kernel
theorem dX9_hoursGo_102 : decode cX9_hoursGo 102 = .ok (.isub, 1) := by decide +kernel
theorem dX9_hoursGo_103 : decode cX9_hoursGo 103 = .ok (.iaload, 1) := by decide +kernel
theorem dX9_hoursGo_104 : decode cX9_hoursGo 104 = .ok (.goto 5, 3) := by decide +kernel
theorem dX9_hoursGo_107 : decode cX9_hoursGo 107 = .ok (.bipush (-4), 2) := by decide +kernel
theorem dX9_hoursGo_109 : decode cX9_hoursGo 109 = .ok (.iastore, 1) := by decide +kernel
theorem dX9_hoursGo_110 : decode cX9_hoursGo 110 = .ok (.aload_n 0, 1) := by decide +kernel
theorem dX9_hoursGo_111 : decode cX9_hoursGo 111 = .ok (.getfield 31, 3) := by decide +kernel
theorem dX9_hoursGo_114 : decode cX9_hoursGo 114 = .ok (.iload_n 3, 1) := by decide +kernel
theorem dX9_hoursGo_115 : decode cX9_hoursGo 115 = .ok (.iload 4, 2) := by decide +kernel
theorem dX9_hoursGo_117 : decode cX9_hoursGo 117 = .ok (.ifCond .eq 17, 3) := by decide +kernel
theorem dX9_hoursGo_120 : decode cX9_hoursGo 120 = .ok (.aload_n 0, 1) := by decide +kernel
theorem dX9_hoursGo_121 : decode cX9_hoursGo 121 = .ok (.getfield 31, 3) := by decide +kernel
theorem dX9_hoursGo_124 : decode cX9_hoursGo 124 = .ok (.iload_n 3, 1) := by decide +kernel
theorem dX9_hoursGo_125 : decode cX9_hoursGo 125 = .ok (.bipush 15, 2) := by decide +kernel
theorem dX9_hoursGo_127 : decode cX9_hoursGo 127 = .ok (.isub, 1) := by decide +kernel
theorem dX9_hoursGo_128 : decode cX9_hoursGo 128 = .ok (.iaload, 1) := by decide +kernel
theorem dX9_hoursGo_129 : decode cX9_hoursGo 129 = .ok (.iconst 1, 1) := by decide +kernel
theorem dX9_hoursGo_130 : decode cX9_hoursGo 130 = .ok (.iadd, 1) := by decide +kernel
theorem dX9_hoursGo_131 : decode cX9_hoursGo 131 = .ok (.goto 4, 3) := by decide +kernel
theorem dX9_hoursGo_134 : decode cX9_hoursGo 134 = .ok (.iconst 0, 1) := by decide +kernel
theorem dX9_hoursGo_135 : decode cX9_hoursGo 135 = .ok (.iastore, 1) := by decide +kernel
theorem dX9_hoursGo_136 : decode cX9_hoursGo 136 = .ok (.iinc 2 1, 3) := by decide +kernel
theorem dX9_hoursGo_139 : decode cX9_hoursGo 139 = .ok (.goto (-129), 3) := by decide +kernel
theorem dX9_hoursGo_142 : decode cX9_hoursGo 142 = .ok (.aload_n 0, 1) := by decide +kernel
theorem dX9_hoursGo_143 : decode cX9_hoursGo 143 = .ok (.iload_n 1, 1) := by decide +kernel
theorem dX9_hoursGo_144 : decode cX9_hoursGo 144 = .ok (.invokevirtual 175, 3) := by decide +kernel
theorem dX9_hoursGo_147 : decode cX9_hoursGo 147 = .ok (.ifCond .eq 61, 3) := by decide +kernel
theorem dX9_hoursGo_150 : decode cX9_hoursGo 150 = .ok (.aload_n 0, 1) := by decide +kernel
theorem dX9_hoursGo_151 : decode cX9_hoursGo 151 = .ok (.getfield 7, 3) := by decide +kernel
theorem dX9_hoursGo_154 : decode cX9_hoursGo 154 = .ok (.iconst 5, 1) := by decide +kernel
theorem dX9_hoursGo_155 : decode cX9_hoursGo 155 = .ok (.aload_n 0, 1) := by decide +kernel
theorem dX9_hoursGo_156 : decode cX9_hoursGo 156 = .ok (.iload_n 1, 1) := by decide +kernel
theorem dX9_hoursGo_157 : decode cX9_hoursGo 157 = .ok (.invokevirtual 168, 3) := by decide +kernel
theorem dX9_hoursGo_160 : decode cX9_hoursGo 160 = .ok (.iadd, 1) := by decide +kernel
theorem dX9_hoursGo_161 : decode cX9_hoursGo 161 = .ok (.iaload, 1) := by decide +kernel
theorem dX9_hoursGo_162 : decode cX9_hoursGo 162 = .ok (.istore_n 2, 1) := by decide +kernel
theorem dX9_hoursGo_163 : decode cX9_hoursGo 163 = .ok (.aload_n 0, 1) := by decide +kernel
theorem dX9_hoursGo_164 : decode cX9_hoursGo 164 = .ok (.getfield 28, 3) := by decide +kernel
theorem dX9_hoursGo_167 : decode cX9_hoursGo 167 = .ok (.bipush 15, 2) := by decide +kernel
theorem dX9_hoursGo_169 : decode cX9_hoursGo 169 = .ok (.iload_n 1, 1) := by decide +kernel
theorem dX9_hoursGo_170 : decode cX9_hoursGo 170 = .ok (.imul, 1) := by decide +kernel
theorem dX9_hoursGo_171 : decode cX9_hoursGo 171 = .ok (.iconst 3, 1) := by decide +kernel
theorem dX9_hoursGo_172 : decode cX9_hoursGo 172 = .ok (.aload_n 0, 1) := by decide +kernel
theorem dX9_hoursGo_173 : decode cX9_hoursGo 173 = .ok (.iload_n 1, 1) := by decide +kernel
theorem dX9_hoursGo_174 : decode cX9_hoursGo 174 = .ok (.invokevirtual 168, 3) := by decide +kernel
theorem dX9_hoursGo_177 : decode cX9_hoursGo 177 = .ok (.imul, 1) := by decide +kernel
theorem dX9_hoursGo_178 : decode cX9_hoursGo 178 = .ok (.iadd, 1) := by decide +kernel
theorem dX9_hoursGo_179 : decode cX9_hoursGo 179 = .ok (.iload_n 2, 1) := by decide +kernel
theorem dX9_hoursGo_180 : decode cX9_hoursGo 180 = .ok (.iadd, 1) := by decide +kernel
theorem dX9_hoursGo_181 : decode cX9_hoursGo 181 = .ok (.aload_n 0, 1) := by decide +kernel
theorem dX9_hoursGo_182 : decode cX9_hoursGo 182 = .ok (.iload_n 2, 1) := by decide +kernel
theorem dX9_hoursGo_183 : decode cX9_hoursGo 183 = .ok (.iload_n 1, 1) := by decide +kernel
theorem dX9_hoursGo_184 : decode cX9_hoursGo 184 = .ok (.invokevirtual 178, 3) := by decide +kernel
theorem dX9_hoursGo_187 : decode cX9_hoursGo 187 = .ok (.iastore, 1) := by decide +kernel
theorem dX9_hoursGo_188 : decode cX9_hoursGo 188 = .ok (.aload_n 0, 1) := by decide +kernel
theorem dX9_hoursGo_189 : decode cX9_hoursGo 189 = .ok (.getfield 31, 3) := by decide +kernel
theorem dX9_hoursGo_192 : decode cX9_hoursGo 192 = .ok (.bipush 15, 2) := by decide +kernel
theorem dX9_hoursGo_194 : decode cX9_hoursGo 194 = .ok (.iload_n 1, 1) := by decide +kernel
theorem dX9_hoursGo_195 : decode cX9_hoursGo 195 = .ok (.imul, 1) := by decide +kernel
theorem dX9_hoursGo_196 : decode cX9_hoursGo 196 = .ok (.iconst 3, 1) := by decide +kernel
theorem dX9_hoursGo_197 : decode cX9_hoursGo 197 = .ok (.aload_n 0, 1) := by decide +kernel
theorem dX9_hoursGo_198 : decode cX9_hoursGo 198 = .ok (.iload_n 1, 1) := by decide +kernel
theorem dX9_hoursGo_199 : decode cX9_hoursGo 199 = .ok (.invokevirtual 168, 3) := by decide +kernel
theorem dX9_hoursGo_202 : decode cX9_hoursGo 202 = .ok (.imul, 1) := by decide +kernel
theorem dX9_hoursGo_203 : decode cX9_hoursGo 203 = .ok (.iadd, 1) := by decide +kernel
theorem dX9_hoursGo_204 : decode cX9_hoursGo 204 = .ok (.iload_n 2, 1) := by decide +kernel
theorem dX9_hoursGo_205 : decode cX9_hoursGo 205 = .ok (.iadd, 1) := by decide +kernel
theorem dX9_hoursGo_206 : decode cX9_hoursGo 206 = .ok (.iconst 0, 1) := by decide +kernel
theorem dX9_hoursGo_207 : decode cX9_hoursGo 207 = .ok (.iastore, 1) := by decide +kernel
theorem dX9_hoursGo_208 : decode cX9_hoursGo 208 = .ok (.aload_n 0, 1) := by decide +kernel
theorem dX9_hoursGo_209 : decode cX9_hoursGo 209 = .ok (.iload_n 1, 1) := by decide +kernel
theorem dX9_hoursGo_210 : decode cX9_hoursGo 210 = .ok (.invokevirtual 182, 3) := by decide +kernel
theorem dX9_hoursGo_213 : decode cX9_hoursGo 213 = .ok (.iinc 1 1, 3) := by decide +kernel
theorem dX9_hoursGo_216 : decode cX9_hoursGo 216 = .ok (.goto (-214), 3) := by decide +kernel
theorem dX9_hoursGo_219 : decode cX9_hoursGo 219 = .ok (.return_, 1) := by decide +kernel
theorem dX9_hoursOf_0 : decode cX9_hoursOf 0 = .ok (.iconst 0, 1) := by decide +kernel
theorem dX9_hoursOf_1 : decode cX9_hoursOf 1 = .ok (.istore_n 3, 1) := by decide +kernel
theorem dX9_hoursOf_2 : decode cX9_hoursOf 2 = .ok (.iconst 0, 1) := by decide +kernel
theorem dX9_hoursOf_3 : decode cX9_hoursOf 3 = .ok (.istore 4, 2) := by decide +kernel
theorem dX9_hoursOf_5 : decode cX9_hoursOf 5 = .ok (.iload 4, 2) := by decide +kernel
theorem dX9_hoursOf_7 : decode cX9_hoursOf 7 = .ok (.bipush 10, 2) := by decide +kernel
theorem dX9_hoursOf_9 : decode cX9_hoursOf 9 = .ok (.if_icmp .ge 58, 3) := by decide +kernel
theorem dX9_hoursOf_12 : decode cX9_hoursOf 12 = .ok (.iload_n 3, 1) := by decide +kernel
theorem dX9_hoursOf_13 : decode cX9_hoursOf 13 = .ok (.aload_n 0, 1) := by decide +kernel
theorem dX9_hoursOf_14 : decode cX9_hoursOf 14 = .ok (.iload 4, 2) := by decide +kernel
theorem dX9_hoursOf_16 : decode cX9_hoursOf 16 = .ok (.invokevirtual 168, 3) := by decide +kernel
theorem dX9_hoursOf_19 : decode cX9_hoursOf 19 = .ok (.ifCond .lt 39, 3) := by decide +kernel
theorem dX9_hoursOf_22 : decode cX9_hoursOf 22 = .ok (.iload_n 1, 1) := by decide +kernel
theorem dX9_hoursOf_23 : decode cX9_hoursOf 23 = .ok (.bipush (-4), 2) := by decide +kernel
theorem dX9_hoursOf_25 : decode cX9_hoursOf 25 = .ok (.if_icmp .eq 13, 3) := by decide +kernel
theorem dX9_hoursOf_28 : decode cX9_hoursOf 28 = .ok (.aload_n 0, 1) := by decide +kernel
theorem dX9_hoursOf_29 : decode cX9_hoursOf 29 = .ok (.iload 4, 2) := by decide +kernel
theorem dX9_hoursOf_31 : decode cX9_hoursOf 31 = .ok (.invokevirtual 168, 3) := by decide +kernel
theorem dX9_hoursOf_34 : decode cX9_hoursOf 34 = .ok (.iload_n 1, 1) := by decide +kernel
theorem dX9_hoursOf_35 : decode cX9_hoursOf 35 = .ok (.if_icmp .ne 23, 3) := by decide +kernel
theorem dX9_hoursOf_38 : decode cX9_hoursOf 38 = .ok (.iload_n 2, 1) := by decide +kernel
theorem dX9_hoursOf_39 : decode cX9_hoursOf 39 = .ok (.ifCond .eq 12, 3) := by decide +kernel
theorem dX9_hoursOf_42 : decode cX9_hoursOf 42 = .ok (.aload_n 0, 1) := by decide +kernel
theorem dX9_hoursOf_43 : decode cX9_hoursOf 43 = .ok (.iload 4, 2) := by decide +kernel
theorem dX9_hoursOf_45 : decode cX9_hoursOf 45 = .ok (.invokevirtual 175, 3) := by decide +kernel
theorem dX9_hoursOf_48 : decode cX9_hoursOf 48 = .ok (.ifCond .eq 10, 3) := by decide +kernel
theorem dX9_hoursOf_51 : decode cX9_hoursOf 51 = .ok (.iconst 1, 1) := by decide +kernel
theorem dX9_hoursOf_52 : decode cX9_hoursOf 52 = .ok (.iload 4, 2) := by decide +kernel
theorem dX9_hoursOf_54 : decode cX9_hoursOf 54 = .ok (.ishl, 1) := by decide +kernel
theorem dX9_hoursOf_55 : decode cX9_hoursOf 55 = .ok (.goto 4, 3) := by decide +kernel
theorem dX9_hoursOf_58 : decode cX9_hoursOf 58 = .ok (.iconst 0, 1) := by decide +kernel
theorem dX9_hoursOf_59 : decode cX9_hoursOf 59 = .ok (.ior, 1) := by decide +kernel
theorem dX9_hoursOf_60 : decode cX9_hoursOf 60 = .ok (.istore_n 3, 1) := by decide +kernel
theorem dX9_hoursOf_61 : decode cX9_hoursOf 61 = .ok (.iinc 4 1, 3) := by decide +kernel
theorem dX9_hoursOf_64 : decode cX9_hoursOf 64 = .ok (.goto (-59), 3) := by decide +kernel
theorem dX9_hoursOf_67 : decode cX9_hoursOf 67 = .ok (.iload_n 3, 1) := by decide +kernel
theorem dX9_hoursOf_68 : decode cX9_hoursOf 68 = .ok (.ireturn, 1) := by decide +kernel
theorem dX9_rule_0 : decode cX9_rule 0 = .ok (.iload_n 1, 1) := by decide +kernel
theorem dX9_rule_1 : decode cX9_rule 1 = .ok (.tableswitch 81 0 5 #[39, 44, 52, 60, 68, 76], 39) := by decide +kernel
theorem dX9_rule_40 : decode cX9_rule 40 = .ok (.aload_n 0, 1) := by decide +kernel
theorem dX9_rule_41 : decode cX9_rule 41 = .ok (.getfield 154, 3) := by decide +kernel
theorem dX9_rule_44 : decode cX9_rule 44 = .ok (.ireturn, 1) := by decide +kernel
theorem dX9_rule_45 : decode cX9_rule 45 = .ok (.aload_n 0, 1) := by decide +kernel
theorem dX9_rule_46 : decode cX9_rule 46 = .ok (.getfield 7, 3) := by decide +kernel
theorem dX9_rule_49 : decode cX9_rule 49 = .ok (.bipush 25, 2) := by decide +kernel
theorem dX9_rule_51 : decode cX9_rule 51 = .ok (.iaload, 1) := by decide +kernel
theorem dX9_rule_52 : decode cX9_rule 52 = .ok (.ireturn, 1) := by decide +kernel
theorem dX9_rule_53 : decode cX9_rule 53 = .ok (.aload_n 0, 1) := by decide +kernel
theorem dX9_rule_54 : decode cX9_rule 54 = .ok (.getfield 7, 3) := by decide +kernel
theorem dX9_rule_57 : decode cX9_rule 57 = .ok (.bipush 56, 2) := by decide +kernel
theorem dX9_rule_59 : decode cX9_rule 59 = .ok (.iaload, 1) := by decide +kernel
theorem dX9_rule_60 : decode cX9_rule 60 = .ok (.ireturn, 1) := by decide +kernel
theorem dX9_rule_61 : decode cX9_rule 61 = .ok (.aload_n 0, 1) := by decide +kernel
theorem dX9_rule_62 : decode cX9_rule 62 = .ok (.getfield 7, 3) := by decide +kernel
theorem dX9_rule_65 : decode cX9_rule 65 = .ok (.bipush 73, 2) := by decide +kernel
theorem dX9_rule_67 : decode cX9_rule 67 = .ok (.iaload, 1) := by decide +kernel
theorem dX9_rule_68 : decode cX9_rule 68 = .ok (.ireturn, 1) := by decide +kernel
theorem dX9_rule_69 : decode cX9_rule 69 = .ok (.aload_n 0, 1) := by decide +kernel
theorem dX9_rule_70 : decode cX9_rule 70 = .ok (.bipush (-4), 2) := by decide +kernel
theorem dX9_rule_72 : decode cX9_rule 72 = .ok (.iconst 0, 1) := by decide +kernel
theorem dX9_rule_73 : decode cX9_rule 73 = .ok (.invokevirtual 185, 3) := by decide +kernel
theorem dX9_rule_76 : decode cX9_rule 76 = .ok (.ireturn, 1) := by decide +kernel
theorem dX9_rule_77 : decode cX9_rule 77 = .ok (.aload_n 0, 1) := by decide +kernel
theorem dX9_rule_78 : decode cX9_rule 78 = .ok (.invokevirtual 189, 3) := by decide +kernel
theorem dX9_rule_81 : decode cX9_rule 81 = .ok (.ireturn, 1) := by decide +kernel
theorem dX9_rule_82 : decode cX9_rule 82 = .ok (.iconst (-1), 1) := by decide +kernel
theorem dX9_rule_83 : decode cX9_rule 83 = .ok (.ireturn, 1) := by decide +kernel
theorem dX9_one_0 : decode cX9_one 0 = .ok (.aload_n 0, 1) := by decide +kernel
theorem dX9_one_1 : decode cX9_one 1 = .ok (.iload_n 1, 1) := by decide +kernel
theorem dX9_one_2 : decode cX9_one 2 = .ok (.invokevirtual 192, 3) := by decide +kernel
theorem dX9_one_5 : decode cX9_one 5 = .ok (.ifCond .ne 5, 3) := by decide +kernel
theorem dX9_one_8 : decode cX9_one 8 = .ok (.iconst (-1), 1) := by decide +kernel
theorem dX9_one_9 : decode cX9_one 9 = .ok (.ireturn, 1) := by decide +kernel
theorem dX9_one_10 : decode cX9_one 10 = .ok (.iload_n 2, 1) := by decide +kernel
theorem dX9_one_11 : decode cX9_one 11 = .ok (.tableswitch 70 0 4 #[33, 33, 44, 56, 63], 33) := by decide +kernel
theorem dX9_one_44 : decode cX9_one 44 = .ok (.aload_n 0, 1) := by decide +kernel
theorem dX9_one_45 : decode cX9_one 45 = .ok (.getfield 7, 3) := by decide +kernel
theorem dX9_one_48 : decode cX9_one 48 = .ok (.iconst 5, 1) := by decide +kernel
theorem dX9_one_49 : decode cX9_one 49 = .ok (.iload_n 2, 1) := by decide +kernel
theorem dX9_one_50 : decode cX9_one 50 = .ok (.imul, 1) := by decide +kernel
theorem dX9_one_51 : decode cX9_one 51 = .ok (.iload_n 1, 1) := by decide +kernel
theorem dX9_one_52 : decode cX9_one 52 = .ok (.iadd, 1) := by decide +kernel
theorem dX9_one_53 : decode cX9_one 53 = .ok (.iaload, 1) := by decide +kernel
theorem dX9_one_54 : decode cX9_one 54 = .ok (.ireturn, 1) := by decide +kernel
theorem dX9_one_55 : decode cX9_one 55 = .ok (.aload_n 0, 1) := by decide +kernel
theorem dX9_one_56 : decode cX9_one 56 = .ok (.getfield 13, 3) := by decide +kernel
theorem dX9_one_59 : decode cX9_one 59 = .ok (.aload_n 0, 1) := by decide +kernel
theorem dX9_one_60 : decode cX9_one 60 = .ok (.getfield 7, 3) := by decide +kernel
theorem dX9_one_63 : decode cX9_one 63 = .ok (.iload_n 1, 1) := by decide +kernel
theorem dX9_one_64 : decode cX9_one 64 = .ok (.iaload, 1) := by decide +kernel
theorem dX9_one_65 : decode cX9_one 65 = .ok (.iaload, 1) := by decide +kernel
theorem dX9_one_66 : decode cX9_one 66 = .ok (.ireturn, 1) := by decide +kernel
theorem dX9_one_67 : decode cX9_one 67 = .ok (.aload_n 0, 1) := by decide +kernel
theorem dX9_one_68 : decode cX9_one 68 = .ok (.iload_n 1, 1) := by decide +kernel
theorem dX9_one_69 : decode cX9_one 69 = .ok (.iconst 0, 1) := by decide +kernel
theorem dX9_one_70 : decode cX9_one 70 = .ok (.invokevirtual 185, 3) := by decide +kernel
theorem dX9_one_73 : decode cX9_one 73 = .ok (.ireturn, 1) := by decide +kernel
theorem dX9_one_74 : decode cX9_one 74 = .ok (.aload_n 0, 1) := by decide +kernel
theorem dX9_one_75 : decode cX9_one 75 = .ok (.iload_n 1, 1) := by decide +kernel
theorem dX9_one_76 : decode cX9_one 76 = .ok (.iconst 1, 1) := by decide +kernel
theorem dX9_one_77 : decode cX9_one 77 = .ok (.invokevirtual 185, 3) := by decide +kernel
theorem dX9_one_80 : decode cX9_one 80 = .ok (.ireturn, 1) := by decide +kernel
theorem dX9_one_81 : decode cX9_one 81 = .ok (.iconst (-1), 1) := by decide +kernel
theorem dX9_one_82 : decode cX9_one 82 = .ok (.ireturn, 1) := by decide +kernel
theorem dX9_thing_0 : decode cX9_thing 0 = .ok (.iload_n 1, 1) := by decide +kernel
theorem dX9_thing_1 : decode cX9_thing 1 = .ok (.invokestatic 195, 3) := by decide +kernel
theorem dX9_thing_4 : decode cX9_thing 4 = .ok (.ifCond .eq 16, 3) := by decide +kernel
theorem dX9_thing_7 : decode cX9_thing 7 = .ok (.iload_n 2, 1) := by decide +kernel
theorem dX9_thing_8 : decode cX9_thing 8 = .ok (.bipush (-4), 2) := by decide +kernel
theorem dX9_thing_10 : decode cX9_thing 10 = .ok (.if_icmp .eq 12, 3) := by decide +kernel
theorem dX9_thing_13 : decode cX9_thing 13 = .ok (.iload_n 2, 1) := by decide +kernel
theorem dX9_thing_14 : decode cX9_thing 14 = .ok (.invokestatic 198, 3) := by decide +kernel
theorem dX9_thing_17 : decode cX9_thing 17 = .ok (.ifCond .ne 5, 3) := by decide +kernel
theorem dX9_thing_20 : decode cX9_thing 20 = .ok (.iconst (-1), 1) := by decide +kernel
theorem dX9_thing_21 : decode cX9_thing 21 = .ok (.ireturn, 1) := by decide +kernel
theorem dX9_thing_22 : decode cX9_thing 22 = .ok (.aload_n 0, 1) := by decide +kernel
theorem dX9_thing_23 : decode cX9_thing 23 = .ok (.iload_n 1, 1) := by decide +kernel
theorem dX9_thing_24 : decode cX9_thing 24 = .ok (.iload_n 2, 1) := by decide +kernel
theorem dX9_thing_25 : decode cX9_thing 25 = .ok (.invokevirtual 178, 3) := by decide +kernel
theorem dX9_thing_28 : decode cX9_thing 28 = .ok (.ireturn, 1) := by decide +kernel
theorem dX9_orNone_0 : decode cX9_orNone 0 = .ok (.iload_n 0, 1) := by decide +kernel
theorem dX9_orNone_1 : decode cX9_orNone 1 = .ok (.ifCond .ge 8, 3) := by decide +kernel
theorem dX9_orNone_4 : decode cX9_orNone 4 = .ok (.bipush (-4), 2) := by decide +kernel
theorem dX9_orNone_6 : decode cX9_orNone 6 = .ok (.goto 4, 3) := by decide +kernel
theorem dX9_orNone_9 : decode cX9_orNone 9 = .ok (.iload_n 0, 1) := by decide +kernel
theorem dX9_orNone_10 : decode cX9_orNone 10 = .ok (.ireturn, 1) := by decide +kernel
theorem dX9_rota_0 : decode cX9_rota 0 = .ok (.iload_n 1, 1) := by decide +kernel
theorem dX9_rota_1 : decode cX9_rota 1 = .ok (.invokestatic 198, 3) := by decide +kernel
theorem dX9_rota_4 : decode cX9_rota 4 = .ok (.ifCond .eq 14, 3) := by decide +kernel
theorem dX9_rota_7 : decode cX9_rota 7 = .ok (.aload_n 0, 1) := by decide +kernel
theorem dX9_rota_8 : decode cX9_rota 8 = .ok (.iload_n 1, 1) := by decide +kernel
theorem dX9_rota_9 : decode cX9_rota 9 = .ok (.invokevirtual 168, 3) := by decide +kernel
theorem dX9_rota_12 : decode cX9_rota 12 = .ok (.invokestatic 201, 3) := by decide +kernel
theorem dX9_rota_15 : decode cX9_rota 15 = .ok (.goto 4, 3) := by decide +kernel
theorem dX9_rota_18 : decode cX9_rota 18 = .ok (.iconst (-1), 1) := by decide +kernel
theorem dX9_rota_19 : decode cX9_rota 19 = .ok (.ireturn, 1) := by decide +kernel
theorem dX9_turn_0 : decode cX9_turn 0 = .ok (.iload_n 1, 1) := by decide +kernel
theorem dX9_turn_1 : decode cX9_turn 1 = .ok (.i2l, 1) := by decide +kernel
theorem dX9_turn_2 : decode cX9_turn 2 = .ok (.lconst 0, 1) := by decide +kernel
theorem dX9_turn_3 : decode cX9_turn 3 = .ok (.aload_n 0, 1) := by decide +kernel
theorem dX9_turn_4 : decode cX9_turn 4 = .ok (.getfield 7, 3) := by decide +kernel
theorem dX9_turn_7 : decode cX9_turn 7 = .ok (.bipush 25, 2) := by decide +kernel
theorem dX9_turn_9 : decode cX9_turn 9 = .ok (.iaload, 1) := by decide +kernel
theorem dX9_turn_10 : decode cX9_turn 10 = .ok (.iconst 1, 1) := by decide +kernel
theorem dX9_turn_11 : decode cX9_turn 11 = .ok (.isub, 1) := by decide +kernel
theorem dX9_turn_12 : decode cX9_turn 12 = .ok (.i2l, 1) := by decide +kernel
theorem dX9_turn_13 : decode cX9_turn 13 = .ok (.invokestatic 58, 3) := by decide +kernel
theorem dX9_turn_16 : decode cX9_turn 16 = .ok (.ifCond .eq 31, 3) := by decide +kernel
theorem dX9_turn_19 : decode cX9_turn 19 = .ok (.iload_n 2, 1) := by decide +kernel
theorem dX9_turn_20 : decode cX9_turn 20 = .ok (.i2l, 1) := by decide +kernel
theorem dX9_turn_21 : decode cX9_turn 21 = .ok (.lconst 0, 1) := by decide +kernel
theorem dX9_turn_22 : decode cX9_turn 22 = .ok (.ldc2_w 162, 3) := by decide +kernel
theorem dX9_turn_25 : decode cX9_turn 25 = .ok (.invokestatic 58, 3) := by decide +kernel
theorem dX9_turn_28 : decode cX9_turn 28 = .ok (.ifCond .eq 19, 3) := by decide +kernel
theorem dX9_turn_31 : decode cX9_turn 31 = .ok (.aload_n 0, 1) := by decide +kernel
theorem dX9_turn_32 : decode cX9_turn 32 = .ok (.getfield 7, 3) := by decide +kernel
theorem dX9_turn_35 : decode cX9_turn 35 = .ok (.bipush 13, 2) := by decide +kernel
theorem dX9_turn_37 : decode cX9_turn 37 = .ok (.iconst 3, 1) := by decide +kernel
theorem dX9_turn_38 : decode cX9_turn 38 = .ok (.iload_n 1, 1) := by decide +kernel
theorem dX9_turn_39 : decode cX9_turn 39 = .ok (.imul, 1) := by decide +kernel
theorem dX9_turn_40 : decode cX9_turn 40 = .ok (.iadd, 1) := by decide +kernel
theorem dX9_turn_41 : decode cX9_turn 41 = .ok (.iload_n 2, 1) := by decide +kernel
theorem dX9_turn_42 : decode cX9_turn 42 = .ok (.iadd, 1) := by decide +kernel
theorem dX9_turn_43 : decode cX9_turn 43 = .ok (.iaload, 1) := by decide +kernel
theorem dX9_turn_44 : decode cX9_turn 44 = .ok (.goto 4, 3) := by decide +kernel
theorem dX9_turn_47 : decode cX9_turn 47 = .ok (.iconst (-1), 1) := by decide +kernel
theorem dX9_turn_48 : decode cX9_turn 48 = .ok (.ireturn, 1) := by decide +kernel
theorem dX9_isDone_0 : decode cX9_isDone 0 = .ok (.bipush 36, 2) := by decide +kernel
theorem dX9_isDone_2 : decode cX9_isDone 2 = .ok (.iconst 4, 1) := by decide +kernel
theorem dX9_isDone_3 : decode cX9_isDone 3 = .ok (.iload_n 1, 1) := by decide +kernel
theorem dX9_isDone_4 : decode cX9_isDone 4 = .ok (.imul, 1) := by decide +kernel
theorem dX9_isDone_5 : decode cX9_isDone 5 = .ok (.iadd, 1) := by decide +kernel
theorem dX9_isDone_6 : decode cX9_isDone 6 = .ok (.istore_n 3, 1) := by decide +kernel
theorem dX9_isDone_7 : decode cX9_isDone 7 = .ok (.iconst 0, 1) := by decide +kernel
theorem dX9_isDone_8 : decode cX9_isDone 8 = .ok (.istore 4, 2) := by decide +kernel
theorem dX9_isDone_10 : decode cX9_isDone 10 = .ok (.aload_n 0, 1) := by decide +kernel
theorem dX9_isDone_11 : decode cX9_isDone 11 = .ok (.getfield 7, 3) := by decide +kernel
theorem dX9_isDone_14 : decode cX9_isDone 14 = .ok (.iload_n 3, 1) := by decide +kernel
theorem dX9_isDone_15 : decode cX9_isDone 15 = .ok (.iconst 1, 1) := by decide +kernel
theorem dX9_isDone_16 : decode cX9_isDone 16 = .ok (.iadd, 1) := by decide +kernel
theorem dX9_isDone_17 : decode cX9_isDone 17 = .ok (.iaload, 1) := by decide +kernel
theorem dX9_isDone_18 : decode cX9_isDone 18 = .ok (.istore 5, 2) := by decide +kernel
theorem dX9_isDone_20 : decode cX9_isDone 20 = .ok (.iload 5, 2) := by decide +kernel
theorem dX9_isDone_22 : decode cX9_isDone 22 = .ok (.aload_n 0, 1) := by decide +kernel
theorem dX9_isDone_23 : decode cX9_isDone 23 = .ok (.getfield 7, 3) := by decide +kernel
theorem dX9_isDone_26 : decode cX9_isDone 26 = .ok (.iload_n 3, 1) := by decide +kernel
theorem dX9_isDone_27 : decode cX9_isDone 27 = .ok (.iconst 2, 1) := by decide +kernel
theorem dX9_isDone_28 : decode cX9_isDone 28 = .ok (.iadd, 1) := by decide +kernel
theorem dX9_isDone_29 : decode cX9_isDone 29 = .ok (.iaload, 1) := by decide +kernel
theorem dX9_isDone_30 : decode cX9_isDone 30 = .ok (.if_icmp .gt 46, 3) := by decide +kernel
theorem dX9_isDone_33 : decode cX9_isDone 33 = .ok (.iload 4, 2) := by decide +kernel
theorem dX9_isDone_35 : decode cX9_isDone 35 = .ok (.ifCond .ne 28, 3) := by decide +kernel
theorem dX9_isDone_38 : decode cX9_isDone 38 = .ok (.iload_n 2, 1) := by decide +kernel
theorem dX9_isDone_39 : decode cX9_isDone 39 = .ok (.iload 5, 2) := by decide +kernel
theorem dX9_isDone_41 : decode cX9_isDone 41 = .ok (.ishr, 1) := by decide +kernel
theorem dX9_isDone_42 : decode cX9_isDone 42 = .ok (.iconst 1, 1) := by decide +kernel
theorem dX9_isDone_43 : decode cX9_isDone 43 = .ok (.iand, 1) := by decide +kernel
theorem dX9_isDone_44 : decode cX9_isDone 44 = .ok (.iconst 1, 1) := by decide +kernel
theorem dX9_isDone_45 : decode cX9_isDone 45 = .ok (.if_icmp .ne 22, 3) := by decide +kernel
theorem dX9_isDone_48 : decode cX9_isDone 48 = .ok (.aload_n 0, 1) := by decide +kernel
theorem dX9_isDone_49 : decode cX9_isDone 49 = .ok (.iload 5, 2) := by decide +kernel
theorem dX9_isDone_51 : decode cX9_isDone 51 = .ok (.invokevirtual 168, 3) := by decide +kernel
theorem dX9_isDone_54 : decode cX9_isDone 54 = .ok (.aload_n 0, 1) := by decide +kernel
theorem dX9_isDone_55 : decode cX9_isDone 55 = .ok (.getfield 7, 3) := by decide +kernel
theorem dX9_isDone_58 : decode cX9_isDone 58 = .ok (.iload_n 3, 1) := by decide +kernel
theorem dX9_isDone_59 : decode cX9_isDone 59 = .ok (.iaload, 1) := by decide +kernel
theorem dX9_isDone_60 : decode cX9_isDone 60 = .ok (.if_icmp .ne 7, 3) := by decide +kernel
theorem dX9_isDone_63 : decode cX9_isDone 63 = .ok (.iconst 1, 1) := by decide +kernel
theorem dX9_isDone_64 : decode cX9_isDone 64 = .ok (.goto 4, 3) := by decide +kernel
theorem dX9_isDone_67 : decode cX9_isDone 67 = .ok (.iconst 0, 1) := by decide +kernel
theorem dX9_isDone_68 : decode cX9_isDone 68 = .ok (.istore 4, 2) := by decide +kernel
theorem dX9_isDone_70 : decode cX9_isDone 70 = .ok (.iinc 5 1, 3) := by decide +kernel
theorem dX9_isDone_73 : decode cX9_isDone 73 = .ok (.goto (-53), 3) := by decide +kernel
theorem dX9_isDone_76 : decode cX9_isDone 76 = .ok (.iload 4, 2) := by decide +kernel
theorem dX9_isDone_78 : decode cX9_isDone 78 = .ok (.ireturn, 1) := by decide +kernel
theorem dX9_doneBy_0 : decode cX9_doneBy 0 = .ok (.iconst 0, 1) := by decide +kernel
theorem dX9_doneBy_1 : decode cX9_doneBy 1 = .ok (.istore_n 2, 1) := by decide +kernel
theorem dX9_doneBy_2 : decode cX9_doneBy 2 = .ok (.iconst 0, 1) := by decide +kernel
theorem dX9_doneBy_3 : decode cX9_doneBy 3 = .ok (.istore_n 3, 1) := by decide +kernel
theorem dX9_doneBy_4 : decode cX9_doneBy 4 = .ok (.iload_n 3, 1) := by decide +kernel
theorem dX9_doneBy_5 : decode cX9_doneBy 5 = .ok (.aload_n 0, 1) := by decide +kernel
theorem dX9_doneBy_6 : decode cX9_doneBy 6 = .ok (.getfield 7, 3) := by decide +kernel
theorem dX9_doneBy_9 : decode cX9_doneBy 9 = .ok (.bipush 56, 2) := by decide +kernel
theorem dX9_doneBy_11 : decode cX9_doneBy 11 = .ok (.iaload, 1) := by decide +kernel
theorem dX9_doneBy_12 : decode cX9_doneBy 12 = .ok (.if_icmp .ge 28, 3) := by decide +kernel
theorem dX9_doneBy_15 : decode cX9_doneBy 15 = .ok (.iload_n 2, 1) := by decide +kernel
theorem dX9_doneBy_16 : decode cX9_doneBy 16 = .ok (.aload_n 0, 1) := by decide +kernel
theorem dX9_doneBy_17 : decode cX9_doneBy 17 = .ok (.iload_n 3, 1) := by decide +kernel
theorem dX9_doneBy_18 : decode cX9_doneBy 18 = .ok (.iload_n 1, 1) := by decide +kernel
theorem dX9_doneBy_19 : decode cX9_doneBy 19 = .ok (.invokevirtual 204, 3) := by decide +kernel
theorem dX9_doneBy_22 : decode cX9_doneBy 22 = .ok (.ifCond .eq 9, 3) := by decide +kernel
theorem dX9_doneBy_25 : decode cX9_doneBy 25 = .ok (.iconst 1, 1) := by decide +kernel
theorem dX9_doneBy_26 : decode cX9_doneBy 26 = .ok (.iload_n 3, 1) := by decide +kernel
theorem dX9_doneBy_27 : decode cX9_doneBy 27 = .ok (.ishl, 1) := by decide +kernel
theorem dX9_doneBy_28 : decode cX9_doneBy 28 = .ok (.goto 4, 3) := by decide +kernel
theorem dX9_doneBy_31 : decode cX9_doneBy 31 = .ok (.iconst 0, 1) := by decide +kernel
theorem dX9_doneBy_32 : decode cX9_doneBy 32 = .ok (.ior, 1) := by decide +kernel
theorem dX9_doneBy_33 : decode cX9_doneBy 33 = .ok (.istore_n 2, 1) := by decide +kernel
theorem dX9_doneBy_34 : decode cX9_doneBy 34 = .ok (.iinc 3 1, 3) := by decide +kernel
theorem dX9_doneBy_37 : decode cX9_doneBy 37 = .ok (.goto (-33), 3) := by decide +kernel
theorem dX9_doneBy_40 : decode cX9_doneBy 40 = .ok (.iload_n 2, 1) := by decide +kernel
theorem dX9_doneBy_41 : decode cX9_doneBy 41 = .ok (.ireturn, 1) := by decide +kernel
theorem dX9_worthOf_0 : decode cX9_worthOf 0 = .ok (.iconst 0, 1) := by decide +kernel
theorem dX9_worthOf_1 : decode cX9_worthOf 1 = .ok (.istore_n 2, 1) := by decide +kernel
theorem dX9_worthOf_2 : decode cX9_worthOf 2 = .ok (.iconst 0, 1) := by decide +kernel
theorem dX9_worthOf_3 : decode cX9_worthOf 3 = .ok (.istore_n 3, 1) := by decide +kernel
theorem dX9_worthOf_4 : decode cX9_worthOf 4 = .ok (.iload_n 3, 1) := by decide +kernel
theorem dX9_worthOf_5 : decode cX9_worthOf 5 = .ok (.aload_n 0, 1) := by decide +kernel
theorem dX9_worthOf_6 : decode cX9_worthOf 6 = .ok (.getfield 7, 3) := by decide +kernel
theorem dX9_worthOf_9 : decode cX9_worthOf 9 = .ok (.bipush 56, 2) := by decide +kernel
theorem dX9_worthOf_11 : decode cX9_worthOf 11 = .ok (.iaload, 1) := by decide +kernel
theorem dX9_worthOf_12 : decode cX9_worthOf 12 = .ok (.if_icmp .ge 38, 3) := by decide +kernel
theorem dX9_worthOf_15 : decode cX9_worthOf 15 = .ok (.iload_n 2, 1) := by decide +kernel
theorem dX9_worthOf_16 : decode cX9_worthOf 16 = .ok (.iload_n 1, 1) := by decide +kernel
theorem dX9_worthOf_17 : decode cX9_worthOf 17 = .ok (.iload_n 3, 1) := by decide +kernel
theorem dX9_worthOf_18 : decode cX9_worthOf 18 = .ok (.ishr, 1) := by decide +kernel
theorem dX9_worthOf_19 : decode cX9_worthOf 19 = .ok (.iconst 1, 1) := by decide +kernel
theorem dX9_worthOf_20 : decode cX9_worthOf 20 = .ok (.iand, 1) := by decide +kernel
theorem dX9_worthOf_21 : decode cX9_worthOf 21 = .ok (.iconst 1, 1) := by decide +kernel
theorem dX9_worthOf_22 : decode cX9_worthOf 22 = .ok (.if_icmp .ne 19, 3) := by decide +kernel
theorem dX9_worthOf_25 : decode cX9_worthOf 25 = .ok (.aload_n 0, 1) := by decide +kernel
theorem dX9_worthOf_26 : decode cX9_worthOf 26 = .ok (.getfield 7, 3) := by decide +kernel
theorem dX9_worthOf_29 : decode cX9_worthOf 29 = .ok (.bipush 36, 2) := by decide +kernel
theorem dX9_worthOf_31 : decode cX9_worthOf 31 = .ok (.iconst 4, 1) := by decide +kernel
theorem dX9_worthOf_32 : decode cX9_worthOf 32 = .ok (.iload_n 3, 1) := by decide +kernel
theorem dX9_worthOf_33 : decode cX9_worthOf 33 = .ok (.imul, 1) := by decide +kernel
theorem dX9_worthOf_34 : decode cX9_worthOf 34 = .ok (.iadd, 1) := by decide +kernel
theorem dX9_worthOf_35 : decode cX9_worthOf 35 = .ok (.iconst 3, 1) := by decide +kernel
theorem dX9_worthOf_36 : decode cX9_worthOf 36 = .ok (.iadd, 1) := by decide +kernel
theorem dX9_worthOf_37 : decode cX9_worthOf 37 = .ok (.iaload, 1) := by decide +kernel
theorem dX9_worthOf_38 : decode cX9_worthOf 38 = .ok (.goto 4, 3) := by decide +kernel
theorem dX9_worthOf_41 : decode cX9_worthOf 41 = .ok (.iconst 0, 1) := by decide +kernel
theorem dX9_worthOf_42 : decode cX9_worthOf 42 = .ok (.iadd, 1) := by decide +kernel
theorem dX9_worthOf_43 : decode cX9_worthOf 43 = .ok (.istore_n 2, 1) := by decide +kernel
theorem dX9_worthOf_44 : decode cX9_worthOf 44 = .ok (.iinc 3 1, 3) := by decide +kernel
theorem dX9_worthOf_47 : decode cX9_worthOf 47 = .ok (.goto (-43), 3) := by decide +kernel
theorem dX9_worthOf_50 : decode cX9_worthOf 50 = .ok (.iload_n 2, 1) := by decide +kernel
theorem dX9_worthOf_51 : decode cX9_worthOf 51 = .ok (.ireturn, 1) := by decide +kernel
theorem dX9_worthNow_0 : decode cX9_worthNow 0 = .ok (.aload_n 0, 1) := by decide +kernel
theorem dX9_worthNow_1 : decode cX9_worthNow 1 = .ok (.aload_n 0, 1) := by decide +kernel
theorem dX9_worthNow_2 : decode cX9_worthNow 2 = .ok (.aload_n 0, 1) := by decide +kernel
theorem dX9_worthNow_3 : decode cX9_worthNow 3 = .ok (.invokevirtual 189, 3) := by decide +kernel
theorem dX9_worthNow_6 : decode cX9_worthNow 6 = .ok (.invokevirtual 207, 3) := by decide +kernel
theorem dX9_worthNow_9 : decode cX9_worthNow 9 = .ok (.invokevirtual 210, 3) := by decide +kernel
theorem dX9_worthNow_12 : decode cX9_worthNow 12 = .ok (.ireturn, 1) := by decide +kernel
theorem dX9_work_0 : decode cX9_work 0 = .ok (.iload_n 1, 1) := by decide +kernel
theorem dX9_work_1 : decode cX9_work 1 = .ok (.i2l, 1) := by decide +kernel
theorem dX9_work_2 : decode cX9_work 2 = .ok (.lconst 0, 1) := by decide +kernel
theorem dX9_work_3 : decode cX9_work 3 = .ok (.aload_n 0, 1) := by decide +kernel
theorem dX9_work_4 : decode cX9_work 4 = .ok (.getfield 7, 3) := by decide +kernel
theorem dX9_work_7 : decode cX9_work 7 = .ok (.bipush 56, 2) := by decide +kernel
theorem dX9_work_9 : decode cX9_work 9 = .ok (.iaload, 1) := by decide +kernel
theorem dX9_work_10 : decode cX9_work 10 = .ok (.iconst 1, 1) := by decide +kernel
theorem dX9_work_11 : decode cX9_work 11 = .ok (.isub, 1) := by decide +kernel
theorem dX9_work_12 : decode cX9_work 12 = .ok (.i2l, 1) := by decide +kernel
theorem dX9_work_13 : decode cX9_work 13 = .ok (.invokestatic 58, 3) := by decide +kernel
theorem dX9_work_16 : decode cX9_work 16 = .ok (.ifCond .eq 15, 3) := by decide +kernel
theorem dX9_work_19 : decode cX9_work 19 = .ok (.iload_n 2, 1) := by decide +kernel
theorem dX9_work_20 : decode cX9_work 20 = .ok (.i2l, 1) := by decide +kernel
theorem dX9_work_21 : decode cX9_work 21 = .ok (.lconst 0, 1) := by decide +kernel
theorem dX9_work_22 : decode cX9_work 22 = .ok (.ldc2_w 213, 3) := by decide +kernel
theorem dX9_work_25 : decode cX9_work 25 = .ok (.invokestatic 58, 3) := by decide +kernel
theorem dX9_work_28 : decode cX9_work 28 = .ok (.ifCond .ne 5, 3) := by decide +kernel
theorem dX9_work_31 : decode cX9_work 31 = .ok (.iconst (-1), 1) := by decide +kernel
theorem dX9_work_32 : decode cX9_work 32 = .ok (.ireturn, 1) := by decide +kernel
theorem dX9_work_33 : decode cX9_work 33 = .ok (.iload_n 2, 1) := by decide +kernel
theorem dX9_work_34 : decode cX9_work 34 = .ok (.iconst 4, 1) := by decide +kernel
theorem dX9_work_35 : decode cX9_work 35 = .ok (.if_icmp .ge 19, 3) := by decide +kernel
theorem dX9_work_38 : decode cX9_work 38 = .ok (.aload_n 0, 1) := by decide +kernel
theorem dX9_work_39 : decode cX9_work 39 = .ok (.getfield 7, 3) := by decide +kernel
theorem dX9_work_42 : decode cX9_work 42 = .ok (.bipush 36, 2) := by decide +kernel
theorem dX9_work_44 : decode cX9_work 44 = .ok (.iconst 4, 1) := by decide +kernel
theorem dX9_work_45 : decode cX9_work 45 = .ok (.iload_n 1, 1) := by decide +kernel
theorem dX9_work_46 : decode cX9_work 46 = .ok (.imul, 1) := by decide +kernel
theorem dX9_work_47 : decode cX9_work 47 = .ok (.iadd, 1) := by decide +kernel
theorem dX9_work_48 : decode cX9_work 48 = .ok (.iload_n 2, 1) := by decide +kernel
theorem dX9_work_49 : decode cX9_work 49 = .ok (.iadd, 1) := by decide +kernel
theorem dX9_work_50 : decode cX9_work 50 = .ok (.iaload, 1) := by decide +kernel
theorem dX9_work_51 : decode cX9_work 51 = .ok (.goto 20, 3) := by decide +kernel
theorem dX9_work_54 : decode cX9_work 54 = .ok (.aload_n 0, 1) := by decide +kernel
theorem dX9_work_55 : decode cX9_work 55 = .ok (.iload_n 1, 1) := by decide +kernel
theorem dX9_work_56 : decode cX9_work 56 = .ok (.aload_n 0, 1) := by decide +kernel
theorem dX9_work_57 : decode cX9_work 57 = .ok (.invokevirtual 189, 3) := by decide +kernel
theorem dX9_work_60 : decode cX9_work 60 = .ok (.invokevirtual 204, 3) := by decide +kernel
theorem dX9_work_63 : decode cX9_work 63 = .ok (.ifCond .eq 7, 3) := by decide +kernel
theorem dX9_work_66 : decode cX9_work 66 = .ok (.iconst 1, 1) := by decide +kernel
theorem dX9_work_67 : decode cX9_work 67 = .ok (.goto 4, 3) := by decide +kernel
theorem dX9_work_70 : decode cX9_work 70 = .ok (.iconst 0, 1) := by decide +kernel
theorem dX9_work_71 : decode cX9_work 71 = .ok (.ireturn, 1) := by decide +kernel
theorem dX9_telling_0 : decode cX9_telling 0 = .ok (.iload_n 1, 1) := by decide +kernel
theorem dX9_telling_1 : decode cX9_telling 1 = .ok (.i2l, 1) := by decide +kernel
theorem dX9_telling_2 : decode cX9_telling 2 = .ok (.lconst 0, 1) := by decide +kernel
theorem dX9_telling_3 : decode cX9_telling 3 = .ok (.aload_n 0, 1) := by decide +kernel
theorem dX9_telling_4 : decode cX9_telling 4 = .ok (.getfield 7, 3) := by decide +kernel
theorem dX9_telling_7 : decode cX9_telling 7 = .ok (.bipush 73, 2) := by decide +kernel
theorem dX9_telling_9 : decode cX9_telling 9 = .ok (.iaload, 1) := by decide +kernel
theorem dX9_telling_10 : decode cX9_telling 10 = .ok (.iconst 1, 1) := by decide +kernel
theorem dX9_telling_11 : decode cX9_telling 11 = .ok (.isub, 1) := by decide +kernel
theorem dX9_telling_12 : decode cX9_telling 12 = .ok (.i2l, 1) := by decide +kernel
theorem dX9_telling_13 : decode cX9_telling 13 = .ok (.invokestatic 58, 3) := by decide +kernel
theorem dX9_telling_16 : decode cX9_telling 16 = .ok (.ifCond .eq 31, 3) := by decide +kernel
theorem dX9_telling_19 : decode cX9_telling 19 = .ok (.iload_n 2, 1) := by decide +kernel
theorem dX9_telling_20 : decode cX9_telling 20 = .ok (.i2l, 1) := by decide +kernel
theorem dX9_telling_21 : decode cX9_telling 21 = .ok (.lconst 0, 1) := by decide +kernel
theorem dX9_telling_22 : decode cX9_telling 22 = .ok (.ldc2_w 215, 3) := by decide +kernel
theorem dX9_telling_25 : decode cX9_telling 25 = .ok (.invokestatic 58, 3) := by decide +kernel
theorem dX9_telling_28 : decode cX9_telling 28 = .ok (.ifCond .eq 19, 3) := by decide +kernel
theorem dX9_telling_31 : decode cX9_telling 31 = .ok (.aload_n 0, 1) := by decide +kernel
theorem dX9_telling_32 : decode cX9_telling 32 = .ok (.getfield 7, 3) := by decide +kernel
theorem dX9_telling_35 : decode cX9_telling 35 = .ok (.bipush 57, 2) := by decide +kernel
theorem dX9_telling_37 : decode cX9_telling 37 = .ok (.iconst 4, 1) := by decide +kernel
theorem dX9_telling_38 : decode cX9_telling 38 = .ok (.iload_n 1, 1) := by decide +kernel
theorem dX9_telling_39 : decode cX9_telling 39 = .ok (.imul, 1) := by decide +kernel
theorem dX9_telling_40 : decode cX9_telling 40 = .ok (.iadd, 1) := by decide +kernel
theorem dX9_telling_41 : decode cX9_telling 41 = .ok (.iload_n 2, 1) := by decide +kernel
theorem dX9_telling_42 : decode cX9_telling 42 = .ok (.iadd, 1) := by decide +kernel
theorem dX9_telling_43 : decode cX9_telling 43 = .ok (.iaload, 1) := by decide +kernel
theorem dX9_telling_44 : decode cX9_telling 44 = .ok (.goto 4, 3) := by decide +kernel
theorem dX9_telling_47 : decode cX9_telling 47 = .ok (.iconst (-1), 1) := by decide +kernel
theorem dX9_telling_48 : decode cX9_telling 48 = .ok (.ireturn, 1) := by decide +kernel
theorem dX9_puts_0 : decode cX9_puts 0 = .ok (.iload_n 1, 1) := by decide +kernel
theorem dX9_puts_1 : decode cX9_puts 1 = .ok (.ifCond .ne 5, 3) := by decide +kernel
theorem dX9_puts_4 : decode cX9_puts 4 = .ok (.iconst (-1), 1) := by decide +kernel
theorem dX9_puts_5 : decode cX9_puts 5 = .ok (.ireturn, 1) := by decide +kernel
theorem dX9_puts_6 : decode cX9_puts 6 = .ok (.aload_n 0, 1) := by decide +kernel
theorem dX9_puts_7 : decode cX9_puts 7 = .ok (.getfield 7, 3) := by decide +kernel
theorem dX9_puts_10 : decode cX9_puts 10 = .ok (.iload_n 2, 1) := by decide +kernel
theorem dX9_puts_11 : decode cX9_puts 11 = .ok (.iaload, 1) := by decide +kernel
theorem dX9_puts_12 : decode cX9_puts 12 = .ok (.istore 4, 2) := by decide +kernel
theorem dX9_puts_14 : decode cX9_puts 14 = .ok (.aload_n 0, 1) := by decide +kernel
theorem dX9_puts_15 : decode cX9_puts 15 = .ok (.getfield 7, 3) := by decide +kernel
theorem dX9_puts_18 : decode cX9_puts 18 = .ok (.iload_n 2, 1) := by decide +kernel
theorem dX9_puts_19 : decode cX9_puts 19 = .ok (.iload_n 3, 1) := by decide +kernel
theorem dX9_puts_20 : decode cX9_puts 20 = .ok (.iastore, 1) := by decide +kernel
theorem dX9_puts_21 : decode cX9_puts 21 = .ok (.iload 4, 2) := by decide +kernel
theorem dX9_puts_23 : decode cX9_puts 23 = .ok (.ireturn, 1) := by decide +kernel
theorem dX9_alter_0 : decode cX9_alter 0 = .ok (.aload_n 0, 1) := by decide +kernel
theorem dX9_alter_1 : decode cX9_alter 1 = .ok (.aload_n 0, 1) := by decide +kernel
theorem dX9_alter_2 : decode cX9_alter 2 = .ok (.iload_n 1, 1) := by decide +kernel
theorem dX9_alter_3 : decode cX9_alter 3 = .ok (.invokevirtual 192, 3) := by decide +kernel
theorem dX9_alter_6 : decode cX9_alter 6 = .ok (.ifCond .eq 35, 3) := by decide +kernel
theorem dX9_alter_9 : decode cX9_alter 9 = .ok (.iload_n 2, 1) := by decide +kernel
theorem dX9_alter_10 : decode cX9_alter 10 = .ok (.ifCond .ne 15, 3) := by decide +kernel
theorem dX9_alter_13 : decode cX9_alter 13 = .ok (.iload_n 3, 1) := by decide +kernel
theorem dX9_alter_14 : decode cX9_alter 14 = .ok (.i2l, 1) := by decide +kernel
theorem dX9_alter_15 : decode cX9_alter 15 = .ok (.lconst 0, 1) := by decide +kernel
theorem dX9_alter_16 : decode cX9_alter 16 = .ok (.ldc2_w 215, 3) := by decide +kernel
theorem dX9_alter_19 : decode cX9_alter 19 = .ok (.invokestatic 58, 3) := by decide +kernel
theorem dX9_alter_22 : decode cX9_alter 22 = .ok (.ifCond .ne 15, 3) := by decide +kernel
theorem dX9_alter_25 : decode cX9_alter 25 = .ok (.iload_n 2, 1) := by decide +kernel
theorem dX9_alter_26 : decode cX9_alter 26 = .ok (.iconst 1, 1) := by decide +kernel
theorem dX9_alter_27 : decode cX9_alter 27 = .ok (.if_icmp .ne 14, 3) := by decide +kernel
theorem dX9_alter_30 : decode cX9_alter 30 = .ok (.iload_n 3, 1) := by decide +kernel
theorem dX9_alter_31 : decode cX9_alter 31 = .ok (.invokestatic 195, 3) := by decide +kernel
theorem dX9_alter_34 : decode cX9_alter 34 = .ok (.ifCond .eq 7, 3) := by decide +kernel
theorem dX9_alter_37 : decode cX9_alter 37 = .ok (.iconst 1, 1) := by decide +kernel
theorem dX9_alter_38 : decode cX9_alter 38 = .ok (.goto 4, 3) := by decide +kernel
theorem dX9_alter_41 : decode cX9_alter 41 = .ok (.iconst 0, 1) := by decide +kernel
theorem dX9_alter_42 : decode cX9_alter 42 = .ok (.iconst 5, 1) := by decide +kernel
theorem dX9_alter_43 : decode cX9_alter 43 = .ok (.iload_n 2, 1) := by decide +kernel
theorem dX9_alter_44 : decode cX9_alter 44 = .ok (.imul, 1) := by decide +kernel
theorem dX9_alter_45 : decode cX9_alter 45 = .ok (.iload_n 1, 1) := by decide +kernel
theorem dX9_alter_46 : decode cX9_alter 46 = .ok (.iadd, 1) := by decide +kernel
theorem dX9_alter_47 : decode cX9_alter 47 = .ok (.iload_n 3, 1) := by decide +kernel
theorem dX9_alter_48 : decode cX9_alter 48 = .ok (.invokevirtual 217, 3) := by decide +kernel
theorem dX9_alter_51 : decode cX9_alter 51 = .ok (.ireturn, 1) := by decide +kernel
theorem dX9_paint_0 : decode cX9_paint 0 = .ok (.aload_n 0, 1) := by decide +kernel
theorem dX9_paint_1 : decode cX9_paint 1 = .ok (.iload_n 1, 1) := by decide +kernel
theorem dX9_paint_2 : decode cX9_paint 2 = .ok (.invokestatic 195, 3) := by decide +kernel
theorem dX9_paint_5 : decode cX9_paint 5 = .ok (.ifCond .eq 19, 3) := by decide +kernel
theorem dX9_paint_8 : decode cX9_paint 8 = .ok (.iload_n 2, 1) := by decide +kernel
theorem dX9_paint_9 : decode cX9_paint 9 = .ok (.i2l, 1) := by decide +kernel
theorem dX9_paint_10 : decode cX9_paint 10 = .ok (.lconst 0, 1) := by decide +kernel
theorem dX9_paint_11 : decode cX9_paint 11 = .ok (.ldc2_w 160, 3) := by decide +kernel
theorem dX9_paint_14 : decode cX9_paint 14 = .ok (.invokestatic 58, 3) := by decide +kernel
theorem dX9_paint_17 : decode cX9_paint 17 = .ok (.ifCond .eq 7, 3) := by decide +kernel
theorem dX9_paint_20 : decode cX9_paint 20 = .ok (.iconst 1, 1) := by decide +kernel
theorem dX9_paint_21 : decode cX9_paint 21 = .ok (.goto 4, 3) := by decide +kernel
theorem dX9_paint_24 : decode cX9_paint 24 = .ok (.iconst 0, 1) := by decide +kernel
theorem dX9_paint_25 : decode cX9_paint 25 = .ok (.bipush 10, 2) := by decide +kernel
theorem dX9_paint_27 : decode cX9_paint 27 = .ok (.iload_n 1, 1) := by decide +kernel
theorem dX9_paint_28 : decode cX9_paint 28 = .ok (.iadd, 1) := by decide +kernel
theorem dX9_paint_29 : decode cX9_paint 29 = .ok (.iload_n 2, 1) := by decide +kernel
theorem dX9_paint_30 : decode cX9_paint 30 = .ok (.invokevirtual 217, 3) := by decide +kernel
theorem dX9_paint_33 : decode cX9_paint 33 = .ok (.ireturn, 1) := by decide +kernel
theorem dX9_shifts_0 : decode cX9_shifts 0 = .ok (.iload_n 1, 1) := by decide +kernel
theorem dX9_shifts_1 : decode cX9_shifts 1 = .ok (.invokestatic 198, 3) := by decide +kernel
theorem dX9_shifts_4 : decode cX9_shifts 4 = .ok (.ifCond .eq 17, 3) := by decide +kernel
theorem dX9_shifts_7 : decode cX9_shifts 7 = .ok (.iload_n 2, 1) := by decide +kernel
theorem dX9_shifts_8 : decode cX9_shifts 8 = .ok (.bipush (-4), 2) := by decide +kernel
theorem dX9_shifts_10 : decode cX9_shifts 10 = .ok (.if_icmp .eq 13, 3) := by decide +kernel
theorem dX9_shifts_13 : decode cX9_shifts 13 = .ok (.aload_n 0, 1) := by decide +kernel
theorem dX9_shifts_14 : decode cX9_shifts 14 = .ok (.iload_n 2, 1) := by decide +kernel
theorem dX9_shifts_15 : decode cX9_shifts 15 = .ok (.invokevirtual 192, 3) := by decide +kernel
theorem dX9_shifts_18 : decode cX9_shifts 18 = .ok (.ifCond .ne 5, 3) := by decide +kernel
theorem dX9_shifts_21 : decode cX9_shifts 21 = .ok (.iconst (-1), 1) := by decide +kernel
theorem dX9_shifts_22 : decode cX9_shifts 22 = .ok (.ireturn, 1) := by decide +kernel
theorem dX9_shifts_23 : decode cX9_shifts 23 = .ok (.aload_n 0, 1) := by decide +kernel
theorem dX9_shifts_24 : decode cX9_shifts 24 = .ok (.iload_n 1, 1) := by decide +kernel
theorem dX9_shifts_25 : decode cX9_shifts 25 = .ok (.invokevirtual 168, 3) := by decide +kernel
theorem dX9_shifts_28 : decode cX9_shifts 28 = .ok (.istore_n 3, 1) := by decide +kernel
theorem dX9_shifts_29 : decode cX9_shifts 29 = .ok (.aload_n 0, 1) := by decide +kernel
theorem dX9_shifts_30 : decode cX9_shifts 30 = .ok (.getfield 7, 3) := by decide +kernel
theorem dX9_shifts_33 : decode cX9_shifts 33 = .ok (.bipush 26, 2) := by decide +kernel
theorem dX9_shifts_35 : decode cX9_shifts 35 = .ok (.iload_n 1, 1) := by decide +kernel
theorem dX9_shifts_36 : decode cX9_shifts 36 = .ok (.iadd, 1) := by decide +kernel
theorem dX9_shifts_37 : decode cX9_shifts 37 = .ok (.iload_n 2, 1) := by decide +kernel
theorem dX9_shifts_38 : decode cX9_shifts 38 = .ok (.bipush (-4), 2) := by decide +kernel
theorem dX9_shifts_40 : decode cX9_shifts 40 = .ok (.if_icmp .ne 7, 3) := by decide +kernel
theorem dX9_shifts_43 : decode cX9_shifts 43 = .ok (.iconst 0, 1) := by decide +kernel
theorem dX9_shifts_44 : decode cX9_shifts 44 = .ok (.goto 6, 3) := by decide +kernel
theorem dX9_shifts_47 : decode cX9_shifts 47 = .ok (.iload_n 2, 1) := by decide +kernel
theorem dX9_shifts_48 : decode cX9_shifts 48 = .ok (.iconst 1, 1) := by decide +kernel
theorem dX9_shifts_49 : decode cX9_shifts 49 = .ok (.iadd, 1) := by decide +kernel
theorem dX9_shifts_50 : decode cX9_shifts 50 = .ok (.iastore, 1) := by decide +kernel
theorem dX9_shifts_51 : decode cX9_shifts 51 = .ok (.iload_n 3, 1) := by decide +kernel
theorem dX9_shifts_52 : decode cX9_shifts 52 = .ok (.invokestatic 201, 3) := by decide +kernel
theorem dX9_shifts_55 : decode cX9_shifts 55 = .ok (.ireturn, 1) := by decide +kernel
theorem dX9_shift_0 : decode cX9_shift 0 = .ok (.aload_n 0, 1) := by decide +kernel
theorem dX9_shift_1 : decode cX9_shift 1 = .ok (.iload_n 1, 1) := by decide +kernel
theorem dX9_shift_2 : decode cX9_shift 2 = .ok (.iload_n 2, 1) := by decide +kernel
theorem dX9_shift_3 : decode cX9_shift 3 = .ok (.invokevirtual 221, 3) := by decide +kernel
theorem dX9_shift_6 : decode cX9_shift 6 = .ok (.ireturn, 1) := by decide +kernel
theorem dX9_assign_0 : decode cX9_assign 0 = .ok (.aload_n 0, 1) := by decide +kernel
theorem dX9_assign_1 : decode cX9_assign 1 = .ok (.iload_n 1, 1) := by decide +kernel
theorem dX9_assign_2 : decode cX9_assign 2 = .ok (.invokevirtual 192, 3) := by decide +kernel
theorem dX9_assign_5 : decode cX9_assign 5 = .ok (.ifCond .eq 36, 3) := by decide +kernel
theorem dX9_assign_8 : decode cX9_assign 8 = .ok (.iload_n 2, 1) := by decide +kernel
theorem dX9_assign_9 : decode cX9_assign 9 = .ok (.invokestatic 198, 3) := by decide +kernel
theorem dX9_assign_12 : decode cX9_assign 12 = .ok (.ifCond .eq 29, 3) := by decide +kernel
theorem dX9_assign_15 : decode cX9_assign 15 = .ok (.iload_n 3, 1) := by decide +kernel
theorem dX9_assign_16 : decode cX9_assign 16 = .ok (.i2l, 1) := by decide +kernel
theorem dX9_assign_17 : decode cX9_assign 17 = .ok (.iload_n 2, 1) := by decide +kernel
theorem dX9_assign_18 : decode cX9_assign 18 = .ok (.i2l, 1) := by decide +kernel
theorem dX9_assign_19 : decode cX9_assign 19 = .ok (.ldc2_w 160, 3) := by decide +kernel
theorem dX9_assign_22 : decode cX9_assign 22 = .ok (.invokestatic 58, 3) := by decide +kernel
theorem dX9_assign_25 : decode cX9_assign 25 = .ok (.ifCond .eq 16, 3) := by decide +kernel
theorem dX9_assign_28 : decode cX9_assign 28 = .ok (.iload 4, 2) := by decide +kernel
theorem dX9_assign_30 : decode cX9_assign 30 = .ok (.i2l, 1) := by decide +kernel
theorem dX9_assign_31 : decode cX9_assign 31 = .ok (.lconst 1, 1) := by decide +kernel
theorem dX9_assign_32 : decode cX9_assign 32 = .ok (.ldc2_w 160, 3) := by decide +kernel
theorem dX9_assign_35 : decode cX9_assign 35 = .ok (.invokestatic 58, 3) := by decide +kernel
theorem dX9_assign_38 : decode cX9_assign 38 = .ok (.ifCond .ne 5, 3) := by decide +kernel
theorem dX9_assign_41 : decode cX9_assign 41 = .ok (.iconst (-1), 1) := by decide +kernel
theorem dX9_assign_42 : decode cX9_assign 42 = .ok (.ireturn, 1) := by decide +kernel
theorem dX9_assign_43 : decode cX9_assign 43 = .ok (.aload_n 0, 1) := by decide +kernel
theorem dX9_assign_44 : decode cX9_assign 44 = .ok (.getfield 7, 3) := by decide +kernel
theorem dX9_assign_47 : decode cX9_assign 47 = .ok (.bipush 56, 2) := by decide +kernel
theorem dX9_assign_49 : decode cX9_assign 49 = .ok (.iaload, 1) := by decide +kernel
theorem dX9_assign_50 : decode cX9_assign 50 = .ok (.iconst 5, 1) := by decide +kernel
theorem dX9_assign_51 : decode cX9_assign 51 = .ok (.if_icmp .ne 6, 3) := by decide +kernel
theorem dX9_assign_54 : decode cX9_assign 54 = .ok (.bipush (-3), 2) := by decide +kernel
theorem dX9_assign_56 : decode cX9_assign 56 = .ok (.ireturn, 1) := by decide +kernel
theorem dX9_assign_57 : decode cX9_assign 57 = .ok (.bipush 36, 2) := by decide +kernel
theorem dX9_assign_59 : decode cX9_assign 59 = .ok (.iconst 4, 1) := by decide +kernel
theorem dX9_assign_60 : decode cX9_assign 60 = .ok (.aload_n 0, 1) := by decide +kernel
theorem dX9_assign_61 : decode cX9_assign 61 = .ok (.getfield 7, 3) := by decide +kernel
theorem dX9_assign_64 : decode cX9_assign 64 = .ok (.bipush 56, 2) := by decide +kernel
theorem dX9_assign_66 : decode cX9_assign 66 = .ok (.iaload, 1) := by decide +kernel
theorem dX9_assign_67 : decode cX9_assign 67 = .ok (.imul, 1) := by decide +kernel
theorem dX9_assign_68 : decode cX9_assign 68 = .ok (.iadd, 1) := by decide +kernel
theorem dX9_assign_69 : decode cX9_assign 69 = .ok (.istore 5, 2) := by decide +kernel
theorem dX9_assign_71 : decode cX9_assign 71 = .ok (.aload_n 0, 1) := by decide +kernel
theorem dX9_assign_72 : decode cX9_assign 72 = .ok (.getfield 7, 3) := by decide +kernel
theorem dX9_assign_75 : decode cX9_assign 75 = .ok (.iload 5, 2) := by decide +kernel
theorem dX9_assign_77 : decode cX9_assign 77 = .ok (.iload_n 1, 1) := by decide +kernel
theorem dX9_assign_78 : decode cX9_assign 78 = .ok (.iastore, 1) := by decide +kernel
theorem dX9_assign_79 : decode cX9_assign 79 = .ok (.aload_n 0, 1) := by decide +kernel
theorem dX9_assign_80 : decode cX9_assign 80 = .ok (.getfield 7, 3) := by decide +kernel
theorem dX9_assign_83 : decode cX9_assign 83 = .ok (.iload 5, 2) := by decide +kernel
theorem dX9_assign_85 : decode cX9_assign 85 = .ok (.iconst 1, 1) := by decide +kernel
theorem dX9_assign_86 : decode cX9_assign 86 = .ok (.iadd, 1) := by decide +kernel
theorem dX9_assign_87 : decode cX9_assign 87 = .ok (.iload_n 2, 1) := by decide +kernel
theorem dX9_assign_88 : decode cX9_assign 88 = .ok (.iastore, 1) := by decide +kernel
theorem dX9_assign_89 : decode cX9_assign 89 = .ok (.aload_n 0, 1) := by decide +kernel
theorem dX9_assign_90 : decode cX9_assign 90 = .ok (.getfield 7, 3) := by decide +kernel
theorem dX9_assign_93 : decode cX9_assign 93 = .ok (.iload 5, 2) := by decide +kernel
theorem dX9_assign_95 : decode cX9_assign 95 = .ok (.iconst 2, 1) := by decide +kernel
theorem dX9_assign_96 : decode cX9_assign 96 = .ok (.iadd, 1) := by decide +kernel
theorem dX9_assign_97 : decode cX9_assign 97 = .ok (.iload_n 3, 1) := by decide +kernel
theorem dX9_assign_98 : decode cX9_assign 98 = .ok (.iastore, 1) := by decide +kernel
theorem dX9_assign_99 : decode cX9_assign 99 = .ok (.aload_n 0, 1) := by decide +kernel
theorem dX9_assign_100 : decode cX9_assign 100 = .ok (.getfield 7, 3) := by decide +kernel
theorem dX9_assign_103 : decode cX9_assign 103 = .ok (.iload 5, 2) := by decide +kernel
theorem dX9_assign_105 : decode cX9_assign 105 = .ok (.iconst 3, 1) := by decide +kernel
theorem dX9_assign_106 : decode cX9_assign 106 = .ok (.iadd, 1) := by decide +kernel
theorem dX9_assign_107 : decode cX9_assign 107 = .ok (.iload 4, 2) := by decide +kernel
theorem dX9_assign_109 : decode cX9_assign 109 = .ok (.iastore, 1) := by decide +kernel
theorem dX9_assign_110 : decode cX9_assign 110 = .ok (.aload_n 0, 1) := by decide +kernel
theorem dX9_assign_111 : decode cX9_assign 111 = .ok (.getfield 7, 3) := by decide +kernel
theorem dX9_assign_114 : decode cX9_assign 114 = .ok (.bipush 56, 2) := by decide +kernel
theorem dX9_assign_116 : decode cX9_assign 116 = .ok (.dup2, 1) := by decide +kernel
theorem dX9_assign_117 : decode cX9_assign 117 = .ok (.iaload, 1) := by decide +kernel
theorem dX9_assign_118 : decode cX9_assign 118 = .ok (.iconst 1, 1) := by decide +kernel
theorem dX9_assign_119 : decode cX9_assign 119 = .ok (.iadd, 1) := by decide +kernel
theorem dX9_assign_120 : decode cX9_assign 120 = .ok (.iastore, 1) := by decide +kernel
theorem dX9_assign_121 : decode cX9_assign 121 = .ok (.aload_n 0, 1) := by decide +kernel
theorem dX9_assign_122 : decode cX9_assign 122 = .ok (.getfield 7, 3) := by decide +kernel
theorem dX9_assign_125 : decode cX9_assign 125 = .ok (.bipush 56, 2) := by decide +kernel
theorem dX9_assign_127 : decode cX9_assign 127 = .ok (.iaload, 1) := by decide +kernel
theorem dX9_assign_128 : decode cX9_assign 128 = .ok (.ireturn, 1) := by decide +kernel
theorem dX9_change_0 : decode cX9_change 0 = .ok (.iload_n 1, 1) := by decide +kernel
theorem dX9_change_1 : decode cX9_change 1 = .ok (.invokestatic 198, 3) := by decide +kernel
theorem dX9_change_4 : decode cX9_change 4 = .ok (.ifCond .eq 22, 3) := by decide +kernel
theorem dX9_change_7 : decode cX9_change 7 = .ok (.iload_n 2, 1) := by decide +kernel
theorem dX9_change_8 : decode cX9_change 8 = .ok (.invokestatic 195, 3) := by decide +kernel
theorem dX9_change_11 : decode cX9_change 11 = .ok (.ifCond .eq 15, 3) := by decide +kernel
theorem dX9_change_14 : decode cX9_change 14 = .ok (.iload_n 3, 1) := by decide +kernel
theorem dX9_change_15 : decode cX9_change 15 = .ok (.i2l, 1) := by decide +kernel
theorem dX9_change_16 : decode cX9_change 16 = .ok (.lconst 0, 1) := by decide +kernel
theorem dX9_change_17 : decode cX9_change 17 = .ok (.ldc2_w 160, 3) := by decide +kernel
theorem dX9_change_20 : decode cX9_change 20 = .ok (.invokestatic 58, 3) := by decide +kernel
theorem dX9_change_23 : decode cX9_change 23 = .ok (.ifCond .ne 5, 3) := by decide +kernel
theorem dX9_change_26 : decode cX9_change 26 = .ok (.iconst (-1), 1) := by decide +kernel
theorem dX9_change_27 : decode cX9_change 27 = .ok (.ireturn, 1) := by decide +kernel
theorem dX9_change_28 : decode cX9_change 28 = .ok (.aload_n 0, 1) := by decide +kernel
theorem dX9_change_29 : decode cX9_change 29 = .ok (.getfield 7, 3) := by decide +kernel
theorem dX9_change_32 : decode cX9_change 32 = .ok (.bipush 25, 2) := by decide +kernel
theorem dX9_change_34 : decode cX9_change 34 = .ok (.iaload, 1) := by decide +kernel
theorem dX9_change_35 : decode cX9_change 35 = .ok (.iconst 4, 1) := by decide +kernel
theorem dX9_change_36 : decode cX9_change 36 = .ok (.if_icmp .ne 6, 3) := by decide +kernel
theorem dX9_change_39 : decode cX9_change 39 = .ok (.bipush (-3), 2) := by decide +kernel
theorem dX9_change_41 : decode cX9_change 41 = .ok (.ireturn, 1) := by decide +kernel
theorem dX9_change_42 : decode cX9_change 42 = .ok (.bipush 13, 2) := by decide +kernel
theorem dX9_change_44 : decode cX9_change 44 = .ok (.iconst 3, 1) := by decide +kernel
theorem dX9_change_45 : decode cX9_change 45 = .ok (.aload_n 0, 1) := by decide +kernel
theorem dX9_change_46 : decode cX9_change 46 = .ok (.getfield 7, 3) := by decide +kernel
theorem dX9_change_49 : decode cX9_change 49 = .ok (.bipush 25, 2) := by decide +kernel
theorem dX9_change_51 : decode cX9_change 51 = .ok (.iaload, 1) := by decide +kernel
theorem dX9_change_52 : decode cX9_change 52 = .ok (.imul, 1) := by decide +kernel
theorem dX9_change_53 : decode cX9_change 53 = .ok (.iadd, 1) := by decide +kernel
theorem dX9_change_54 : decode cX9_change 54 = .ok (.istore 4, 2) := by decide +kernel
theorem dX9_change_56 : decode cX9_change 56 = .ok (.aload_n 0, 1) := by decide +kernel
theorem dX9_change_57 : decode cX9_change 57 = .ok (.getfield 7, 3) := by decide +kernel
theorem dX9_change_60 : decode cX9_change 60 = .ok (.iload 4, 2) := by decide +kernel
theorem dX9_change_62 : decode cX9_change 62 = .ok (.iload_n 1, 1) := by decide +kernel
theorem dX9_change_63 : decode cX9_change 63 = .ok (.iastore, 1) := by decide +kernel
theorem dX9_change_64 : decode cX9_change 64 = .ok (.aload_n 0, 1) := by decide +kernel
theorem dX9_change_65 : decode cX9_change 65 = .ok (.getfield 7, 3) := by decide +kernel
theorem dX9_change_68 : decode cX9_change 68 = .ok (.iload 4, 2) := by decide +kernel
theorem dX9_change_70 : decode cX9_change 70 = .ok (.iconst 1, 1) := by decide +kernel
theorem dX9_change_71 : decode cX9_change 71 = .ok (.iadd, 1) := by decide +kernel
theorem dX9_change_72 : decode cX9_change 72 = .ok (.iload_n 2, 1) := by decide +kernel
theorem dX9_change_73 : decode cX9_change 73 = .ok (.iastore, 1) := by decide +kernel
theorem dX9_change_74 : decode cX9_change 74 = .ok (.aload_n 0, 1) := by decide +kernel
theorem dX9_change_75 : decode cX9_change 75 = .ok (.getfield 7, 3) := by decide +kernel
theorem dX9_change_78 : decode cX9_change 78 = .ok (.iload 4, 2) := by decide +kernel
theorem dX9_change_80 : decode cX9_change 80 = .ok (.iconst 2, 1) := by decide +kernel
theorem dX9_change_81 : decode cX9_change 81 = .ok (.iadd, 1) := by decide +kernel
theorem dX9_change_82 : decode cX9_change 82 = .ok (.iload_n 3, 1) := by decide +kernel
theorem dX9_change_83 : decode cX9_change 83 = .ok (.iastore, 1) := by decide +kernel
theorem dX9_change_84 : decode cX9_change 84 = .ok (.aload_n 0, 1) := by decide +kernel
theorem dX9_change_85 : decode cX9_change 85 = .ok (.getfield 7, 3) := by decide +kernel
theorem dX9_change_88 : decode cX9_change 88 = .ok (.bipush 25, 2) := by decide +kernel
theorem dX9_change_90 : decode cX9_change 90 = .ok (.dup2, 1) := by decide +kernel
theorem dX9_change_91 : decode cX9_change 91 = .ok (.iaload, 1) := by decide +kernel
theorem dX9_change_92 : decode cX9_change 92 = .ok (.iconst 1, 1) := by decide +kernel
theorem dX9_change_93 : decode cX9_change 93 = .ok (.iadd, 1) := by decide +kernel
theorem dX9_change_94 : decode cX9_change 94 = .ok (.iastore, 1) := by decide +kernel
theorem dX9_change_95 : decode cX9_change 95 = .ok (.aload_n 0, 1) := by decide +kernel
theorem dX9_change_96 : decode cX9_change 96 = .ok (.getfield 7, 3) := by decide +kernel
theorem dX9_change_99 : decode cX9_change 99 = .ok (.bipush 25, 2) := by decide +kernel
theorem dX9_change_101 : decode cX9_change 101 = .ok (.iaload, 1) := by decide +kernel
theorem dX9_change_102 : decode cX9_change 102 = .ok (.ireturn, 1) := by decide +kernel
theorem dX9_tell_0 : decode cX9_tell 0 = .ok (.iload_n 1, 1) := by decide +kernel
theorem dX9_tell_1 : decode cX9_tell 1 = .ok (.invokestatic 198, 3) := by decide +kernel
theorem dX9_tell_4 : decode cX9_tell 4 = .ok (.ifCond .eq 32, 3) := by decide +kernel
theorem dX9_tell_7 : decode cX9_tell 7 = .ok (.aload_n 0, 1) := by decide +kernel
theorem dX9_tell_8 : decode cX9_tell 8 = .ok (.iload_n 2, 1) := by decide +kernel
theorem dX9_tell_9 : decode cX9_tell 9 = .ok (.invokevirtual 192, 3) := by decide +kernel
theorem dX9_tell_12 : decode cX9_tell 12 = .ok (.ifCond .eq 24, 3) := by decide +kernel
theorem dX9_tell_15 : decode cX9_tell 15 = .ok (.aload_n 0, 1) := by decide +kernel
theorem dX9_tell_16 : decode cX9_tell 16 = .ok (.iload_n 3, 1) := by decide +kernel
theorem dX9_tell_17 : decode cX9_tell 17 = .ok (.invokevirtual 192, 3) := by decide +kernel
theorem dX9_tell_20 : decode cX9_tell 20 = .ok (.ifCond .eq 16, 3) := by decide +kernel
theorem dX9_tell_23 : decode cX9_tell 23 = .ok (.iload_n 2, 1) := by decide +kernel
theorem dX9_tell_24 : decode cX9_tell 24 = .ok (.iload_n 3, 1) := by decide +kernel
theorem dX9_tell_25 : decode cX9_tell 25 = .ok (.if_icmp .eq 11, 3) := by decide +kernel
theorem dX9_tell_28 : decode cX9_tell 28 = .ok (.iload 4, 2) := by decide +kernel
theorem dX9_tell_30 : decode cX9_tell 30 = .ok (.invokestatic 195, 3) := by decide +kernel
theorem dX9_tell_33 : decode cX9_tell 33 = .ok (.ifCond .ne 5, 3) := by decide +kernel
theorem dX9_tell_36 : decode cX9_tell 36 = .ok (.iconst (-1), 1) := by decide +kernel
theorem dX9_tell_37 : decode cX9_tell 37 = .ok (.ireturn, 1) := by decide +kernel
theorem dX9_tell_38 : decode cX9_tell 38 = .ok (.aload_n 0, 1) := by decide +kernel
theorem dX9_tell_39 : decode cX9_tell 39 = .ok (.getfield 7, 3) := by decide +kernel
theorem dX9_tell_42 : decode cX9_tell 42 = .ok (.bipush 73, 2) := by decide +kernel
theorem dX9_tell_44 : decode cX9_tell 44 = .ok (.iaload, 1) := by decide +kernel
theorem dX9_tell_45 : decode cX9_tell 45 = .ok (.iconst 4, 1) := by decide +kernel
theorem dX9_tell_46 : decode cX9_tell 46 = .ok (.if_icmp .ne 6, 3) := by decide +kernel
theorem dX9_tell_49 : decode cX9_tell 49 = .ok (.bipush (-3), 2) := by decide +kernel
theorem dX9_tell_51 : decode cX9_tell 51 = .ok (.ireturn, 1) := by decide +kernel
theorem dX9_tell_52 : decode cX9_tell 52 = .ok (.bipush 57, 2) := by decide +kernel
theorem dX9_tell_54 : decode cX9_tell 54 = .ok (.iconst 4, 1) := by decide +kernel
theorem dX9_tell_55 : decode cX9_tell 55 = .ok (.aload_n 0, 1) := by decide +kernel
theorem dX9_tell_56 : decode cX9_tell 56 = .ok (.getfield 7, 3) := by decide +kernel
theorem dX9_tell_59 : decode cX9_tell 59 = .ok (.bipush 73, 2) := by decide +kernel
theorem dX9_tell_61 : decode cX9_tell 61 = .ok (.iaload, 1) := by decide +kernel
theorem dX9_tell_62 : decode cX9_tell 62 = .ok (.imul, 1) := by decide +kernel
theorem dX9_tell_63 : decode cX9_tell 63 = .ok (.iadd, 1) := by decide +kernel
theorem dX9_tell_64 : decode cX9_tell 64 = .ok (.istore 5, 2) := by decide +kernel
theorem dX9_tell_66 : decode cX9_tell 66 = .ok (.aload_n 0, 1) := by decide +kernel
theorem dX9_tell_67 : decode cX9_tell 67 = .ok (.getfield 7, 3) := by decide +kernel
theorem dX9_tell_70 : decode cX9_tell 70 = .ok (.iload 5, 2) := by decide +kernel
theorem dX9_tell_72 : decode cX9_tell 72 = .ok (.iload_n 1, 1) := by decide +kernel
theorem dX9_tell_73 : decode cX9_tell 73 = .ok (.iastore, 1) := by decide +kernel
theorem dX9_tell_74 : decode cX9_tell 74 = .ok (.aload_n 0, 1) := by decide +kernel
theorem dX9_tell_75 : decode cX9_tell 75 = .ok (.getfield 7, 3) := by decide +kernel
theorem dX9_tell_78 : decode cX9_tell 78 = .ok (.iload 5, 2) := by decide +kernel
theorem dX9_tell_80 : decode cX9_tell 80 = .ok (.iconst 1, 1) := by decide +kernel
theorem dX9_tell_81 : decode cX9_tell 81 = .ok (.iadd, 1) := by decide +kernel
theorem dX9_tell_82 : decode cX9_tell 82 = .ok (.iload_n 2, 1) := by decide +kernel
theorem dX9_tell_83 : decode cX9_tell 83 = .ok (.iastore, 1) := by decide +kernel
theorem dX9_tell_84 : decode cX9_tell 84 = .ok (.aload_n 0, 1) := by decide +kernel
theorem dX9_tell_85 : decode cX9_tell 85 = .ok (.getfield 7, 3) := by decide +kernel
theorem dX9_tell_88 : decode cX9_tell 88 = .ok (.iload 5, 2) := by decide +kernel
theorem dX9_tell_90 : decode cX9_tell 90 = .ok (.iconst 2, 1) := by decide +kernel
theorem dX9_tell_91 : decode cX9_tell 91 = .ok (.iadd, 1) := by decide +kernel
theorem dX9_tell_92 : decode cX9_tell 92 = .ok (.iload_n 3, 1) := by decide +kernel
theorem dX9_tell_93 : decode cX9_tell 93 = .ok (.iastore, 1) := by decide +kernel
theorem dX9_tell_94 : decode cX9_tell 94 = .ok (.aload_n 0, 1) := by decide +kernel
theorem dX9_tell_95 : decode cX9_tell 95 = .ok (.getfield 7, 3) := by decide +kernel
theorem dX9_tell_98 : decode cX9_tell 98 = .ok (.iload 5, 2) := by decide +kernel
theorem dX9_tell_100 : decode cX9_tell 100 = .ok (.iconst 3, 1) := by decide +kernel
theorem dX9_tell_101 : decode cX9_tell 101 = .ok (.iadd, 1) := by decide +kernel
theorem dX9_tell_102 : decode cX9_tell 102 = .ok (.iload 4, 2) := by decide +kernel
theorem dX9_tell_104 : decode cX9_tell 104 = .ok (.iastore, 1) := by decide +kernel
theorem dX9_tell_105 : decode cX9_tell 105 = .ok (.aload_n 0, 1) := by decide +kernel
theorem dX9_tell_106 : decode cX9_tell 106 = .ok (.getfield 7, 3) := by decide +kernel
theorem dX9_tell_109 : decode cX9_tell 109 = .ok (.bipush 73, 2) := by decide +kernel
theorem dX9_tell_111 : decode cX9_tell 111 = .ok (.dup2, 1) := by decide +kernel
theorem dX9_tell_112 : decode cX9_tell 112 = .ok (.iaload, 1) := by decide +kernel
theorem dX9_tell_113 : decode cX9_tell 113 = .ok (.iconst 1, 1) := by decide +kernel
theorem dX9_tell_114 : decode cX9_tell 114 = .ok (.iadd, 1) := by decide +kernel
theorem dX9_tell_115 : decode cX9_tell 115 = .ok (.iastore, 1) := by decide +kernel
theorem dX9_tell_116 : decode cX9_tell 116 = .ok (.aload_n 0, 1) := by decide +kernel
theorem dX9_tell_117 : decode cX9_tell 117 = .ok (.getfield 7, 3) := by decide +kernel
theorem dX9_tell_120 : decode cX9_tell 120 = .ok (.bipush 73, 2) := by decide +kernel
theorem dX9_tell_122 : decode cX9_tell 122 = .ok (.iaload, 1) := by decide +kernel
theorem dX9_tell_123 : decode cX9_tell 123 = .ok (.ireturn, 1) := by decide +kernel
theorem dX9_drop_0 : decode cX9_drop 0 = .ok (.iload_n 1, 1) := by decide +kernel
theorem dX9_drop_1 : decode cX9_drop 1 = .ok (.iconst 1, 1) := by decide +kernel
theorem dX9_drop_2 : decode cX9_drop 2 = .ok (.if_icmp .ne 8, 3) := by decide +kernel
theorem dX9_drop_5 : decode cX9_drop 5 = .ok (.bipush 25, 2) := by decide +kernel
theorem dX9_drop_7 : decode cX9_drop 7 = .ok (.goto 15, 3) := by decide +kernel
theorem dX9_drop_10 : decode cX9_drop 10 = .ok (.iload_n 1, 1) := by decide +kernel
theorem dX9_drop_11 : decode cX9_drop 11 = .ok (.iconst 2, 1) := by decide +kernel
theorem dX9_drop_12 : decode cX9_drop 12 = .ok (.if_icmp .ne 8, 3) := by decide +kernel
theorem dX9_drop_15 : decode cX9_drop 15 = .ok (.bipush 56, 2) := by decide +kernel
theorem dX9_drop_17 : decode cX9_drop 17 = .ok (.goto 5, 3) := by decide +kernel
theorem dX9_drop_20 : decode cX9_drop 20 = .ok (.bipush 73, 2) := by decide +kernel
theorem dX9_drop_22 : decode cX9_drop 22 = .ok (.istore_n 3, 1) := by decide +kernel
theorem dX9_drop_23 : decode cX9_drop 23 = .ok (.aload_n 0, 1) := by decide +kernel
theorem dX9_drop_24 : decode cX9_drop 24 = .ok (.iload_n 1, 1) := by decide +kernel
theorem dX9_drop_25 : decode cX9_drop 25 = .ok (.i2l, 1) := by decide +kernel
theorem dX9_drop_26 : decode cX9_drop 26 = .ok (.lconst 1, 1) := by decide +kernel
theorem dX9_drop_27 : decode cX9_drop 27 = .ok (.ldc2_w 215, 3) := by decide +kernel
theorem dX9_drop_30 : decode cX9_drop 30 = .ok (.invokestatic 58, 3) := by decide +kernel
theorem dX9_drop_33 : decode cX9_drop 33 = .ok (.ifCond .eq 23, 3) := by decide +kernel
theorem dX9_drop_36 : decode cX9_drop 36 = .ok (.iload_n 2, 1) := by decide +kernel
theorem dX9_drop_37 : decode cX9_drop 37 = .ok (.i2l, 1) := by decide +kernel
theorem dX9_drop_38 : decode cX9_drop 38 = .ok (.lconst 0, 1) := by decide +kernel
theorem dX9_drop_39 : decode cX9_drop 39 = .ok (.aload_n 0, 1) := by decide +kernel
theorem dX9_drop_40 : decode cX9_drop 40 = .ok (.getfield 7, 3) := by decide +kernel
theorem dX9_drop_43 : decode cX9_drop 43 = .ok (.iload_n 3, 1) := by decide +kernel
theorem dX9_drop_44 : decode cX9_drop 44 = .ok (.iaload, 1) := by decide +kernel
theorem dX9_drop_45 : decode cX9_drop 45 = .ok (.i2l, 1) := by decide +kernel
theorem dX9_drop_46 : decode cX9_drop 46 = .ok (.invokestatic 58, 3) := by decide +kernel
theorem dX9_drop_49 : decode cX9_drop 49 = .ok (.ifCond .eq 7, 3) := by decide +kernel
theorem dX9_drop_52 : decode cX9_drop 52 = .ok (.iconst 1, 1) := by decide +kernel
theorem dX9_drop_53 : decode cX9_drop 53 = .ok (.goto 4, 3) := by decide +kernel
theorem dX9_drop_56 : decode cX9_drop 56 = .ok (.iconst 0, 1) := by decide +kernel
theorem dX9_drop_57 : decode cX9_drop 57 = .ok (.iload_n 3, 1) := by decide +kernel
theorem dX9_drop_58 : decode cX9_drop 58 = .ok (.iload_n 2, 1) := by decide +kernel
theorem dX9_drop_59 : decode cX9_drop 59 = .ok (.invokevirtual 217, 3) := by decide +kernel
theorem dX9_drop_62 : decode cX9_drop 62 = .ok (.ireturn, 1) := by decide +kernel
theorem dX9_sees_0 : decode cX9_sees 0 = .ok (.iload_n 1, 1) := by decide +kernel
theorem dX9_sees_1 : decode cX9_sees 1 = .ok (.invokestatic 198, 3) := by decide +kernel
theorem dX9_sees_4 : decode cX9_sees 4 = .ok (.ifCond .ne 7, 3) := by decide +kernel
theorem dX9_sees_7 : decode cX9_sees 7 = .ok (.iconst (-1), 1) := by decide +kernel
theorem dX9_sees_8 : decode cX9_sees 8 = .ok (.goto 21, 3) := by decide +kernel
theorem dX9_sees_11 : decode cX9_sees 11 = .ok (.aload_n 0, 1) := by decide +kernel
theorem dX9_sees_12 : decode cX9_sees 12 = .ok (.iload_n 1, 1) := by decide +kernel
theorem dX9_sees_13 : decode cX9_sees 13 = .ok (.invokevirtual 175, 3) := by decide +kernel
theorem dX9_sees_16 : decode cX9_sees 16 = .ok (.ifCond .eq 11, 3) := by decide +kernel
theorem dX9_sees_19 : decode cX9_sees 19 = .ok (.aload_n 0, 1) := by decide +kernel
theorem dX9_sees_20 : decode cX9_sees 20 = .ok (.iload_n 1, 1) := by decide +kernel
theorem dX9_sees_21 : decode cX9_sees 21 = .ok (.invokevirtual 168, 3) := by decide +kernel
theorem dX9_sees_24 : decode cX9_sees 24 = .ok (.goto 5, 3) := by decide +kernel
theorem dX9_sees_27 : decode cX9_sees 27 = .ok (.bipush (-4), 2) := by decide +kernel
theorem dX9_sees_29 : decode cX9_sees 29 = .ok (.ireturn, 1) := by decide +kernel
theorem dX9_belief_0 : decode cX9_belief 0 = .ok (.aload_n 0, 1) := by decide +kernel
theorem dX9_belief_1 : decode cX9_belief 1 = .ok (.iload_n 1, 1) := by decide +kernel
theorem dX9_belief_2 : decode cX9_belief 2 = .ok (.invokevirtual 192, 3) := by decide +kernel
theorem dX9_belief_5 : decode cX9_belief 5 = .ok (.ifCond .eq 28, 3) := by decide +kernel
theorem dX9_belief_8 : decode cX9_belief 8 = .ok (.iload_n 2, 1) := by decide +kernel
theorem dX9_belief_9 : decode cX9_belief 9 = .ok (.invokestatic 195, 3) := by decide +kernel
theorem dX9_belief_12 : decode cX9_belief 12 = .ok (.ifCond .eq 21, 3) := by decide +kernel
theorem dX9_belief_15 : decode cX9_belief 15 = .ok (.iload_n 3, 1) := by decide +kernel
theorem dX9_belief_16 : decode cX9_belief 16 = .ok (.invokestatic 198, 3) := by decide +kernel
theorem dX9_belief_19 : decode cX9_belief 19 = .ok (.ifCond .eq 14, 3) := by decide +kernel
theorem dX9_belief_22 : decode cX9_belief 22 = .ok (.iload 4, 2) := by decide +kernel
theorem dX9_belief_24 : decode cX9_belief 24 = .ok (.i2l, 1) := by decide +kernel
theorem dX9_belief_25 : decode cX9_belief 25 = .ok (.lconst 0, 1) := by decide +kernel
theorem dX9_belief_26 : decode cX9_belief 26 = .ok (.lconst 1, 1) := by decide +kernel
theorem dX9_belief_27 : decode cX9_belief 27 = .ok (.invokestatic 58, 3) := by decide +kernel
theorem dX9_belief_30 : decode cX9_belief 30 = .ok (.ifCond .ne 5, 3) := by decide +kernel
theorem dX9_belief_33 : decode cX9_belief 33 = .ok (.iconst (-1), 1) := by decide +kernel
theorem dX9_belief_34 : decode cX9_belief 34 = .ok (.ireturn, 1) := by decide +kernel
theorem dX9_belief_35 : decode cX9_belief 35 = .ok (.aload_n 0, 1) := by decide +kernel
theorem dX9_belief_36 : decode cX9_belief 36 = .ok (.invokevirtual 224, 3) := by decide +kernel
theorem dX9_belief_39 : decode cX9_belief 39 = .ok (.bipush 15, 2) := by decide +kernel
theorem dX9_belief_41 : decode cX9_belief 41 = .ok (.iload_n 3, 1) := by decide +kernel
theorem dX9_belief_42 : decode cX9_belief 42 = .ok (.imul, 1) := by decide +kernel
theorem dX9_belief_43 : decode cX9_belief 43 = .ok (.iconst 3, 1) := by decide +kernel
theorem dX9_belief_44 : decode cX9_belief 44 = .ok (.iload_n 1, 1) := by decide +kernel
theorem dX9_belief_45 : decode cX9_belief 45 = .ok (.imul, 1) := by decide +kernel
theorem dX9_belief_46 : decode cX9_belief 46 = .ok (.iadd, 1) := by decide +kernel
theorem dX9_belief_47 : decode cX9_belief 47 = .ok (.iload_n 2, 1) := by decide +kernel
theorem dX9_belief_48 : decode cX9_belief 48 = .ok (.iadd, 1) := by decide +kernel
theorem dX9_belief_49 : decode cX9_belief 49 = .ok (.istore 5, 2) := by decide +kernel
theorem dX9_belief_51 : decode cX9_belief 51 = .ok (.aload_n 0, 1) := by decide +kernel
theorem dX9_belief_52 : decode cX9_belief 52 = .ok (.getfield 28, 3) := by decide +kernel
theorem dX9_belief_55 : decode cX9_belief 55 = .ok (.iload 5, 2) := by decide +kernel
theorem dX9_belief_57 : decode cX9_belief 57 = .ok (.iaload, 1) := by decide +kernel
theorem dX9_belief_58 : decode cX9_belief 58 = .ok (.bipush (-4), 2) := by decide +kernel
theorem dX9_belief_60 : decode cX9_belief 60 = .ok (.if_icmp .eq 8, 3) := by decide +kernel
theorem dX9_belief_63 : decode cX9_belief 63 = .ok (.iload 4, 2) := by decide +kernel
theorem dX9_belief_65 : decode cX9_belief 65 = .ok (.ifCond .ne 13, 3) := by decide +kernel
theorem dX9_belief_68 : decode cX9_belief 68 = .ok (.aload_n 0, 1) := by decide +kernel
theorem dX9_belief_69 : decode cX9_belief 69 = .ok (.getfield 28, 3) := by decide +kernel
theorem dX9_belief_72 : decode cX9_belief 72 = .ok (.iload 5, 2) := by decide +kernel
theorem dX9_belief_74 : decode cX9_belief 74 = .ok (.iaload, 1) := by decide +kernel
theorem dX9_belief_75 : decode cX9_belief 75 = .ok (.goto 10, 3) := by decide +kernel
theorem dX9_belief_78 : decode cX9_belief 78 = .ok (.aload_n 0, 1) := by decide +kernel
theorem dX9_belief_79 : decode cX9_belief 79 = .ok (.getfield 31, 3) := by decide +kernel
theorem dX9_belief_82 : decode cX9_belief 82 = .ok (.iload 5, 2) := by decide +kernel
theorem dX9_belief_84 : decode cX9_belief 84 = .ok (.iaload, 1) := by decide +kernel
theorem dX9_belief_85 : decode cX9_belief 85 = .ok (.ireturn, 1) := by decide +kernel
theorem dX9_rightOf_0 : decode cX9_rightOf 0 = .ok (.iconst 0, 1) := by decide +kernel
theorem dX9_rightOf_1 : decode cX9_rightOf 1 = .ok (.istore 4, 2) := by decide +kernel
theorem dX9_rightOf_3 : decode cX9_rightOf 3 = .ok (.aload_n 0, 1) := by decide +kernel
theorem dX9_rightOf_4 : decode cX9_rightOf 4 = .ok (.iload_n 1, 1) := by decide +kernel
theorem dX9_rightOf_5 : decode cX9_rightOf 5 = .ok (.iload_n 2, 1) := by decide +kernel
theorem dX9_rightOf_6 : decode cX9_rightOf 6 = .ok (.invokevirtual 178, 3) := by decide +kernel
theorem dX9_rightOf_9 : decode cX9_rightOf 9 = .ok (.istore 5, 2) := by decide +kernel
theorem dX9_rightOf_11 : decode cX9_rightOf 11 = .ok (.iconst 0, 1) := by decide +kernel
theorem dX9_rightOf_12 : decode cX9_rightOf 12 = .ok (.istore 6, 2) := by decide +kernel
theorem dX9_rightOf_14 : decode cX9_rightOf 14 = .ok (.iload 6, 2) := by decide +kernel
theorem dX9_rightOf_16 : decode cX9_rightOf 16 = .ok (.aload_n 0, 1) := by decide +kernel
theorem dX9_rightOf_17 : decode cX9_rightOf 17 = .ok (.getfield 154, 3) := by decide +kernel
theorem dX9_rightOf_20 : decode cX9_rightOf 20 = .ok (.if_icmp .ge 71, 3) := by decide +kernel
theorem dX9_rightOf_23 : decode cX9_rightOf 23 = .ok (.aload_n 0, 1) := by decide +kernel
theorem dX9_rightOf_24 : decode cX9_rightOf 24 = .ok (.getfield 28, 3) := by decide +kernel
theorem dX9_rightOf_27 : decode cX9_rightOf 27 = .ok (.bipush 15, 2) := by decide +kernel
theorem dX9_rightOf_29 : decode cX9_rightOf 29 = .ok (.iload_n 2, 1) := by decide +kernel
theorem dX9_rightOf_30 : decode cX9_rightOf 30 = .ok (.imul, 1) := by decide +kernel
theorem dX9_rightOf_31 : decode cX9_rightOf 31 = .ok (.iconst 3, 1) := by decide +kernel
theorem dX9_rightOf_32 : decode cX9_rightOf 32 = .ok (.iload 6, 2) := by decide +kernel
theorem dX9_rightOf_34 : decode cX9_rightOf 34 = .ok (.imul, 1) := by decide +kernel
theorem dX9_rightOf_35 : decode cX9_rightOf 35 = .ok (.iadd, 1) := by decide +kernel
theorem dX9_rightOf_36 : decode cX9_rightOf 36 = .ok (.iload_n 1, 1) := by decide +kernel
theorem dX9_rightOf_37 : decode cX9_rightOf 37 = .ok (.iadd, 1) := by decide +kernel
theorem dX9_rightOf_38 : decode cX9_rightOf 38 = .ok (.iaload, 1) := by decide +kernel
theorem dX9_rightOf_39 : decode cX9_rightOf 39 = .ok (.istore 7, 2) := by decide +kernel
theorem dX9_rightOf_41 : decode cX9_rightOf 41 = .ok (.iload 4, 2) := by decide +kernel
theorem dX9_rightOf_43 : decode cX9_rightOf 43 = .ok (.iload 7, 2) := by decide +kernel
theorem dX9_rightOf_45 : decode cX9_rightOf 45 = .ok (.bipush (-4), 2) := by decide +kernel
theorem dX9_rightOf_47 : decode cX9_rightOf 47 = .ok (.if_icmp .eq 34, 3) := by decide +kernel
theorem dX9_rightOf_50 : decode cX9_rightOf 50 = .ok (.iload 7, 2) := by decide +kernel
theorem dX9_rightOf_52 : decode cX9_rightOf 52 = .ok (.iload 5, 2) := by decide +kernel
theorem dX9_rightOf_54 : decode cX9_rightOf 54 = .ok (.if_icmp .ne 7, 3) := by decide +kernel
theorem dX9_rightOf_57 : decode cX9_rightOf 57 = .ok (.iconst 1, 1) := by decide +kernel
theorem dX9_rightOf_58 : decode cX9_rightOf 58 = .ok (.goto 4, 3) := by decide +kernel
theorem dX9_rightOf_61 : decode cX9_rightOf 61 = .ok (.iconst 0, 1) := by decide +kernel
theorem dX9_rightOf_62 : decode cX9_rightOf 62 = .ok (.iload_n 3, 1) := by decide +kernel
theorem dX9_rightOf_63 : decode cX9_rightOf 63 = .ok (.ifCond .ne 7, 3) := by decide +kernel
theorem dX9_rightOf_66 : decode cX9_rightOf 66 = .ok (.iconst 1, 1) := by decide +kernel
theorem dX9_rightOf_67 : decode cX9_rightOf 67 = .ok (.goto 4, 3) := by decide +kernel
theorem dX9_rightOf_70 : decode cX9_rightOf 70 = .ok (.iconst 0, 1) := by decide +kernel
theorem dX9_rightOf_71 : decode cX9_rightOf 71 = .ok (.if_icmp .ne 10, 3) := by decide +kernel
theorem dX9_rightOf_74 : decode cX9_rightOf 74 = .ok (.iconst 1, 1) := by decide +kernel
theorem dX9_rightOf_75 : decode cX9_rightOf 75 = .ok (.iload 6, 2) := by decide +kernel
theorem dX9_rightOf_77 : decode cX9_rightOf 77 = .ok (.ishl, 1) := by decide +kernel
theorem dX9_rightOf_78 : decode cX9_rightOf 78 = .ok (.goto 4, 3) := by decide +kernel
theorem dX9_rightOf_81 : decode cX9_rightOf 81 = .ok (.iconst 0, 1) := by decide +kernel
theorem dX9_rightOf_82 : decode cX9_rightOf 82 = .ok (.ior, 1) := by decide +kernel
theorem dX9_rightOf_83 : decode cX9_rightOf 83 = .ok (.istore 4, 2) := by decide +kernel
theorem dX9_rightOf_85 : decode cX9_rightOf 85 = .ok (.iinc 6 1, 3) := by decide +kernel
theorem dX9_rightOf_88 : decode cX9_rightOf 88 = .ok (.goto (-74), 3) := by decide +kernel
theorem dX9_rightOf_91 : decode cX9_rightOf 91 = .ok (.iload 4, 2) := by decide +kernel
theorem dX9_rightOf_93 : decode cX9_rightOf 93 = .ok (.ireturn, 1) := by decide +kernel
theorem dX9_right_0 : decode cX9_right 0 = .ok (.iload_n 1, 1) := by decide +kernel
theorem dX9_right_1 : decode cX9_right 1 = .ok (.invokestatic 195, 3) := by decide +kernel
theorem dX9_right_4 : decode cX9_right 4 = .ok (.ifCond .eq 20, 3) := by decide +kernel
theorem dX9_right_7 : decode cX9_right 7 = .ok (.iload_n 2, 1) := by decide +kernel
theorem dX9_right_8 : decode cX9_right 8 = .ok (.invokestatic 198, 3) := by decide +kernel
theorem dX9_right_11 : decode cX9_right 11 = .ok (.ifCond .eq 13, 3) := by decide +kernel
theorem dX9_right_14 : decode cX9_right 14 = .ok (.iload_n 3, 1) := by decide +kernel
theorem dX9_right_15 : decode cX9_right 15 = .ok (.i2l, 1) := by decide +kernel
theorem dX9_right_16 : decode cX9_right 16 = .ok (.lconst 0, 1) := by decide +kernel
theorem dX9_right_17 : decode cX9_right 17 = .ok (.lconst 1, 1) := by decide +kernel
theorem dX9_right_18 : decode cX9_right 18 = .ok (.invokestatic 58, 3) := by decide +kernel
theorem dX9_right_21 : decode cX9_right 21 = .ok (.ifCond .ne 5, 3) := by decide +kernel
theorem dX9_right_24 : decode cX9_right 24 = .ok (.iconst (-1), 1) := by decide +kernel
theorem dX9_right_25 : decode cX9_right 25 = .ok (.ireturn, 1) := by decide +kernel
theorem dX9_right_26 : decode cX9_right 26 = .ok (.aload_n 0, 1) := by decide +kernel
theorem dX9_right_27 : decode cX9_right 27 = .ok (.invokevirtual 224, 3) := by decide +kernel
theorem dX9_right_30 : decode cX9_right 30 = .ok (.aload_n 0, 1) := by decide +kernel
theorem dX9_right_31 : decode cX9_right 31 = .ok (.iload_n 1, 1) := by decide +kernel
theorem dX9_right_32 : decode cX9_right 32 = .ok (.iload_n 2, 1) := by decide +kernel
theorem dX9_right_33 : decode cX9_right 33 = .ok (.iload_n 3, 1) := by decide +kernel
theorem dX9_right_34 : decode cX9_right 34 = .ok (.invokevirtual 227, 3) := by decide +kernel
theorem dX9_right_37 : decode cX9_right 37 = .ok (.ireturn, 1) := by decide +kernel
theorem dX9_wrong_0 : decode cX9_wrong 0 = .ok (.aload_n 0, 1) := by decide +kernel
theorem dX9_wrong_1 : decode cX9_wrong 1 = .ok (.iload_n 1, 1) := by decide +kernel
theorem dX9_wrong_2 : decode cX9_wrong 2 = .ok (.invokevirtual 192, 3) := by decide +kernel
theorem dX9_wrong_5 : decode cX9_wrong 5 = .ok (.ifCond .eq 10, 3) := by decide +kernel
theorem dX9_wrong_8 : decode cX9_wrong 8 = .ok (.iload_n 2, 1) := by decide +kernel
theorem dX9_wrong_9 : decode cX9_wrong 9 = .ok (.invokestatic 195, 3) := by decide +kernel
theorem dX9_wrong_12 : decode cX9_wrong 12 = .ok (.ifCond .ne 5, 3) := by decide +kernel
theorem dX9_wrong_15 : decode cX9_wrong 15 = .ok (.iconst (-1), 1) := by decide +kernel
theorem dX9_wrong_16 : decode cX9_wrong 16 = .ok (.ireturn, 1) := by decide +kernel
theorem dX9_wrong_17 : decode cX9_wrong 17 = .ok (.aload_n 0, 1) := by decide +kernel
theorem dX9_wrong_18 : decode cX9_wrong 18 = .ok (.invokevirtual 224, 3) := by decide +kernel
theorem dX9_wrong_21 : decode cX9_wrong 21 = .ok (.iconst 0, 1) := by decide +kernel
theorem dX9_wrong_22 : decode cX9_wrong 22 = .ok (.istore_n 3, 1) := by decide +kernel
theorem dX9_wrong_23 : decode cX9_wrong 23 = .ok (.iload_n 3, 1) := by decide +kernel
theorem dX9_wrong_24 : decode cX9_wrong 24 = .ok (.bipush 10, 2) := by decide +kernel
theorem dX9_wrong_26 : decode cX9_wrong 26 = .ok (.if_icmp .ge 26, 3) := by decide +kernel
theorem dX9_wrong_29 : decode cX9_wrong 29 = .ok (.aload_n 0, 1) := by decide +kernel
theorem dX9_wrong_30 : decode cX9_wrong 30 = .ok (.iload_n 2, 1) := by decide +kernel
theorem dX9_wrong_31 : decode cX9_wrong 31 = .ok (.iload_n 3, 1) := by decide +kernel
theorem dX9_wrong_32 : decode cX9_wrong 32 = .ok (.iconst 1, 1) := by decide +kernel
theorem dX9_wrong_33 : decode cX9_wrong 33 = .ok (.invokevirtual 227, 3) := by decide +kernel
theorem dX9_wrong_36 : decode cX9_wrong 36 = .ok (.iload_n 1, 1) := by decide +kernel
theorem dX9_wrong_37 : decode cX9_wrong 37 = .ok (.ishr, 1) := by decide +kernel
theorem dX9_wrong_38 : decode cX9_wrong 38 = .ok (.iconst 1, 1) := by decide +kernel
theorem dX9_wrong_39 : decode cX9_wrong 39 = .ok (.iand, 1) := by decide +kernel
theorem dX9_wrong_40 : decode cX9_wrong 40 = .ok (.iconst 1, 1) := by decide +kernel
theorem dX9_wrong_41 : decode cX9_wrong 41 = .ok (.if_icmp .ne 5, 3) := by decide +kernel
theorem dX9_wrong_44 : decode cX9_wrong 44 = .ok (.iload_n 3, 1) := by decide +kernel
theorem dX9_wrong_45 : decode cX9_wrong 45 = .ok (.ireturn, 1) := by decide +kernel
theorem dX9_wrong_46 : decode cX9_wrong 46 = .ok (.iinc 3 1, 3) := by decide +kernel
theorem dX9_wrong_49 : decode cX9_wrong 49 = .ok (.goto (-26), 3) := by decide +kernel
theorem dX9_wrong_52 : decode cX9_wrong 52 = .ok (.bipush (-4), 2) := by decide +kernel
theorem dX9_wrong_54 : decode cX9_wrong 54 = .ok (.ireturn, 1) := by decide +kernel
theorem dX9_done_0 : decode cX9_done 0 = .ok (.aload_n 0, 1) := by decide +kernel
theorem dX9_done_1 : decode cX9_done 1 = .ok (.aload_n 0, 1) := by decide +kernel
theorem dX9_done_2 : decode cX9_done 2 = .ok (.invokevirtual 189, 3) := by decide +kernel
theorem dX9_done_5 : decode cX9_done 5 = .ok (.invokevirtual 207, 3) := by decide +kernel
theorem dX9_done_8 : decode cX9_done 8 = .ok (.istore_n 2, 1) := by decide +kernel
theorem dX9_done_9 : decode cX9_done 9 = .ok (.iload_n 1, 1) := by decide +kernel
theorem dX9_done_10 : decode cX9_done 10 = .ok (.ifCond .ne 7, 3) := by decide +kernel
theorem dX9_done_13 : decode cX9_done 13 = .ok (.iload_n 2, 1) := by decide +kernel
theorem dX9_done_14 : decode cX9_done 14 = .ok (.goto 17, 3) := by decide +kernel
theorem dX9_done_17 : decode cX9_done 17 = .ok (.iload_n 1, 1) := by decide +kernel
theorem dX9_done_18 : decode cX9_done 18 = .ok (.iconst 1, 1) := by decide +kernel
theorem dX9_done_19 : decode cX9_done 19 = .ok (.if_icmp .ne 11, 3) := by decide +kernel
theorem dX9_done_22 : decode cX9_done 22 = .ok (.aload_n 0, 1) := by decide +kernel
theorem dX9_done_23 : decode cX9_done 23 = .ok (.iload_n 2, 1) := by decide +kernel
theorem dX9_done_24 : decode cX9_done 24 = .ok (.invokevirtual 210, 3) := by decide +kernel
theorem dX9_done_27 : decode cX9_done 27 = .ok (.goto 4, 3) := by decide +kernel
theorem dX9_done_30 : decode cX9_done 30 = .ok (.iconst (-1), 1) := by decide +kernel
theorem dX9_done_31 : decode cX9_done 31 = .ok (.ireturn, 1) := by decide +kernel
theorem dX9_workIn_0 : decode cX9_workIn 0 = .ok (.iconst 0, 1) := by decide +kernel
theorem dX9_workIn_1 : decode cX9_workIn 1 = .ok (.istore_n 3, 1) := by decide +kernel
theorem dX9_workIn_2 : decode cX9_workIn 2 = .ok (.iconst 0, 1) := by decide +kernel
theorem dX9_workIn_3 : decode cX9_workIn 3 = .ok (.istore 4, 2) := by decide +kernel
theorem dX9_workIn_5 : decode cX9_workIn 5 = .ok (.iload 4, 2) := by decide +kernel
theorem dX9_workIn_7 : decode cX9_workIn 7 = .ok (.aload_n 0, 1) := by decide +kernel
theorem dX9_workIn_8 : decode cX9_workIn 8 = .ok (.getfield 7, 3) := by decide +kernel
theorem dX9_workIn_11 : decode cX9_workIn 11 = .ok (.bipush 56, 2) := by decide +kernel
theorem dX9_workIn_13 : decode cX9_workIn 13 = .ok (.iaload, 1) := by decide +kernel
theorem dX9_workIn_14 : decode cX9_workIn 14 = .ok (.if_icmp .ge 68, 3) := by decide +kernel
theorem dX9_workIn_17 : decode cX9_workIn 17 = .ok (.bipush 36, 2) := by decide +kernel
theorem dX9_workIn_19 : decode cX9_workIn 19 = .ok (.iconst 4, 1) := by decide +kernel
theorem dX9_workIn_20 : decode cX9_workIn 20 = .ok (.iload 4, 2) := by decide +kernel
theorem dX9_workIn_22 : decode cX9_workIn 22 = .ok (.imul, 1) := by decide +kernel
theorem dX9_workIn_23 : decode cX9_workIn 23 = .ok (.iadd, 1) := by decide +kernel
theorem dX9_workIn_24 : decode cX9_workIn 24 = .ok (.istore 5, 2) := by decide +kernel
theorem dX9_workIn_26 : decode cX9_workIn 26 = .ok (.iload_n 3, 1) := by decide +kernel
theorem dX9_workIn_27 : decode cX9_workIn 27 = .ok (.aload_n 0, 1) := by decide +kernel
theorem dX9_workIn_28 : decode cX9_workIn 28 = .ok (.getfield 7, 3) := by decide +kernel
theorem dX9_workIn_31 : decode cX9_workIn 31 = .ok (.iload 5, 2) := by decide +kernel
theorem dX9_workIn_33 : decode cX9_workIn 33 = .ok (.iaload, 1) := by decide +kernel
theorem dX9_workIn_34 : decode cX9_workIn 34 = .ok (.iload_n 1, 1) := by decide +kernel
theorem dX9_workIn_35 : decode cX9_workIn 35 = .ok (.if_icmp .ne 38, 3) := by decide +kernel
theorem dX9_workIn_38 : decode cX9_workIn 38 = .ok (.iload_n 2, 1) := by decide +kernel
theorem dX9_workIn_39 : decode cX9_workIn 39 = .ok (.i2l, 1) := by decide +kernel
theorem dX9_workIn_40 : decode cX9_workIn 40 = .ok (.aload_n 0, 1) := by decide +kernel
theorem dX9_workIn_41 : decode cX9_workIn 41 = .ok (.getfield 7, 3) := by decide +kernel
theorem dX9_workIn_44 : decode cX9_workIn 44 = .ok (.iload 5, 2) := by decide +kernel
theorem dX9_workIn_46 : decode cX9_workIn 46 = .ok (.iconst 1, 1) := by decide +kernel
theorem dX9_workIn_47 : decode cX9_workIn 47 = .ok (.iadd, 1) := by decide +kernel
theorem dX9_workIn_48 : decode cX9_workIn 48 = .ok (.iaload, 1) := by decide +kernel
theorem dX9_workIn_49 : decode cX9_workIn 49 = .ok (.i2l, 1) := by decide +kernel
theorem dX9_workIn_50 : decode cX9_workIn 50 = .ok (.aload_n 0, 1) := by decide +kernel
theorem dX9_workIn_51 : decode cX9_workIn 51 = .ok (.getfield 7, 3) := by decide +kernel
theorem dX9_workIn_54 : decode cX9_workIn 54 = .ok (.iload 5, 2) := by decide +kernel
theorem dX9_workIn_56 : decode cX9_workIn 56 = .ok (.iconst 2, 1) := by decide +kernel
theorem dX9_workIn_57 : decode cX9_workIn 57 = .ok (.iadd, 1) := by decide +kernel
theorem dX9_workIn_58 : decode cX9_workIn 58 = .ok (.iaload, 1) := by decide +kernel
theorem dX9_workIn_59 : decode cX9_workIn 59 = .ok (.i2l, 1) := by decide +kernel
theorem dX9_workIn_60 : decode cX9_workIn 60 = .ok (.invokestatic 58, 3) := by decide +kernel
theorem dX9_workIn_63 : decode cX9_workIn 63 = .ok (.ifCond .eq 10, 3) := by decide +kernel
theorem dX9_workIn_66 : decode cX9_workIn 66 = .ok (.iconst 1, 1) := by decide +kernel
theorem dX9_workIn_67 : decode cX9_workIn 67 = .ok (.iload 4, 2) := by decide +kernel
theorem dX9_workIn_69 : decode cX9_workIn 69 = .ok (.ishl, 1) := by decide +kernel
theorem dX9_workIn_70 : decode cX9_workIn 70 = .ok (.goto 4, 3) := by decide +kernel
theorem dX9_workIn_73 : decode cX9_workIn 73 = .ok (.iconst 0, 1) := by decide +kernel
theorem dX9_workIn_74 : decode cX9_workIn 74 = .ok (.ior, 1) := by decide +kernel
theorem dX9_workIn_75 : decode cX9_workIn 75 = .ok (.istore_n 3, 1) := by decide +kernel
theorem dX9_workIn_76 : decode cX9_workIn 76 = .ok (.iinc 4 1, 3) := by decide +kernel
theorem dX9_workIn_79 : decode cX9_workIn 79 = .ok (.goto (-74), 3) := by decide +kernel
theorem dX9_workIn_82 : decode cX9_workIn 82 = .ok (.iload_n 3, 1) := by decide +kernel
theorem dX9_workIn_83 : decode cX9_workIn 83 = .ok (.ireturn, 1) := by decide +kernel
theorem dX9_comesTo_0 : decode cX9_comesTo 0 = .ok (.iload_n 1, 1) := by decide +kernel
theorem dX9_comesTo_1 : decode cX9_comesTo 1 = .ok (.iconst 5, 1) := by decide +kernel
theorem dX9_comesTo_2 : decode cX9_comesTo 2 = .ok (.if_icmp .ge 26, 3) := by decide +kernel
theorem dX9_comesTo_5 : decode cX9_comesTo 5 = .ok (.aload_n 0, 1) := by decide +kernel
theorem dX9_comesTo_6 : decode cX9_comesTo 6 = .ok (.iload_n 1, 1) := by decide +kernel
theorem dX9_comesTo_7 : decode cX9_comesTo 7 = .ok (.iload_n 2, 1) := by decide +kernel
theorem dX9_comesTo_8 : decode cX9_comesTo 8 = .ok (.iload_n 3, 1) := by decide +kernel
theorem dX9_comesTo_9 : decode cX9_comesTo 9 = .ok (.iconst 5, 1) := by decide +kernel
theorem dX9_comesTo_10 : decode cX9_comesTo 10 = .ok (.if_icmp .ne 7, 3) := by decide +kernel
theorem dX9_comesTo_13 : decode cX9_comesTo 13 = .ok (.iconst (-1), 1) := by decide +kernel
theorem dX9_comesTo_14 : decode cX9_comesTo 14 = .ok (.goto 4, 3) := by decide +kernel
theorem dX9_comesTo_17 : decode cX9_comesTo 17 = .ok (.iload_n 3, 1) := by decide +kernel
theorem dX9_comesTo_18 : decode cX9_comesTo 18 = .ok (.invokevirtual 171, 3) := by decide +kernel
theorem dX9_comesTo_21 : decode cX9_comesTo 21 = .ok (.ifCond .eq 7, 3) := by decide +kernel
theorem dX9_comesTo_24 : decode cX9_comesTo 24 = .ok (.iconst 1, 1) := by decide +kernel
theorem dX9_comesTo_25 : decode cX9_comesTo 25 = .ok (.goto 4, 3) := by decide +kernel
theorem dX9_comesTo_28 : decode cX9_comesTo 28 = .ok (.iconst 0, 1) := by decide +kernel
theorem dX9_comesTo_29 : decode cX9_comesTo 29 = .ok (.istore 5, 2) := by decide +kernel
theorem dX9_comesTo_31 : decode cX9_comesTo 31 = .ok (.sipush 192, 3) := by decide +kernel
theorem dX9_comesTo_34 : decode cX9_comesTo 34 = .ok (.iload_n 2, 1) := by decide +kernel
theorem dX9_comesTo_35 : decode cX9_comesTo 35 = .ok (.iconst 1, 1) := by decide +kernel
theorem dX9_comesTo_36 : decode cX9_comesTo 36 = .ok (.iadd, 1) := by decide +kernel
theorem dX9_comesTo_37 : decode cX9_comesTo 37 = .ok (.imul, 1) := by decide +kernel
theorem dX9_comesTo_38 : decode cX9_comesTo 38 = .ok (.bipush 32, 2) := by decide +kernel
theorem dX9_comesTo_40 : decode cX9_comesTo 40 = .ok (.iload_n 1, 1) := by decide +kernel
theorem dX9_comesTo_41 : decode cX9_comesTo 41 = .ok (.imul, 1) := by decide +kernel
theorem dX9_comesTo_42 : decode cX9_comesTo 42 = .ok (.iadd, 1) := by decide +kernel
theorem dX9_comesTo_43 : decode cX9_comesTo 43 = .ok (.iload 5, 2) := by decide +kernel
theorem dX9_comesTo_45 : decode cX9_comesTo 45 = .ok (.ifCond .eq 15, 3) := by decide +kernel
theorem dX9_comesTo_48 : decode cX9_comesTo 48 = .ok (.iload 4, 2) := by decide +kernel
theorem dX9_comesTo_50 : decode cX9_comesTo 50 = .ok (.aload_n 0, 1) := by decide +kernel
theorem dX9_comesTo_51 : decode cX9_comesTo 51 = .ok (.iload_n 1, 1) := by decide +kernel
theorem dX9_comesTo_52 : decode cX9_comesTo 52 = .ok (.iload_n 2, 1) := by decide +kernel
theorem dX9_comesTo_53 : decode cX9_comesTo 53 = .ok (.invokevirtual 230, 3) := by decide +kernel
theorem dX9_comesTo_56 : decode cX9_comesTo 56 = .ok (.ior, 1) := by decide +kernel
theorem dX9_comesTo_57 : decode cX9_comesTo 57 = .ok (.goto 5, 3) := by decide +kernel
theorem dX9_comesTo_60 : decode cX9_comesTo 60 = .ok (.iload 4, 2) := by decide +kernel
theorem dX9_comesTo_62 : decode cX9_comesTo 62 = .ok (.iadd, 1) := by decide +kernel
theorem dX9_comesTo_63 : decode cX9_comesTo 63 = .ok (.ireturn, 1) := by decide +kernel
theorem dX9_isChoice_0 : decode cX9_isChoice 0 = .ok (.iload_n 1, 1) := by decide +kernel
theorem dX9_isChoice_1 : decode cX9_isChoice 1 = .ok (.iconst 5, 1) := by decide +kernel
theorem dX9_isChoice_2 : decode cX9_isChoice 2 = .ok (.if_icmp .eq 11, 3) := by decide +kernel
theorem dX9_isChoice_5 : decode cX9_isChoice 5 = .ok (.aload_n 0, 1) := by decide +kernel
theorem dX9_isChoice_6 : decode cX9_isChoice 6 = .ok (.iload_n 1, 1) := by decide +kernel
theorem dX9_isChoice_7 : decode cX9_isChoice 7 = .ok (.invokevirtual 192, 3) := by decide +kernel
theorem dX9_isChoice_10 : decode cX9_isChoice 10 = .ok (.ifCond .eq 7, 3) := by decide +kernel
theorem dX9_isChoice_13 : decode cX9_isChoice 13 = .ok (.iconst 1, 1) := by decide +kernel
theorem dX9_isChoice_14 : decode cX9_isChoice 14 = .ok (.goto 4, 3) := by decide +kernel
theorem dX9_isChoice_17 : decode cX9_isChoice 17 = .ok (.iconst 0, 1) := by decide +kernel
theorem dX9_isChoice_18 : decode cX9_isChoice 18 = .ok (.ireturn, 1) := by decide +kernel
theorem dX9_laysMost_0 : decode cX9_laysMost 0 = .ok (.iconst 0, 1) := by decide +kernel
theorem dX9_laysMost_1 : decode cX9_laysMost 1 = .ok (.istore_n 1, 1) := by decide +kernel
theorem dX9_laysMost_2 : decode cX9_laysMost 2 = .ok (.iload_n 1, 1) := by decide +kernel
theorem dX9_laysMost_3 : decode cX9_laysMost 3 = .ok (.sipush 192, 3) := by decide +kernel
theorem dX9_laysMost_6 : decode cX9_laysMost 6 = .ok (.if_icmp .ge 27, 3) := by decide +kernel
theorem dX9_laysMost_9 : decode cX9_laysMost 9 = .ok (.aload_n 0, 1) := by decide +kernel
theorem dX9_laysMost_10 : decode cX9_laysMost 10 = .ok (.getfield 34, 3) := by decide +kernel
theorem dX9_laysMost_13 : decode cX9_laysMost 13 = .ok (.sipush 1920, 3) := by decide +kernel
theorem dX9_laysMost_16 : decode cX9_laysMost 16 = .ok (.iload_n 1, 1) := by decide +kernel
theorem dX9_laysMost_17 : decode cX9_laysMost 17 = .ok (.iadd, 1) := by decide +kernel
theorem dX9_laysMost_18 : decode cX9_laysMost 18 = .ok (.aload_n 0, 1) := by decide +kernel
theorem dX9_laysMost_19 : decode cX9_laysMost 19 = .ok (.iload_n 1, 1) := by decide +kernel
theorem dX9_laysMost_20 : decode cX9_laysMost 20 = .ok (.bipush 32, 2) := by decide +kernel
theorem dX9_laysMost_22 : decode cX9_laysMost 22 = .ok (.irem, 1) := by decide +kernel
theorem dX9_laysMost_23 : decode cX9_laysMost 23 = .ok (.invokevirtual 210, 3) := by decide +kernel
theorem dX9_laysMost_26 : decode cX9_laysMost 26 = .ok (.iastore, 1) := by decide +kernel
theorem dX9_laysMost_27 : decode cX9_laysMost 27 = .ok (.iinc 1 1, 3) := by decide +kernel
theorem dX9_laysMost_30 : decode cX9_laysMost 30 = .ok (.goto (-28), 3) := by decide +kernel
theorem dX9_laysMost_33 : decode cX9_laysMost 33 = .ok (.bipush 9, 2) := by decide +kernel
theorem dX9_laysMost_35 : decode cX9_laysMost 35 = .ok (.istore_n 1, 1) := by decide +kernel
theorem dX9_laysMost_36 : decode cX9_laysMost 36 = .ok (.iload_n 1, 1) := by decide +kernel
theorem dX9_laysMost_37 : decode cX9_laysMost 37 = .ok (.ifCond .lt 102, 3) := by decide +kernel
theorem dX9_laysMost_40 : decode cX9_laysMost 40 = .ok (.iconst 0, 1) := by decide +kernel
theorem dX9_laysMost_41 : decode cX9_laysMost 41 = .ok (.istore_n 2, 1) := by decide +kernel
theorem dX9_laysMost_42 : decode cX9_laysMost 42 = .ok (.iload_n 2, 1) := by decide +kernel
theorem dX9_laysMost_43 : decode cX9_laysMost 43 = .ok (.sipush 192, 3) := by decide +kernel
theorem dX9_laysMost_46 : decode cX9_laysMost 46 = .ok (.if_icmp .ge 87, 3) := by decide +kernel
theorem dX9_laysMost_49 : decode cX9_laysMost 49 = .ok (.iconst (-1), 1) := by decide +kernel
theorem dX9_laysMost_50 : decode cX9_laysMost 50 = .ok (.istore_n 3, 1) := by decide +kernel
theorem dX9_laysMost_51 : decode cX9_laysMost 51 = .ok (.iconst 0, 1) := by decide +kernel
theorem dX9_laysMost_52 : decode cX9_laysMost 52 = .ok (.istore 4, 2) := by decide +kernel
theorem dX9_laysMost_54 : decode cX9_laysMost 54 = .ok (.iload 4, 2) := by decide +kernel
theorem dX9_laysMost_56 : decode cX9_laysMost 56 = .ok (.iconst 5, 1) := by decide +kernel
theorem dX9_laysMost_57 : decode cX9_laysMost 57 = .ok (.if_icmp .gt 57, 3) := by decide +kernel
theorem dX9_laysMost_60 : decode cX9_laysMost 60 = .ok (.aload_n 0, 1) := by decide +kernel
theorem dX9_laysMost_61 : decode cX9_laysMost 61 = .ok (.iload 4, 2) := by decide +kernel
theorem dX9_laysMost_63 : decode cX9_laysMost 63 = .ok (.invokevirtual 233, 3) := by decide +kernel
theorem dX9_laysMost_66 : decode cX9_laysMost 66 = .ok (.ifCond .eq 26, 3) := by decide +kernel
theorem dX9_laysMost_69 : decode cX9_laysMost 69 = .ok (.aload_n 0, 1) := by decide +kernel
theorem dX9_laysMost_70 : decode cX9_laysMost 70 = .ok (.getfield 34, 3) := by decide +kernel
theorem dX9_laysMost_73 : decode cX9_laysMost 73 = .ok (.aload_n 0, 1) := by decide +kernel
theorem dX9_laysMost_74 : decode cX9_laysMost 74 = .ok (.iload 4, 2) := by decide +kernel
theorem dX9_laysMost_76 : decode cX9_laysMost 76 = .ok (.iload_n 1, 1) := by decide +kernel
theorem dX9_laysMost_77 : decode cX9_laysMost 77 = .ok (.iload_n 2, 1) := by decide +kernel
theorem dX9_laysMost_78 : decode cX9_laysMost 78 = .ok (.bipush 32, 2) := by decide +kernel
theorem dX9_laysMost_80 : decode cX9_laysMost 80 = .ok (.idiv, 1) := by decide +kernel
theorem dX9_laysMost_81 : decode cX9_laysMost 81 = .ok (.iload_n 2, 1) := by decide +kernel
theorem dX9_laysMost_82 : decode cX9_laysMost 82 = .ok (.bipush 32, 2) := by decide +kernel
theorem dX9_laysMost_84 : decode cX9_laysMost 84 = .ok (.irem, 1) := by decide +kernel
theorem dX9_laysMost_85 : decode cX9_laysMost 85 = .ok (.invokevirtual 236, 3) := by decide +kernel
theorem dX9_laysMost_88 : decode cX9_laysMost 88 = .ok (.iaload, 1) := by decide +kernel
theorem dX9_laysMost_89 : decode cX9_laysMost 89 = .ok (.goto 4, 3) := by decide +kernel
theorem dX9_laysMost_92 : decode cX9_laysMost 92 = .ok (.iconst (-1), 1) := by decide +kernel
theorem dX9_laysMost_93 : decode cX9_laysMost 93 = .ok (.istore 5, 2) := by decide +kernel
theorem dX9_laysMost_95 : decode cX9_laysMost 95 = .ok (.iload 5, 2) := by decide +kernel
theorem dX9_laysMost_97 : decode cX9_laysMost 97 = .ok (.iload_n 3, 1) := by decide +kernel
theorem dX9_laysMost_98 : decode cX9_laysMost 98 = .ok (.if_icmp .le 8, 3) := by decide +kernel
theorem dX9_laysMost_101 : decode cX9_laysMost 101 = .ok (.iload 5, 2) := by decide +kernel
theorem dX9_laysMost_103 : decode cX9_laysMost 103 = .ok (.goto 4, 3) := by decide +kernel
theorem dX9_laysMost_106 : decode cX9_laysMost 106 = .ok (.iload_n 3, 1) := by decide +kernel
theorem dX9_laysMost_107 : decode cX9_laysMost 107 = .ok (.istore_n 3, 1) := by decide +kernel
theorem dX9_laysMost_108 : decode cX9_laysMost 108 = .ok (.iinc 4 1, 3) := by decide +kernel
theorem dX9_laysMost_111 : decode cX9_laysMost 111 = .ok (.goto (-57), 3) := by decide +kernel
theorem dX9_laysMost_114 : decode cX9_laysMost 114 = .ok (.aload_n 0, 1) := by decide +kernel
theorem dX9_laysMost_115 : decode cX9_laysMost 115 = .ok (.getfield 34, 3) := by decide +kernel
theorem dX9_laysMost_118 : decode cX9_laysMost 118 = .ok (.sipush 192, 3) := by decide +kernel
theorem dX9_laysMost_121 : decode cX9_laysMost 121 = .ok (.iload_n 1, 1) := by decide +kernel
theorem dX9_laysMost_122 : decode cX9_laysMost 122 = .ok (.imul, 1) := by decide +kernel
theorem dX9_laysMost_123 : decode cX9_laysMost 123 = .ok (.iload_n 2, 1) := by decide +kernel
theorem dX9_laysMost_124 : decode cX9_laysMost 124 = .ok (.iadd, 1) := by decide +kernel
theorem dX9_laysMost_125 : decode cX9_laysMost 125 = .ok (.iload_n 3, 1) := by decide +kernel
theorem dX9_laysMost_126 : decode cX9_laysMost 126 = .ok (.iastore, 1) := by decide +kernel
theorem dX9_laysMost_127 : decode cX9_laysMost 127 = .ok (.iinc 2 1, 3) := by decide +kernel
theorem dX9_laysMost_130 : decode cX9_laysMost 130 = .ok (.goto (-88), 3) := by decide +kernel
theorem dX9_laysMost_133 : decode cX9_laysMost 133 = .ok (.iinc 1 (-1), 3) := by decide +kernel
theorem dX9_laysMost_136 : decode cX9_laysMost 136 = .ok (.goto (-100), 3) := by decide +kernel
theorem dX9_laysMost_139 : decode cX9_laysMost 139 = .ok (.return_, 1) := by decide +kernel
theorem dX9_best_0 : decode cX9_best 0 = .ok (.iload_n 1, 1) := by decide +kernel
theorem dX9_best_1 : decode cX9_best 1 = .ok (.ifCond .eq 19, 3) := by decide +kernel
theorem dX9_best_4 : decode cX9_best 4 = .ok (.iload_n 1, 1) := by decide +kernel
theorem dX9_best_5 : decode cX9_best 5 = .ok (.i2l, 1) := by decide +kernel
theorem dX9_best_6 : decode cX9_best 6 = .ok (.ldc2_w 240, 3) := by decide +kernel
theorem dX9_best_9 : decode cX9_best 9 = .ok (.ldc2_w 242, 3) := by decide +kernel
theorem dX9_best_12 : decode cX9_best 12 = .ok (.invokestatic 58, 3) := by decide +kernel
theorem dX9_best_15 : decode cX9_best 15 = .ok (.ifCond .ne 5, 3) := by decide +kernel
theorem dX9_best_18 : decode cX9_best 18 = .ok (.iconst (-1), 1) := by decide +kernel
theorem dX9_best_19 : decode cX9_best 19 = .ok (.ireturn, 1) := by decide +kernel
theorem dX9_best_20 : decode cX9_best 20 = .ok (.aload_n 0, 1) := by decide +kernel
theorem dX9_best_21 : decode cX9_best 21 = .ok (.invokevirtual 244, 3) := by decide +kernel
theorem dX9_best_24 : decode cX9_best 24 = .ok (.sipush 160, 3) := by decide +kernel
theorem dX9_best_27 : decode cX9_best 27 = .ok (.istore_n 2, 1) := by decide +kernel
theorem dX9_best_28 : decode cX9_best 28 = .ok (.iconst 5, 1) := by decide +kernel
theorem dX9_best_29 : decode cX9_best 29 = .ok (.istore_n 3, 1) := by decide +kernel
theorem dX9_best_30 : decode cX9_best 30 = .ok (.iconst 0, 1) := by decide +kernel
theorem dX9_best_31 : decode cX9_best 31 = .ok (.istore 4, 2) := by decide +kernel
theorem dX9_best_33 : decode cX9_best 33 = .ok (.iload 4, 2) := by decide +kernel
theorem dX9_best_35 : decode cX9_best 35 = .ok (.iload_n 1, 1) := by decide +kernel
theorem dX9_best_36 : decode cX9_best 36 = .ok (.bipush 9, 2) := by decide +kernel
theorem dX9_best_38 : decode cX9_best 38 = .ok (.isub, 1) := by decide +kernel
theorem dX9_best_39 : decode cX9_best 39 = .ok (.if_icmp .ge 108, 3) := by decide +kernel
theorem dX9_best_42 : decode cX9_best 42 = .ok (.bipush (-4), 2) := by decide +kernel
theorem dX9_best_44 : decode cX9_best 44 = .ok (.istore 5, 2) := by decide +kernel
theorem dX9_best_46 : decode cX9_best 46 = .ok (.iload_n 2, 1) := by decide +kernel
theorem dX9_best_47 : decode cX9_best 47 = .ok (.sipush 192, 3) := by decide +kernel
theorem dX9_best_50 : decode cX9_best 50 = .ok (.iload 4, 2) := by decide +kernel
theorem dX9_best_52 : decode cX9_best 52 = .ok (.imul, 1) := by decide +kernel
theorem dX9_best_53 : decode cX9_best 53 = .ok (.isub, 1) := by decide +kernel
theorem dX9_best_54 : decode cX9_best 54 = .ok (.istore 6, 2) := by decide +kernel
theorem dX9_best_56 : decode cX9_best 56 = .ok (.iconst 5, 1) := by decide +kernel
theorem dX9_best_57 : decode cX9_best 57 = .ok (.istore 7, 2) := by decide +kernel
theorem dX9_best_59 : decode cX9_best 59 = .ok (.iload 7, 2) := by decide +kernel
theorem dX9_best_61 : decode cX9_best 61 = .ok (.ifCond .lt 59, 3) := by decide +kernel
theorem dX9_best_64 : decode cX9_best 64 = .ok (.aload_n 0, 1) := by decide +kernel
theorem dX9_best_65 : decode cX9_best 65 = .ok (.iload 7, 2) := by decide +kernel
theorem dX9_best_67 : decode cX9_best 67 = .ok (.invokevirtual 233, 3) := by decide +kernel
theorem dX9_best_70 : decode cX9_best 70 = .ok (.ifCond .eq 40, 3) := by decide +kernel
theorem dX9_best_73 : decode cX9_best 73 = .ok (.aload_n 0, 1) := by decide +kernel
theorem dX9_best_74 : decode cX9_best 74 = .ok (.getfield 34, 3) := by decide +kernel
theorem dX9_best_77 : decode cX9_best 77 = .ok (.aload_n 0, 1) := by decide +kernel
theorem dX9_best_78 : decode cX9_best 78 = .ok (.iload 7, 2) := by decide +kernel
theorem dX9_best_80 : decode cX9_best 80 = .ok (.iload 4, 2) := by decide +kernel
theorem dX9_best_82 : decode cX9_best 82 = .ok (.iload 6, 2) := by decide +kernel
theorem dX9_best_84 : decode cX9_best 84 = .ok (.bipush 32, 2) := by decide +kernel
theorem dX9_best_86 : decode cX9_best 86 = .ok (.idiv, 1) := by decide +kernel
theorem dX9_best_87 : decode cX9_best 87 = .ok (.iload 6, 2) := by decide +kernel
theorem dX9_best_89 : decode cX9_best 89 = .ok (.bipush 32, 2) := by decide +kernel
theorem dX9_best_91 : decode cX9_best 91 = .ok (.irem, 1) := by decide +kernel
theorem dX9_best_92 : decode cX9_best 92 = .ok (.invokevirtual 236, 3) := by decide +kernel
theorem dX9_best_95 : decode cX9_best 95 = .ok (.iaload, 1) := by decide +kernel
theorem dX9_best_96 : decode cX9_best 96 = .ok (.aload_n 0, 1) := by decide +kernel
theorem dX9_best_97 : decode cX9_best 97 = .ok (.getfield 34, 3) := by decide +kernel
theorem dX9_best_100 : decode cX9_best 100 = .ok (.iload_n 2, 1) := by decide +kernel
theorem dX9_best_101 : decode cX9_best 101 = .ok (.iaload, 1) := by decide +kernel
theorem dX9_best_102 : decode cX9_best 102 = .ok (.if_icmp .ne 8, 3) := by decide +kernel
theorem dX9_best_105 : decode cX9_best 105 = .ok (.iload 7, 2) := by decide +kernel
theorem dX9_best_107 : decode cX9_best 107 = .ok (.goto 5, 3) := by decide +kernel
theorem dX9_best_110 : decode cX9_best 110 = .ok (.iload 5, 2) := by decide +kernel
theorem dX9_best_112 : decode cX9_best 112 = .ok (.istore 5, 2) := by decide +kernel
theorem dX9_best_114 : decode cX9_best 114 = .ok (.iinc 7 (-1), 3) := by decide +kernel
theorem dX9_best_117 : decode cX9_best 117 = .ok (.goto (-58), 3) := by decide +kernel
theorem dX9_best_120 : decode cX9_best 120 = .ok (.iload 5, 2) := by decide +kernel
theorem dX9_best_122 : decode cX9_best 122 = .ok (.istore_n 3, 1) := by decide +kernel
theorem dX9_best_123 : decode cX9_best 123 = .ok (.aload_n 0, 1) := by decide +kernel
theorem dX9_best_124 : decode cX9_best 124 = .ok (.iload_n 3, 1) := by decide +kernel
theorem dX9_best_125 : decode cX9_best 125 = .ok (.iload 4, 2) := by decide +kernel
theorem dX9_best_127 : decode cX9_best 127 = .ok (.iload 6, 2) := by decide +kernel
theorem dX9_best_129 : decode cX9_best 129 = .ok (.bipush 32, 2) := by decide +kernel
theorem dX9_best_131 : decode cX9_best 131 = .ok (.idiv, 1) := by decide +kernel
theorem dX9_best_132 : decode cX9_best 132 = .ok (.iload 6, 2) := by decide +kernel
theorem dX9_best_134 : decode cX9_best 134 = .ok (.bipush 32, 2) := by decide +kernel
theorem dX9_best_136 : decode cX9_best 136 = .ok (.irem, 1) := by decide +kernel
theorem dX9_best_137 : decode cX9_best 137 = .ok (.invokevirtual 236, 3) := by decide +kernel
theorem dX9_best_140 : decode cX9_best 140 = .ok (.istore_n 2, 1) := by decide +kernel
theorem dX9_best_141 : decode cX9_best 141 = .ok (.iinc 4 1, 3) := by decide +kernel
theorem dX9_best_144 : decode cX9_best 144 = .ok (.goto (-111), 3) := by decide +kernel
theorem dX9_best_147 : decode cX9_best 147 = .ok (.iload_n 1, 1) := by decide +kernel
theorem dX9_best_148 : decode cX9_best 148 = .ok (.ifCond .ne 12, 3) := by decide +kernel
theorem dX9_best_151 : decode cX9_best 151 = .ok (.aload_n 0, 1) := by decide +kernel
theorem dX9_best_152 : decode cX9_best 152 = .ok (.getfield 34, 3) := by decide +kernel
theorem dX9_best_155 : decode cX9_best 155 = .ok (.iload_n 2, 1) := by decide +kernel
theorem dX9_best_156 : decode cX9_best 156 = .ok (.iaload, 1) := by decide +kernel
theorem dX9_best_157 : decode cX9_best 157 = .ok (.goto 14, 3) := by decide +kernel
theorem dX9_best_160 : decode cX9_best 160 = .ok (.iload_n 3, 1) := by decide +kernel
theorem dX9_best_161 : decode cX9_best 161 = .ok (.iconst 5, 1) := by decide +kernel
theorem dX9_best_162 : decode cX9_best 162 = .ok (.if_icmp .ne 8, 3) := by decide +kernel
theorem dX9_best_165 : decode cX9_best 165 = .ok (.bipush (-4), 2) := by decide +kernel
theorem dX9_best_167 : decode cX9_best 167 = .ok (.goto 4, 3) := by decide +kernel
theorem dX9_best_170 : decode cX9_best 170 = .ok (.iload_n 3, 1) := by decide +kernel
theorem dX9_best_171 : decode cX9_best 171 = .ok (.ireturn, 1) := by decide +kernel
theorem dX9_swap_0 : decode cX9_swap 0 = .ok (.iload_n 1, 1) := by decide +kernel
theorem dX9_swap_1 : decode cX9_swap 1 = .ok (.i2l, 1) := by decide +kernel
theorem dX9_swap_2 : decode cX9_swap 2 = .ok (.lconst 0, 1) := by decide +kernel
theorem dX9_swap_3 : decode cX9_swap 3 = .ok (.lconst 1, 1) := by decide +kernel
theorem dX9_swap_4 : decode cX9_swap 4 = .ok (.invokestatic 58, 3) := by decide +kernel
theorem dX9_swap_7 : decode cX9_swap 7 = .ok (.ifCond .ne 5, 3) := by decide +kernel
theorem dX9_swap_10 : decode cX9_swap 10 = .ok (.iconst (-1), 1) := by decide +kernel
theorem dX9_swap_11 : decode cX9_swap 11 = .ok (.ireturn, 1) := by decide +kernel
theorem dX9_swap_12 : decode cX9_swap 12 = .ok (.aload_n 0, 1) := by decide +kernel
theorem dX9_swap_13 : decode cX9_swap 13 = .ok (.invokevirtual 247, 3) := by decide +kernel
theorem dX9_swap_16 : decode cX9_swap 16 = .ok (.istore_n 2, 1) := by decide +kernel
theorem dX9_swap_17 : decode cX9_swap 17 = .ok (.bipush (-4), 2) := by decide +kernel
theorem dX9_swap_19 : decode cX9_swap 19 = .ok (.istore_n 3, 1) := by decide +kernel
theorem dX9_swap_20 : decode cX9_swap 20 = .ok (.iconst 0, 1) := by decide +kernel
theorem dX9_swap_21 : decode cX9_swap 21 = .ok (.istore 4, 2) := by decide +kernel
theorem dX9_swap_23 : decode cX9_swap 23 = .ok (.iload 4, 2) := by decide +kernel
theorem dX9_swap_25 : decode cX9_swap 25 = .ok (.bipush 10, 2) := by decide +kernel
theorem dX9_swap_27 : decode cX9_swap 27 = .ok (.if_icmp .ge 138, 3) := by decide +kernel
theorem dX9_swap_30 : decode cX9_swap 30 = .ok (.iload 4, 2) := by decide +kernel
theorem dX9_swap_32 : decode cX9_swap 32 = .ok (.iconst 1, 1) := by decide +kernel
theorem dX9_swap_33 : decode cX9_swap 33 = .ok (.iadd, 1) := by decide +kernel
theorem dX9_swap_34 : decode cX9_swap 34 = .ok (.istore 5, 2) := by decide +kernel
theorem dX9_swap_36 : decode cX9_swap 36 = .ok (.iload 5, 2) := by decide +kernel
theorem dX9_swap_38 : decode cX9_swap 38 = .ok (.bipush 10, 2) := by decide +kernel
theorem dX9_swap_40 : decode cX9_swap 40 = .ok (.if_icmp .ge 119, 3) := by decide +kernel
