theorem dX0_init_0 : decode cX0_init 0 = .ok (.aload_n 0, 1) := by decide +kernel
theorem dX0_init_1 : decode cX0_init 1 = .ok (.invokespecial 3, 3) := by decide +kernel
theorem dX0_init_4 : decode cX0_init 4 = .ok (.aload_n 0, 1) := by decide +kernel
theorem dX0_init_5 : decode cX0_init 5 = .ok (.sipush 150, 3) := by decide +kernel
theorem dX0_init_8 : decode cX0_init 8 = .ok (.newarray .int, 2) := by decide +kernel
theorem dX0_init_10 : decode cX0_init 10 = .ok (.putfield 11, 3) := by decide +kernel
theorem dX0_init_13 : decode cX0_init 13 = .ok (.aload_n 0, 1) := by decide +kernel
theorem dX0_init_14 : decode cX0_init 14 = .ok (.sipush 150, 3) := by decide +kernel
theorem dX0_init_17 : decode cX0_init 17 = .ok (.newarray .int, 2) := by decide +kernel
theorem dX0_init_19 : decode cX0_init 19 = .ok (.putfield 15, 3) := by decide +kernel
theorem dX0_init_22 : decode cX0_init 22 = .ok (.return_, 1) := by decide +kernel
theorem dX0_placeOf_0 : decode cX0_placeOf 0 = .ok (.iload_n 2, 1) := by decide +kernel
theorem dX0_placeOf_1 : decode cX0_placeOf 1 = .ok (.iconst 5, 1) := by decide +kernel
theorem dX0_placeOf_2 : decode cX0_placeOf 2 = .ok (.imul, 1) := by decide +kernel
theorem dX0_placeOf_3 : decode cX0_placeOf 3 = .ok (.iload_n 0, 1) := by decide +kernel
theorem dX0_placeOf_4 : decode cX0_placeOf 4 = .ok (.iadd, 1) := by decide +kernel
theorem dX0_placeOf_5 : decode cX0_placeOf 5 = .ok (.iconst 3, 1) := by decide +kernel
theorem dX0_placeOf_6 : decode cX0_placeOf 6 = .ok (.imul, 1) := by decide +kernel
theorem dX0_placeOf_7 : decode cX0_placeOf 7 = .ok (.iload_n 1, 1) := by decide +kernel
theorem dX0_placeOf_8 : decode cX0_placeOf 8 = .ok (.iadd, 1) := by decide +kernel
theorem dX0_placeOf_9 : decode cX0_placeOf 9 = .ok (.ireturn, 1) := by decide +kernel
theorem dX0_live_0 : decode cX0_live 0 = .ok (.iconst 0, 1) := by decide +kernel
theorem dX0_live_1 : decode cX0_live 1 = .ok (.istore_n 3, 1) := by decide +kernel
theorem dX0_live_2 : decode cX0_live 2 = .ok (.iload_n 3, 1) := by decide +kernel
theorem dX0_live_3 : decode cX0_live 3 = .ok (.bipush 10, 2) := by decide +kernel
theorem dX0_live_5 : decode cX0_live 5 = .ok (.if_icmp .ge 28, 3) := by decide +kernel
theorem dX0_live_8 : decode cX0_live 8 = .ok (.aload_n 0, 1) := by decide +kernel
theorem dX0_live_9 : decode cX0_live 9 = .ok (.aload_n 1, 1) := by decide +kernel
theorem dX0_live_10 : decode cX0_live 10 = .ok (.iload_n 3, 1) := by decide +kernel
theorem dX0_live_11 : decode cX0_live 11 = .ok (.invokevirtual 18, 3) := by decide +kernel
theorem dX0_live_14 : decode cX0_live 14 = .ok (.aload_n 0, 1) := by decide +kernel
theorem dX0_live_15 : decode cX0_live 15 = .ok (.aload_n 1, 1) := by decide +kernel
theorem dX0_live_16 : decode cX0_live 16 = .ok (.aload_n 2, 1) := by decide +kernel
theorem dX0_live_17 : decode cX0_live 17 = .ok (.iload_n 3, 1) := by decide +kernel
theorem dX0_live_18 : decode cX0_live 18 = .ok (.invokevirtual 22, 3) := by decide +kernel
theorem dX0_live_21 : decode cX0_live 21 = .ok (.aload_n 0, 1) := by decide +kernel
theorem dX0_live_22 : decode cX0_live 22 = .ok (.aload_n 1, 1) := by decide +kernel
theorem dX0_live_23 : decode cX0_live 23 = .ok (.iload_n 3, 1) := by decide +kernel
theorem dX0_live_24 : decode cX0_live 24 = .ok (.invokevirtual 26, 3) := by decide +kernel
theorem dX0_live_27 : decode cX0_live 27 = .ok (.iinc 3 1, 3) := by decide +kernel
theorem dX0_live_30 : decode cX0_live 30 = .ok (.goto (-28), 3) := by decide +kernel
theorem dX0_live_33 : decode cX0_live 33 = .ok (.return_, 1) := by decide +kernel
theorem dX0_growOlder_0 : decode cX0_growOlder 0 = .ok (.iconst 0, 1) := by decide +kernel
theorem dX0_growOlder_1 : decode cX0_growOlder 1 = .ok (.istore_n 3, 1) := by decide +kernel
theorem dX0_growOlder_2 : decode cX0_growOlder 2 = .ok (.iload_n 3, 1) := by decide +kernel
theorem dX0_growOlder_3 : decode cX0_growOlder 3 = .ok (.iconst 5, 1) := by decide +kernel
theorem dX0_growOlder_4 : decode cX0_growOlder 4 = .ok (.if_icmp .ge 132, 3) := by decide +kernel
theorem dX0_growOlder_7 : decode cX0_growOlder 7 = .ok (.aload_n 1, 1) := by decide +kernel
theorem dX0_growOlder_8 : decode cX0_growOlder 8 = .ok (.iload_n 3, 1) := by decide +kernel
theorem dX0_growOlder_9 : decode cX0_growOlder 9 = .ok (.invokevirtual 29, 3) := by decide +kernel
theorem dX0_growOlder_12 : decode cX0_growOlder 12 = .ok (.istore 4, 2) := by decide +kernel
theorem dX0_growOlder_14 : decode cX0_growOlder 14 = .ok (.iconst 0, 1) := by decide +kernel
theorem dX0_growOlder_15 : decode cX0_growOlder 15 = .ok (.istore 5, 2) := by decide +kernel
theorem dX0_growOlder_17 : decode cX0_growOlder 17 = .ok (.iload 5, 2) := by decide +kernel
theorem dX0_growOlder_19 : decode cX0_growOlder 19 = .ok (.iconst 3, 1) := by decide +kernel
theorem dX0_growOlder_20 : decode cX0_growOlder 20 = .ok (.if_icmp .ge 110, 3) := by decide +kernel
theorem dX0_growOlder_23 : decode cX0_growOlder 23 = .ok (.iload_n 3, 1) := by decide +kernel
theorem dX0_growOlder_24 : decode cX0_growOlder 24 = .ok (.iload 5, 2) := by decide +kernel
theorem dX0_growOlder_26 : decode cX0_growOlder 26 = .ok (.iload_n 2, 1) := by decide +kernel
theorem dX0_growOlder_27 : decode cX0_growOlder 27 = .ok (.invokestatic 35, 3) := by decide +kernel
theorem dX0_growOlder_30 : decode cX0_growOlder 30 = .ok (.istore 6, 2) := by decide +kernel
theorem dX0_growOlder_32 : decode cX0_growOlder 32 = .ok (.iload 6, 2) := by decide +kernel
theorem dX0_growOlder_34 : decode cX0_growOlder 34 = .ok (.bipush 15, 2) := by decide +kernel
theorem dX0_growOlder_36 : decode cX0_growOlder 36 = .ok (.isub, 1) := by decide +kernel
theorem dX0_growOlder_37 : decode cX0_growOlder 37 = .ok (.istore 7, 2) := by decide +kernel
theorem dX0_growOlder_39 : decode cX0_growOlder 39 = .ok (.iload_n 2, 1) := by decide +kernel
theorem dX0_growOlder_40 : decode cX0_growOlder 40 = .ok (.ifCond .le 31, 3) := by decide +kernel
theorem dX0_growOlder_43 : decode cX0_growOlder 43 = .ok (.aload_n 0, 1) := by decide +kernel
theorem dX0_growOlder_44 : decode cX0_growOlder 44 = .ok (.getfield 11, 3) := by decide +kernel
theorem dX0_growOlder_47 : decode cX0_growOlder 47 = .ok (.iload 7, 2) := by decide +kernel
theorem dX0_growOlder_49 : decode cX0_growOlder 49 = .ok (.iaload, 1) := by decide +kernel
theorem dX0_growOlder_50 : decode cX0_growOlder 50 = .ok (.bipush (-4), 2) := by decide +kernel
theorem dX0_growOlder_52 : decode cX0_growOlder 52 = .ok (.if_icmp .eq 19, 3) := by decide +kernel
theorem dX0_growOlder_55 : decode cX0_growOlder 55 = .ok (.aload_n 0, 1) := by decide +kernel
theorem dX0_growOlder_56 : decode cX0_growOlder 56 = .ok (.getfield 15, 3) := by decide +kernel
theorem dX0_growOlder_59 : decode cX0_growOlder 59 = .ok (.iload 7, 2) := by decide +kernel
theorem dX0_growOlder_61 : decode cX0_growOlder 61 = .ok (.iaload, 1) := by decide +kernel
theorem dX0_growOlder_62 : decode cX0_growOlder 62 = .ok (.iload 4, 2) := by decide +kernel
theorem dX0_growOlder_64 : decode cX0_growOlder 64 = .ok (.if_icmp .ge 7, 3) := by decide +kernel
theorem dX0_growOlder_67 : decode cX0_growOlder 67 = .ok (.iconst 1, 1) := by decide +kernel
theorem dX0_growOlder_68 : decode cX0_growOlder 68 = .ok (.goto 4, 3) := by decide +kernel
theorem dX0_growOlder_71 : decode cX0_growOlder 71 = .ok (.iconst 0, 1) := by decide +kernel
theorem dX0_growOlder_72 : decode cX0_growOlder 72 = .ok (.istore 8, 2) := by decide +kernel
theorem dX0_growOlder_74 : decode cX0_growOlder 74 = .ok (.aload_n 0, 1) := by decide +kernel
theorem dX0_growOlder_75 : decode cX0_growOlder 75 = .ok (.getfield 11, 3) := by decide +kernel
theorem dX0_growOlder_78 : decode cX0_growOlder 78 = .ok (.iload 6, 2) := by decide +kernel
theorem dX0_growOlder_80 : decode cX0_growOlder 80 = .ok (.iload 8, 2) := by decide +kernel
theorem dX0_growOlder_82 : decode cX0_growOlder 82 = .ok (.ifCond .eq 13, 3) := by decide +kernel
theorem dX0_growOlder_85 : decode cX0_growOlder 85 = .ok (.aload_n 0, 1) := by decide +kernel
theorem dX0_growOlder_86 : decode cX0_growOlder 86 = .ok (.getfield 11, 3) := by decide +kernel
theorem dX0_growOlder_89 : decode cX0_growOlder 89 = .ok (.iload 7, 2) := by decide +kernel
theorem dX0_growOlder_91 : decode cX0_growOlder 91 = .ok (.iaload, 1) := by decide +kernel
theorem dX0_growOlder_92 : decode cX0_growOlder 92 = .ok (.goto 5, 3) := by decide +kernel
theorem dX0_growOlder_95 : decode cX0_growOlder 95 = .ok (.bipush (-4), 2) := by decide +kernel
theorem dX0_growOlder_97 : decode cX0_growOlder 97 = .ok (.iastore, 1) := by decide +kernel
theorem dX0_growOlder_98 : decode cX0_growOlder 98 = .ok (.aload_n 0, 1) := by decide +kernel
theorem dX0_growOlder_99 : decode cX0_growOlder 99 = .ok (.getfield 15, 3) := by decide +kernel
theorem dX0_growOlder_102 : decode cX0_growOlder 102 = .ok (.iload 6, 2) := by decide +kernel
theorem dX0_growOlder_104 : decode cX0_growOlder 104 = .ok (.iload 8, 2) := by decide +kernel
theorem dX0_growOlder_106 : decode cX0_growOlder 106 = .ok (.ifCond .eq 15, 3) := by decide +kernel
theorem dX0_growOlder_109 : decode cX0_growOlder 109 = .ok (.aload_n 0, 1) := by decide +kernel
theorem dX0_growOlder_110 : decode cX0_growOlder 110 = .ok (.getfield 15, 3) := by decide +kernel
theorem dX0_growOlder_113 : decode cX0_growOlder 113 = .ok (.iload 7, 2) := by decide +kernel
theorem dX0_growOlder_115 : decode cX0_growOlder 115 = .ok (.iaload, 1) := by decide +kernel
theorem dX0_growOlder_116 : decode cX0_growOlder 116 = .ok (.iconst 1, 1) := by decide +kernel
theorem dX0_growOlder_117 : decode cX0_growOlder 117 = .ok (.iadd, 1) := by decide +kernel
theorem dX0_growOlder_118 : decode cX0_growOlder 118 = .ok (.goto 5, 3) := by decide +kernel
theorem dX0_growOlder_121 : decode cX0_growOlder 121 = .ok (.bipush (-4), 2) := by decide +kernel
theorem dX0_growOlder_123 : decode cX0_growOlder 123 = .ok (.iastore, 1) := by decide +kernel
theorem dX0_growOlder_124 : decode cX0_growOlder 124 = .ok (.iinc 5 1, 3) := by decide +kernel
theorem dX0_growOlder_127 : decode cX0_growOlder 127 = .ok (.goto (-110), 3) := by decide +kernel
theorem dX0_growOlder_130 : decode cX0_growOlder 130 = .ok (.iinc 3 1, 3) := by decide +kernel
theorem dX0_growOlder_133 : decode cX0_growOlder 133 = .ok (.goto (-131), 3) := by decide +kernel
theorem dX0_growOlder_136 : decode cX0_growOlder 136 = .ok (.return_, 1) := by decide +kernel
theorem dX0_lookOut_0 : decode cX0_lookOut 0 = .ok (.aload_n 1, 1) := by decide +kernel
theorem dX0_lookOut_1 : decode cX0_lookOut 1 = .ok (.aload_n 2, 1) := by decide +kernel
theorem dX0_lookOut_2 : decode cX0_lookOut 2 = .ok (.iload_n 3, 1) := by decide +kernel
theorem dX0_lookOut_3 : decode cX0_lookOut 3 = .ok (.invokestatic 39, 3) := by decide +kernel
theorem dX0_lookOut_6 : decode cX0_lookOut 6 = .ok (.istore 4, 2) := by decide +kernel
theorem dX0_lookOut_8 : decode cX0_lookOut 8 = .ok (.aload_n 1, 1) := by decide +kernel
theorem dX0_lookOut_9 : decode cX0_lookOut 9 = .ok (.iload 4, 2) := by decide +kernel
theorem dX0_lookOut_11 : decode cX0_lookOut 11 = .ok (.invokevirtual 45, 3) := by decide +kernel
theorem dX0_lookOut_14 : decode cX0_lookOut 14 = .ok (.ifCond .eq 31, 3) := by decide +kernel
theorem dX0_lookOut_17 : decode cX0_lookOut 17 = .ok (.aload_n 1, 1) := by decide +kernel
theorem dX0_lookOut_18 : decode cX0_lookOut 18 = .ok (.iload 4, 2) := by decide +kernel
theorem dX0_lookOut_20 : decode cX0_lookOut 20 = .ok (.invokevirtual 49, 3) := by decide +kernel
theorem dX0_lookOut_23 : decode cX0_lookOut 23 = .ok (.istore 5, 2) := by decide +kernel
theorem dX0_lookOut_25 : decode cX0_lookOut 25 = .ok (.aload_n 0, 1) := by decide +kernel
theorem dX0_lookOut_26 : decode cX0_lookOut 26 = .ok (.iload 4, 2) := by decide +kernel
theorem dX0_lookOut_28 : decode cX0_lookOut 28 = .ok (.iload 5, 2) := by decide +kernel
theorem dX0_lookOut_30 : decode cX0_lookOut 30 = .ok (.iload_n 3, 1) := by decide +kernel
theorem dX0_lookOut_31 : decode cX0_lookOut 31 = .ok (.invokestatic 35, 3) := by decide +kernel
theorem dX0_lookOut_34 : decode cX0_lookOut 34 = .ok (.aload_n 1, 1) := by decide +kernel
theorem dX0_lookOut_35 : decode cX0_lookOut 35 = .ok (.iload 5, 2) := by decide +kernel
theorem dX0_lookOut_37 : decode cX0_lookOut 37 = .ok (.iload_n 3, 1) := by decide +kernel
theorem dX0_lookOut_38 : decode cX0_lookOut 38 = .ok (.invokevirtual 52, 3) := by decide +kernel
theorem dX0_lookOut_41 : decode cX0_lookOut 41 = .ok (.iconst 0, 1) := by decide +kernel
theorem dX0_lookOut_42 : decode cX0_lookOut 42 = .ok (.invokevirtual 56, 3) := by decide +kernel
theorem dX0_lookOut_45 : decode cX0_lookOut 45 = .ok (.return_, 1) := by decide +kernel
theorem dX0_passOn_0 : decode cX0_passOn 0 = .ok (.iconst 0, 1) := by decide +kernel
theorem dX0_passOn_1 : decode cX0_passOn 1 = .ok (.istore_n 3, 1) := by decide +kernel
theorem dX0_passOn_2 : decode cX0_passOn 2 = .ok (.iload_n 3, 1) := by decide +kernel
theorem dX0_passOn_3 : decode cX0_passOn 3 = .ok (.aload_n 1, 1) := by decide +kernel
theorem dX0_passOn_4 : decode cX0_passOn 4 = .ok (.getfield 60, 3) := by decide +kernel
theorem dX0_passOn_7 : decode cX0_passOn 7 = .ok (.getfield 64, 3) := by decide +kernel
theorem dX0_passOn_10 : decode cX0_passOn 10 = .ok (.if_icmp .ge 96, 3) := by decide +kernel
theorem dX0_passOn_13 : decode cX0_passOn 13 = .ok (.aload_n 1, 1) := by decide +kernel
theorem dX0_passOn_14 : decode cX0_passOn 14 = .ok (.getfield 60, 3) := by decide +kernel
theorem dX0_passOn_17 : decode cX0_passOn 17 = .ok (.iload_n 3, 1) := by decide +kernel
theorem dX0_passOn_18 : decode cX0_passOn 18 = .ok (.iconst 0, 1) := by decide +kernel
theorem dX0_passOn_19 : decode cX0_passOn 19 = .ok (.invokevirtual 70, 3) := by decide +kernel
theorem dX0_passOn_22 : decode cX0_passOn 22 = .ok (.iload_n 2, 1) := by decide +kernel
theorem dX0_passOn_23 : decode cX0_passOn 23 = .ok (.if_icmp .ne 77, 3) := by decide +kernel
theorem dX0_passOn_26 : decode cX0_passOn 26 = .ok (.aload_n 1, 1) := by decide +kernel
theorem dX0_passOn_27 : decode cX0_passOn 27 = .ok (.getfield 60, 3) := by decide +kernel
theorem dX0_passOn_30 : decode cX0_passOn 30 = .ok (.iload_n 3, 1) := by decide +kernel
theorem dX0_passOn_31 : decode cX0_passOn 31 = .ok (.iconst 3, 1) := by decide +kernel
theorem dX0_passOn_32 : decode cX0_passOn 32 = .ok (.invokevirtual 70, 3) := by decide +kernel
theorem dX0_passOn_35 : decode cX0_passOn 35 = .ok (.istore 4, 2) := by decide +kernel
theorem dX0_passOn_37 : decode cX0_passOn 37 = .ok (.aload_n 1, 1) := by decide +kernel
theorem dX0_passOn_38 : decode cX0_passOn 38 = .ok (.getfield 60, 3) := by decide +kernel
theorem dX0_passOn_41 : decode cX0_passOn 41 = .ok (.iload_n 3, 1) := by decide +kernel
theorem dX0_passOn_42 : decode cX0_passOn 42 = .ok (.iconst 1, 1) := by decide +kernel
theorem dX0_passOn_43 : decode cX0_passOn 43 = .ok (.invokevirtual 70, 3) := by decide +kernel
theorem dX0_passOn_46 : decode cX0_passOn 46 = .ok (.istore 5, 2) := by decide +kernel
theorem dX0_passOn_48 : decode cX0_passOn 48 = .ok (.aload_n 0, 1) := by decide +kernel
theorem dX0_passOn_49 : decode cX0_passOn 49 = .ok (.iload 5, 2) := by decide +kernel
theorem dX0_passOn_51 : decode cX0_passOn 51 = .ok (.iload 4, 2) := by decide +kernel
theorem dX0_passOn_53 : decode cX0_passOn 53 = .ok (.iload_n 2, 1) := by decide +kernel
theorem dX0_passOn_54 : decode cX0_passOn 54 = .ok (.invokevirtual 73, 3) := by decide +kernel
theorem dX0_passOn_57 : decode cX0_passOn 57 = .ok (.istore 6, 2) := by decide +kernel
theorem dX0_passOn_59 : decode cX0_passOn 59 = .ok (.iload 6, 2) := by decide +kernel
theorem dX0_passOn_61 : decode cX0_passOn 61 = .ok (.bipush (-4), 2) := by decide +kernel
theorem dX0_passOn_63 : decode cX0_passOn 63 = .ok (.if_icmp .eq 37, 3) := by decide +kernel
theorem dX0_passOn_66 : decode cX0_passOn 66 = .ok (.aload_n 1, 1) := by decide +kernel
theorem dX0_passOn_67 : decode cX0_passOn 67 = .ok (.getfield 60, 3) := by decide +kernel
theorem dX0_passOn_70 : decode cX0_passOn 70 = .ok (.iload_n 3, 1) := by decide +kernel
theorem dX0_passOn_71 : decode cX0_passOn 71 = .ok (.iconst 2, 1) := by decide +kernel
theorem dX0_passOn_72 : decode cX0_passOn 72 = .ok (.invokevirtual 70, 3) := by decide +kernel
theorem dX0_passOn_75 : decode cX0_passOn 75 = .ok (.istore 7, 2) := by decide +kernel
theorem dX0_passOn_77 : decode cX0_passOn 77 = .ok (.aload_n 0, 1) := by decide +kernel
theorem dX0_passOn_78 : decode cX0_passOn 78 = .ok (.iload 7, 2) := by decide +kernel
theorem dX0_passOn_80 : decode cX0_passOn 80 = .ok (.iload 4, 2) := by decide +kernel
theorem dX0_passOn_82 : decode cX0_passOn 82 = .ok (.iload_n 2, 1) := by decide +kernel
theorem dX0_passOn_83 : decode cX0_passOn 83 = .ok (.invokestatic 35, 3) := by decide +kernel
theorem dX0_passOn_86 : decode cX0_passOn 86 = .ok (.iload 6, 2) := by decide +kernel
theorem dX0_passOn_88 : decode cX0_passOn 88 = .ok (.aload_n 0, 1) := by decide +kernel
theorem dX0_passOn_89 : decode cX0_passOn 89 = .ok (.iload 5, 2) := by decide +kernel
theorem dX0_passOn_91 : decode cX0_passOn 91 = .ok (.iload 4, 2) := by decide +kernel
theorem dX0_passOn_93 : decode cX0_passOn 93 = .ok (.iload_n 2, 1) := by decide +kernel
theorem dX0_passOn_94 : decode cX0_passOn 94 = .ok (.invokevirtual 76, 3) := by decide +kernel
theorem dX0_passOn_97 : decode cX0_passOn 97 = .ok (.invokevirtual 56, 3) := by decide +kernel
theorem dX0_passOn_100 : decode cX0_passOn 100 = .ok (.iinc 3 1, 3) := by decide +kernel
theorem dX0_passOn_103 : decode cX0_passOn 103 = .ok (.goto (-101), 3) := by decide +kernel
theorem dX0_passOn_106 : decode cX0_passOn 106 = .ok (.return_, 1) := by decide +kernel
theorem dX0_believe_0 : decode cX0_believe 0 = .ok (.iload_n 1, 1) := by decide +kernel
theorem dX0_believe_1 : decode cX0_believe 1 = .ok (.ifCond .lt 26, 3) := by decide +kernel
theorem dX0_believe_4 : decode cX0_believe 4 = .ok (.iload_n 1, 1) := by decide +kernel
theorem dX0_believe_5 : decode cX0_believe 5 = .ok (.aload_n 0, 1) := by decide +kernel
theorem dX0_believe_6 : decode cX0_believe 6 = .ok (.getfield 11, 3) := by decide +kernel
theorem dX0_believe_9 : decode cX0_believe 9 = .ok (.arraylength, 1) := by decide +kernel
theorem dX0_believe_10 : decode cX0_believe 10 = .ok (.if_icmp .ge 17, 3) := by decide +kernel
theorem dX0_believe_13 : decode cX0_believe 13 = .ok (.aload_n 0, 1) := by decide +kernel
theorem dX0_believe_14 : decode cX0_believe 14 = .ok (.getfield 11, 3) := by decide +kernel
theorem dX0_believe_17 : decode cX0_believe 17 = .ok (.iload_n 1, 1) := by decide +kernel
theorem dX0_believe_18 : decode cX0_believe 18 = .ok (.iload_n 2, 1) := by decide +kernel
theorem dX0_believe_19 : decode cX0_believe 19 = .ok (.iastore, 1) := by decide +kernel
theorem dX0_believe_20 : decode cX0_believe 20 = .ok (.aload_n 0, 1) := by decide +kernel
theorem dX0_believe_21 : decode cX0_believe 21 = .ok (.getfield 15, 3) := by decide +kernel
theorem dX0_believe_24 : decode cX0_believe 24 = .ok (.iload_n 1, 1) := by decide +kernel
theorem dX0_believe_25 : decode cX0_believe 25 = .ok (.iload_n 3, 1) := by decide +kernel
theorem dX0_believe_26 : decode cX0_believe 26 = .ok (.iastore, 1) := by decide +kernel
theorem dX0_believe_27 : decode cX0_believe 27 = .ok (.return_, 1) := by decide +kernel
theorem dX0_valueOf_0 : decode cX0_valueOf 0 = .ok (.iload_n 1, 1) := by decide +kernel
theorem dX0_valueOf_1 : decode cX0_valueOf 1 = .ok (.iload_n 2, 1) := by decide +kernel
theorem dX0_valueOf_2 : decode cX0_valueOf 2 = .ok (.iload_n 3, 1) := by decide +kernel
theorem dX0_valueOf_3 : decode cX0_valueOf 3 = .ok (.invokestatic 35, 3) := by decide +kernel
theorem dX0_valueOf_6 : decode cX0_valueOf 6 = .ok (.istore 4, 2) := by decide +kernel
theorem dX0_valueOf_8 : decode cX0_valueOf 8 = .ok (.iload 4, 2) := by decide +kernel
theorem dX0_valueOf_10 : decode cX0_valueOf 10 = .ok (.ifCond .lt 23, 3) := by decide +kernel
theorem dX0_valueOf_13 : decode cX0_valueOf 13 = .ok (.iload 4, 2) := by decide +kernel
theorem dX0_valueOf_15 : decode cX0_valueOf 15 = .ok (.aload_n 0, 1) := by decide +kernel
theorem dX0_valueOf_16 : decode cX0_valueOf 16 = .ok (.getfield 11, 3) := by decide +kernel
theorem dX0_valueOf_19 : decode cX0_valueOf 19 = .ok (.arraylength, 1) := by decide +kernel
theorem dX0_valueOf_20 : decode cX0_valueOf 20 = .ok (.if_icmp .ge 13, 3) := by decide +kernel
theorem dX0_valueOf_23 : decode cX0_valueOf 23 = .ok (.aload_n 0, 1) := by decide +kernel
theorem dX0_valueOf_24 : decode cX0_valueOf 24 = .ok (.getfield 11, 3) := by decide +kernel
theorem dX0_valueOf_27 : decode cX0_valueOf 27 = .ok (.iload 4, 2) := by decide +kernel
theorem dX0_valueOf_29 : decode cX0_valueOf 29 = .ok (.iaload, 1) := by decide +kernel
theorem dX0_valueOf_30 : decode cX0_valueOf 30 = .ok (.goto 5, 3) := by decide +kernel
theorem dX0_valueOf_33 : decode cX0_valueOf 33 = .ok (.bipush (-4), 2) := by decide +kernel
theorem dX0_valueOf_35 : decode cX0_valueOf 35 = .ok (.ireturn, 1) := by decide +kernel
theorem dX0_ageOf_0 : decode cX0_ageOf 0 = .ok (.iload_n 1, 1) := by decide +kernel
theorem dX0_ageOf_1 : decode cX0_ageOf 1 = .ok (.iload_n 2, 1) := by decide +kernel
theorem dX0_ageOf_2 : decode cX0_ageOf 2 = .ok (.iload_n 3, 1) := by decide +kernel
theorem dX0_ageOf_3 : decode cX0_ageOf 3 = .ok (.invokestatic 35, 3) := by decide +kernel
theorem dX0_ageOf_6 : decode cX0_ageOf 6 = .ok (.istore 4, 2) := by decide +kernel
theorem dX0_ageOf_8 : decode cX0_ageOf 8 = .ok (.iload 4, 2) := by decide +kernel
theorem dX0_ageOf_10 : decode cX0_ageOf 10 = .ok (.ifCond .lt 23, 3) := by decide +kernel
theorem dX0_ageOf_13 : decode cX0_ageOf 13 = .ok (.iload 4, 2) := by decide +kernel
theorem dX0_ageOf_15 : decode cX0_ageOf 15 = .ok (.aload_n 0, 1) := by decide +kernel
theorem dX0_ageOf_16 : decode cX0_ageOf 16 = .ok (.getfield 15, 3) := by decide +kernel
theorem dX0_ageOf_19 : decode cX0_ageOf 19 = .ok (.arraylength, 1) := by decide +kernel
theorem dX0_ageOf_20 : decode cX0_ageOf 20 = .ok (.if_icmp .ge 13, 3) := by decide +kernel
theorem dX0_ageOf_23 : decode cX0_ageOf 23 = .ok (.aload_n 0, 1) := by decide +kernel
theorem dX0_ageOf_24 : decode cX0_ageOf 24 = .ok (.getfield 15, 3) := by decide +kernel
theorem dX0_ageOf_27 : decode cX0_ageOf 27 = .ok (.iload 4, 2) := by decide +kernel
theorem dX0_ageOf_29 : decode cX0_ageOf 29 = .ok (.iaload, 1) := by decide +kernel
theorem dX0_ageOf_30 : decode cX0_ageOf 30 = .ok (.goto 5, 3) := by decide +kernel
theorem dX0_ageOf_33 : decode cX0_ageOf 33 = .ok (.bipush (-4), 2) := by decide +kernel
theorem dX0_ageOf_35 : decode cX0_ageOf 35 = .ok (.ireturn, 1) := by decide +kernel
theorem dX0_rightOnes_0 : decode cX0_rightOnes 0 = .ok (.aload_n 1, 1) := by decide +kernel
theorem dX0_rightOnes_1 : decode cX0_rightOnes 1 = .ok (.iload_n 2, 1) := by decide +kernel
theorem dX0_rightOnes_2 : decode cX0_rightOnes 2 = .ok (.iload_n 3, 1) := by decide +kernel
theorem dX0_rightOnes_3 : decode cX0_rightOnes 3 = .ok (.invokevirtual 52, 3) := by decide +kernel
theorem dX0_rightOnes_6 : decode cX0_rightOnes 6 = .ok (.istore 4, 2) := by decide +kernel
theorem dX0_rightOnes_8 : decode cX0_rightOnes 8 = .ok (.iconst 0, 1) := by decide +kernel
theorem dX0_rightOnes_9 : decode cX0_rightOnes 9 = .ok (.istore 5, 2) := by decide +kernel
theorem dX0_rightOnes_11 : decode cX0_rightOnes 11 = .ok (.iconst 0, 1) := by decide +kernel
theorem dX0_rightOnes_12 : decode cX0_rightOnes 12 = .ok (.istore 6, 2) := by decide +kernel
theorem dX0_rightOnes_14 : decode cX0_rightOnes 14 = .ok (.iload 6, 2) := by decide +kernel
theorem dX0_rightOnes_16 : decode cX0_rightOnes 16 = .ok (.aload_n 1, 1) := by decide +kernel
theorem dX0_rightOnes_17 : decode cX0_rightOnes 17 = .ok (.getfield 79, 3) := by decide +kernel
theorem dX0_rightOnes_20 : decode cX0_rightOnes 20 = .ok (.getfield 64, 3) := by decide +kernel
theorem dX0_rightOnes_23 : decode cX0_rightOnes 23 = .ok (.if_icmp .ge 35, 3) := by decide +kernel
theorem dX0_rightOnes_26 : decode cX0_rightOnes 26 = .ok (.iload 5, 2) := by decide +kernel
theorem dX0_rightOnes_28 : decode cX0_rightOnes 28 = .ok (.aload_n 0, 1) := by decide +kernel
theorem dX0_rightOnes_29 : decode cX0_rightOnes 29 = .ok (.iload 6, 2) := by decide +kernel
theorem dX0_rightOnes_31 : decode cX0_rightOnes 31 = .ok (.iload_n 2, 1) := by decide +kernel
theorem dX0_rightOnes_32 : decode cX0_rightOnes 32 = .ok (.iload_n 3, 1) := by decide +kernel
theorem dX0_rightOnes_33 : decode cX0_rightOnes 33 = .ok (.invokevirtual 73, 3) := by decide +kernel
theorem dX0_rightOnes_36 : decode cX0_rightOnes 36 = .ok (.iload 4, 2) := by decide +kernel
theorem dX0_rightOnes_38 : decode cX0_rightOnes 38 = .ok (.if_icmp .ne 10, 3) := by decide +kernel
theorem dX0_rightOnes_41 : decode cX0_rightOnes 41 = .ok (.iconst 1, 1) := by decide +kernel
theorem dX0_rightOnes_42 : decode cX0_rightOnes 42 = .ok (.iload 6, 2) := by decide +kernel
theorem dX0_rightOnes_44 : decode cX0_rightOnes 44 = .ok (.ishl, 1) := by decide +kernel
theorem dX0_rightOnes_45 : decode cX0_rightOnes 45 = .ok (.goto 4, 3) := by decide +kernel
theorem dX0_rightOnes_48 : decode cX0_rightOnes 48 = .ok (.iconst 0, 1) := by decide +kernel
theorem dX0_rightOnes_49 : decode cX0_rightOnes 49 = .ok (.ior, 1) := by decide +kernel
theorem dX0_rightOnes_50 : decode cX0_rightOnes 50 = .ok (.istore 5, 2) := by decide +kernel
theorem dX0_rightOnes_52 : decode cX0_rightOnes 52 = .ok (.iinc 6 1, 3) := by decide +kernel
theorem dX0_rightOnes_55 : decode cX0_rightOnes 55 = .ok (.goto (-41), 3) := by decide +kernel
theorem dX0_rightOnes_58 : decode cX0_rightOnes 58 = .ok (.iload 5, 2) := by decide +kernel
theorem dX0_rightOnes_60 : decode cX0_rightOnes 60 = .ok (.ireturn, 1) := by decide +kernel
theorem dX0_wrongOnes_0 : decode cX0_wrongOnes 0 = .ok (.aload_n 1, 1) := by decide +kernel
theorem dX0_wrongOnes_1 : decode cX0_wrongOnes 1 = .ok (.iload_n 2, 1) := by decide +kernel
theorem dX0_wrongOnes_2 : decode cX0_wrongOnes 2 = .ok (.iload_n 3, 1) := by decide +kernel
theorem dX0_wrongOnes_3 : decode cX0_wrongOnes 3 = .ok (.invokevirtual 52, 3) := by decide +kernel
theorem dX0_wrongOnes_6 : decode cX0_wrongOnes 6 = .ok (.istore 4, 2) := by decide +kernel
theorem dX0_wrongOnes_8 : decode cX0_wrongOnes 8 = .ok (.iconst 0, 1) := by decide +kernel
theorem dX0_wrongOnes_9 : decode cX0_wrongOnes 9 = .ok (.istore 5, 2) := by decide +kernel
theorem dX0_wrongOnes_11 : decode cX0_wrongOnes 11 = .ok (.iconst 0, 1) := by decide +kernel
theorem dX0_wrongOnes_12 : decode cX0_wrongOnes 12 = .ok (.istore 6, 2) := by decide +kernel
theorem dX0_wrongOnes_14 : decode cX0_wrongOnes 14 = .ok (.iload 6, 2) := by decide +kernel
theorem dX0_wrongOnes_16 : decode cX0_wrongOnes 16 = .ok (.aload_n 1, 1) := by decide +kernel
theorem dX0_wrongOnes_17 : decode cX0_wrongOnes 17 = .ok (.getfield 79, 3) := by decide +kernel
theorem dX0_wrongOnes_20 : decode cX0_wrongOnes 20 = .ok (.getfield 64, 3) := by decide +kernel
theorem dX0_wrongOnes_23 : decode cX0_wrongOnes 23 = .ok (.if_icmp .ge 46, 3) := by decide +kernel
theorem dX0_wrongOnes_26 : decode cX0_wrongOnes 26 = .ok (.aload_n 0, 1) := by decide +kernel
theorem dX0_wrongOnes_27 : decode cX0_wrongOnes 27 = .ok (.iload 6, 2) := by decide +kernel
theorem dX0_wrongOnes_29 : decode cX0_wrongOnes 29 = .ok (.iload_n 2, 1) := by decide +kernel
theorem dX0_wrongOnes_30 : decode cX0_wrongOnes 30 = .ok (.iload_n 3, 1) := by decide +kernel
theorem dX0_wrongOnes_31 : decode cX0_wrongOnes 31 = .ok (.invokevirtual 73, 3) := by decide +kernel
theorem dX0_wrongOnes_34 : decode cX0_wrongOnes 34 = .ok (.istore 7, 2) := by decide +kernel
theorem dX0_wrongOnes_36 : decode cX0_wrongOnes 36 = .ok (.iload 5, 2) := by decide +kernel
theorem dX0_wrongOnes_38 : decode cX0_wrongOnes 38 = .ok (.iload 7, 2) := by decide +kernel
theorem dX0_wrongOnes_40 : decode cX0_wrongOnes 40 = .ok (.bipush (-4), 2) := by decide +kernel
theorem dX0_wrongOnes_42 : decode cX0_wrongOnes 42 = .ok (.if_icmp .eq 17, 3) := by decide +kernel
theorem dX0_wrongOnes_45 : decode cX0_wrongOnes 45 = .ok (.iload 7, 2) := by decide +kernel
theorem dX0_wrongOnes_47 : decode cX0_wrongOnes 47 = .ok (.iload 4, 2) := by decide +kernel
theorem dX0_wrongOnes_49 : decode cX0_wrongOnes 49 = .ok (.if_icmp .eq 10, 3) := by decide +kernel
theorem dX0_wrongOnes_52 : decode cX0_wrongOnes 52 = .ok (.iconst 1, 1) := by decide +kernel
theorem dX0_wrongOnes_53 : decode cX0_wrongOnes 53 = .ok (.iload 6, 2) := by decide +kernel
theorem dX0_wrongOnes_55 : decode cX0_wrongOnes 55 = .ok (.ishl, 1) := by decide +kernel
theorem dX0_wrongOnes_56 : decode cX0_wrongOnes 56 = .ok (.goto 4, 3) := by decide +kernel
theorem dX0_wrongOnes_59 : decode cX0_wrongOnes 59 = .ok (.iconst 0, 1) := by decide +kernel
theorem dX0_wrongOnes_60 : decode cX0_wrongOnes 60 = .ok (.ior, 1) := by decide +kernel
theorem dX0_wrongOnes_61 : decode cX0_wrongOnes 61 = .ok (.istore 5, 2) := by decide +kernel
theorem dX0_wrongOnes_63 : decode cX0_wrongOnes 63 = .ok (.iinc 6 1, 3) := by decide +kernel
theorem dX0_wrongOnes_66 : decode cX0_wrongOnes 66 = .ok (.goto (-52), 3) := by decide +kernel
theorem dX0_wrongOnes_69 : decode cX0_wrongOnes 69 = .ok (.iload 5, 2) := by decide +kernel
theorem dX0_wrongOnes_71 : decode cX0_wrongOnes 71 = .ok (.ireturn, 1) := by decide +kernel
theorem dX0_isAsSeen_0 : decode cX0_isAsSeen 0 = .ok (.iconst 0, 1) := by decide +kernel
theorem dX0_isAsSeen_1 : decode cX0_isAsSeen 1 = .ok (.istore_n 2, 1) := by decide +kernel
theorem dX0_isAsSeen_2 : decode cX0_isAsSeen 2 = .ok (.iload_n 2, 1) := by decide +kernel
theorem dX0_isAsSeen_3 : decode cX0_isAsSeen 3 = .ok (.aload_n 1, 1) := by decide +kernel
theorem dX0_isAsSeen_4 : decode cX0_isAsSeen 4 = .ok (.getfield 64, 3) := by decide +kernel
theorem dX0_isAsSeen_7 : decode cX0_isAsSeen 7 = .ok (.if_icmp .ge 42, 3) := by decide +kernel
theorem dX0_isAsSeen_10 : decode cX0_isAsSeen 10 = .ok (.aload_n 0, 1) := by decide +kernel
theorem dX0_isAsSeen_11 : decode cX0_isAsSeen 11 = .ok (.aload_n 1, 1) := by decide +kernel
theorem dX0_isAsSeen_12 : decode cX0_isAsSeen 12 = .ok (.iload_n 2, 1) := by decide +kernel
theorem dX0_isAsSeen_13 : decode cX0_isAsSeen 13 = .ok (.iconst 0, 1) := by decide +kernel
theorem dX0_isAsSeen_14 : decode cX0_isAsSeen 14 = .ok (.invokevirtual 70, 3) := by decide +kernel
theorem dX0_isAsSeen_17 : decode cX0_isAsSeen 17 = .ok (.aload_n 1, 1) := by decide +kernel
theorem dX0_isAsSeen_18 : decode cX0_isAsSeen 18 = .ok (.iload_n 2, 1) := by decide +kernel
theorem dX0_isAsSeen_19 : decode cX0_isAsSeen 19 = .ok (.iconst 1, 1) := by decide +kernel
theorem dX0_isAsSeen_20 : decode cX0_isAsSeen 20 = .ok (.invokevirtual 70, 3) := by decide +kernel
theorem dX0_isAsSeen_23 : decode cX0_isAsSeen 23 = .ok (.aload_n 1, 1) := by decide +kernel
theorem dX0_isAsSeen_24 : decode cX0_isAsSeen 24 = .ok (.iload_n 2, 1) := by decide +kernel
theorem dX0_isAsSeen_25 : decode cX0_isAsSeen 25 = .ok (.iconst 2, 1) := by decide +kernel
theorem dX0_isAsSeen_26 : decode cX0_isAsSeen 26 = .ok (.invokevirtual 70, 3) := by decide +kernel
theorem dX0_isAsSeen_29 : decode cX0_isAsSeen 29 = .ok (.invokevirtual 73, 3) := by decide +kernel
theorem dX0_isAsSeen_32 : decode cX0_isAsSeen 32 = .ok (.aload_n 1, 1) := by decide +kernel
theorem dX0_isAsSeen_33 : decode cX0_isAsSeen 33 = .ok (.iload_n 2, 1) := by decide +kernel
theorem dX0_isAsSeen_34 : decode cX0_isAsSeen 34 = .ok (.iconst 3, 1) := by decide +kernel
theorem dX0_isAsSeen_35 : decode cX0_isAsSeen 35 = .ok (.invokevirtual 70, 3) := by decide +kernel
theorem dX0_isAsSeen_38 : decode cX0_isAsSeen 38 = .ok (.if_icmp .eq 5, 3) := by decide +kernel
theorem dX0_isAsSeen_41 : decode cX0_isAsSeen 41 = .ok (.iconst 0, 1) := by decide +kernel
theorem dX0_isAsSeen_42 : decode cX0_isAsSeen 42 = .ok (.ireturn, 1) := by decide +kernel
theorem dX0_isAsSeen_43 : decode cX0_isAsSeen 43 = .ok (.iinc 2 1, 3) := by decide +kernel
theorem dX0_isAsSeen_46 : decode cX0_isAsSeen 46 = .ok (.goto (-44), 3) := by decide +kernel
theorem dX0_isAsSeen_49 : decode cX0_isAsSeen 49 = .ok (.iconst 1, 1) := by decide +kernel
theorem dX0_isAsSeen_50 : decode cX0_isAsSeen 50 = .ok (.ireturn, 1) := by decide +kernel
theorem dX0_copyLast_0 : decode cX0_copyLast 0 = .ok (.iload_n 2, 1) := by decide +kernel
theorem dX0_copyLast_1 : decode cX0_copyLast 1 = .ok (.ifCond .lt 26, 3) := by decide +kernel
theorem dX0_copyLast_4 : decode cX0_copyLast 4 = .ok (.iload_n 2, 1) := by decide +kernel
theorem dX0_copyLast_5 : decode cX0_copyLast 5 = .ok (.aload_n 1, 1) := by decide +kernel
theorem dX0_copyLast_6 : decode cX0_copyLast 6 = .ok (.arraylength, 1) := by decide +kernel
theorem dX0_copyLast_7 : decode cX0_copyLast 7 = .ok (.bipush 15, 2) := by decide +kernel
theorem dX0_copyLast_9 : decode cX0_copyLast 9 = .ok (.isub, 1) := by decide +kernel
theorem dX0_copyLast_10 : decode cX0_copyLast 10 = .ok (.if_icmp .gt 17, 3) := by decide +kernel
theorem dX0_copyLast_13 : decode cX0_copyLast 13 = .ok (.aload_n 0, 1) := by decide +kernel
theorem dX0_copyLast_14 : decode cX0_copyLast 14 = .ok (.getfield 11, 3) := by decide +kernel
theorem dX0_copyLast_17 : decode cX0_copyLast 17 = .ok (.sipush 135, 3) := by decide +kernel
theorem dX0_copyLast_20 : decode cX0_copyLast 20 = .ok (.aload_n 1, 1) := by decide +kernel
theorem dX0_copyLast_21 : decode cX0_copyLast 21 = .ok (.iload_n 2, 1) := by decide +kernel
theorem dX0_copyLast_22 : decode cX0_copyLast 22 = .ok (.bipush 15, 2) := by decide +kernel
theorem dX0_copyLast_24 : decode cX0_copyLast 24 = .ok (.invokestatic 82, 3) := by decide +kernel
theorem dX0_copyLast_27 : decode cX0_copyLast 27 = .ok (.return_, 1) := by decide +kernel
theorem dX1_init_0 : decode cX1_init 0 = .ok (.aload_n 0, 1) := by decide +kernel
theorem dX1_init_1 : decode cX1_init 1 = .ok (.invokespecial 3, 3) := by decide +kernel
theorem dX1_init_4 : decode cX1_init 4 = .ok (.aload_n 0, 1) := by decide +kernel
theorem dX1_init_5 : decode cX1_init 5 = .ok (.new 9, 3) := by decide +kernel
theorem dX1_init_8 : decode cX1_init 8 = .ok (.dup, 1) := by decide +kernel
theorem dX1_init_9 : decode cX1_init 9 = .ok (.iconst 2, 1) := by decide +kernel
theorem dX1_init_10 : decode cX1_init 10 = .ok (.iconst 5, 1) := by decide +kernel
theorem dX1_init_11 : decode cX1_init 11 = .ok (.invokespecial 11, 3) := by decide +kernel
theorem dX1_init_14 : decode cX1_init 14 = .ok (.putfield 14, 3) := by decide +kernel
theorem dX1_init_17 : decode cX1_init 17 = .ok (.aload_n 0, 1) := by decide +kernel
theorem dX1_init_18 : decode cX1_init 18 = .ok (.new 9, 3) := by decide +kernel
theorem dX1_init_21 : decode cX1_init 21 = .ok (.dup, 1) := by decide +kernel
theorem dX1_init_22 : decode cX1_init 22 = .ok (.iconst 3, 1) := by decide +kernel
theorem dX1_init_23 : decode cX1_init 23 = .ok (.iconst 4, 1) := by decide +kernel
theorem dX1_init_24 : decode cX1_init 24 = .ok (.invokespecial 11, 3) := by decide +kernel
theorem dX1_init_27 : decode cX1_init 27 = .ok (.putfield 20, 3) := by decide +kernel
theorem dX1_init_30 : decode cX1_init 30 = .ok (.aload_n 0, 1) := by decide +kernel
theorem dX1_init_31 : decode cX1_init 31 = .ok (.new 9, 3) := by decide +kernel
theorem dX1_init_34 : decode cX1_init 34 = .ok (.dup, 1) := by decide +kernel
theorem dX1_init_35 : decode cX1_init 35 = .ok (.iconst 4, 1) := by decide +kernel
theorem dX1_init_36 : decode cX1_init 36 = .ok (.iconst 5, 1) := by decide +kernel
theorem dX1_init_37 : decode cX1_init 37 = .ok (.invokespecial 11, 3) := by decide +kernel
theorem dX1_init_40 : decode cX1_init 40 = .ok (.putfield 23, 3) := by decide +kernel
theorem dX1_init_43 : decode cX1_init 43 = .ok (.aload_n 0, 1) := by decide +kernel
theorem dX1_init_44 : decode cX1_init 44 = .ok (.new 9, 3) := by decide +kernel
theorem dX1_init_47 : decode cX1_init 47 = .ok (.dup, 1) := by decide +kernel
theorem dX1_init_48 : decode cX1_init 48 = .ok (.iconst 4, 1) := by decide +kernel
theorem dX1_init_49 : decode cX1_init 49 = .ok (.iconst 4, 1) := by decide +kernel
theorem dX1_init_50 : decode cX1_init 50 = .ok (.invokespecial 11, 3) := by decide +kernel
theorem dX1_init_53 : decode cX1_init 53 = .ok (.putfield 26, 3) := by decide +kernel
theorem dX1_init_56 : decode cX1_init 56 = .ok (.aload_n 0, 1) := by decide +kernel
theorem dX1_init_57 : decode cX1_init 57 = .ok (.iconst 3, 1) := by decide +kernel
theorem dX1_init_58 : decode cX1_init 58 = .ok (.newarray .int, 2) := by decide +kernel
theorem dX1_init_60 : decode cX1_init 60 = .ok (.putfield 29, 3) := by decide +kernel
theorem dX1_init_63 : decode cX1_init 63 = .ok (.aload_n 0, 1) := by decide +kernel
theorem dX1_init_64 : decode cX1_init 64 = .ok (.bipush 10, 2) := by decide +kernel
theorem dX1_init_66 : decode cX1_init 66 = .ok (.newarray .int, 2) := by decide +kernel
theorem dX1_init_68 : decode cX1_init 68 = .ok (.putfield 33, 3) := by decide +kernel
theorem dX1_init_71 : decode cX1_init 71 = .ok (.aload_n 0, 1) := by decide +kernel
theorem dX1_init_72 : decode cX1_init 72 = .ok (.invokevirtual 36, 3) := by decide +kernel
theorem dX1_init_75 : decode cX1_init 75 = .ok (.return_, 1) := by decide +kernel
theorem dX1_makeEmpty_0 : decode cX1_makeEmpty 0 = .ok (.aload_n 0, 1) := by decide +kernel
theorem dX1_makeEmpty_1 : decode cX1_makeEmpty 1 = .ok (.getfield 14, 3) := by decide +kernel
theorem dX1_makeEmpty_4 : decode cX1_makeEmpty 4 = .ok (.iconst 0, 1) := by decide +kernel
theorem dX1_makeEmpty_5 : decode cX1_makeEmpty 5 = .ok (.putfield 39, 3) := by decide +kernel
theorem dX1_makeEmpty_8 : decode cX1_makeEmpty 8 = .ok (.aload_n 0, 1) := by decide +kernel
theorem dX1_makeEmpty_9 : decode cX1_makeEmpty 9 = .ok (.getfield 20, 3) := by decide +kernel
theorem dX1_makeEmpty_12 : decode cX1_makeEmpty 12 = .ok (.iconst 0, 1) := by decide +kernel
theorem dX1_makeEmpty_13 : decode cX1_makeEmpty 13 = .ok (.putfield 39, 3) := by decide +kernel
theorem dX1_makeEmpty_16 : decode cX1_makeEmpty 16 = .ok (.aload_n 0, 1) := by decide +kernel
theorem dX1_makeEmpty_17 : decode cX1_makeEmpty 17 = .ok (.getfield 23, 3) := by decide +kernel
theorem dX1_makeEmpty_20 : decode cX1_makeEmpty 20 = .ok (.iconst 0, 1) := by decide +kernel
theorem dX1_makeEmpty_21 : decode cX1_makeEmpty 21 = .ok (.putfield 39, 3) := by decide +kernel
theorem dX1_makeEmpty_24 : decode cX1_makeEmpty 24 = .ok (.aload_n 0, 1) := by decide +kernel
theorem dX1_makeEmpty_25 : decode cX1_makeEmpty 25 = .ok (.getfield 26, 3) := by decide +kernel
theorem dX1_makeEmpty_28 : decode cX1_makeEmpty 28 = .ok (.iconst 0, 1) := by decide +kernel
theorem dX1_makeEmpty_29 : decode cX1_makeEmpty 29 = .ok (.putfield 39, 3) := by decide +kernel
theorem dX1_makeEmpty_32 : decode cX1_makeEmpty 32 = .ok (.iconst 0, 1) := by decide +kernel
theorem dX1_makeEmpty_33 : decode cX1_makeEmpty 33 = .ok (.istore_n 1, 1) := by decide +kernel
theorem dX1_makeEmpty_34 : decode cX1_makeEmpty 34 = .ok (.iload_n 1, 1) := by decide +kernel
theorem dX1_makeEmpty_35 : decode cX1_makeEmpty 35 = .ok (.iconst 3, 1) := by decide +kernel
theorem dX1_makeEmpty_36 : decode cX1_makeEmpty 36 = .ok (.if_icmp .ge 16, 3) := by decide +kernel
theorem dX1_makeEmpty_39 : decode cX1_makeEmpty 39 = .ok (.aload_n 0, 1) := by decide +kernel
theorem dX1_makeEmpty_40 : decode cX1_makeEmpty 40 = .ok (.getfield 29, 3) := by decide +kernel
theorem dX1_makeEmpty_43 : decode cX1_makeEmpty 43 = .ok (.iload_n 1, 1) := by decide +kernel
theorem dX1_makeEmpty_44 : decode cX1_makeEmpty 44 = .ok (.iconst 0, 1) := by decide +kernel
theorem dX1_makeEmpty_45 : decode cX1_makeEmpty 45 = .ok (.iastore, 1) := by decide +kernel
theorem dX1_makeEmpty_46 : decode cX1_makeEmpty 46 = .ok (.iinc 1 1, 3) := by decide +kernel
theorem dX1_makeEmpty_49 : decode cX1_makeEmpty 49 = .ok (.goto (-15), 3) := by decide +kernel
theorem dX1_makeEmpty_52 : decode cX1_makeEmpty 52 = .ok (.iconst 0, 1) := by decide +kernel
theorem dX1_makeEmpty_53 : decode cX1_makeEmpty 53 = .ok (.istore_n 1, 1) := by decide +kernel
theorem dX1_makeEmpty_54 : decode cX1_makeEmpty 54 = .ok (.iload_n 1, 1) := by decide +kernel
theorem dX1_makeEmpty_55 : decode cX1_makeEmpty 55 = .ok (.bipush 10, 2) := by decide +kernel
theorem dX1_makeEmpty_57 : decode cX1_makeEmpty 57 = .ok (.if_icmp .ge 17, 3) := by decide +kernel
theorem dX1_makeEmpty_60 : decode cX1_makeEmpty 60 = .ok (.aload_n 0, 1) := by decide +kernel
theorem dX1_makeEmpty_61 : decode cX1_makeEmpty 61 = .ok (.getfield 33, 3) := by decide +kernel
theorem dX1_makeEmpty_64 : decode cX1_makeEmpty 64 = .ok (.iload_n 1, 1) := by decide +kernel
theorem dX1_makeEmpty_65 : decode cX1_makeEmpty 65 = .ok (.bipush (-4), 2) := by decide +kernel
theorem dX1_makeEmpty_67 : decode cX1_makeEmpty 67 = .ok (.iastore, 1) := by decide +kernel
theorem dX1_makeEmpty_68 : decode cX1_makeEmpty 68 = .ok (.iinc 1 1, 3) := by decide +kernel
theorem dX1_makeEmpty_71 : decode cX1_makeEmpty 71 = .ok (.goto (-17), 3) := by decide +kernel
theorem dX1_makeEmpty_74 : decode cX1_makeEmpty 74 = .ok (.return_, 1) := by decide +kernel
theorem dX1_copyFrom_0 : decode cX1_copyFrom 0 = .ok (.aload_n 0, 1) := by decide +kernel
theorem dX1_copyFrom_1 : decode cX1_copyFrom 1 = .ok (.getfield 14, 3) := by decide +kernel
theorem dX1_copyFrom_4 : decode cX1_copyFrom 4 = .ok (.aload_n 1, 1) := by decide +kernel
theorem dX1_copyFrom_5 : decode cX1_copyFrom 5 = .ok (.getfield 14, 3) := by decide +kernel
theorem dX1_copyFrom_8 : decode cX1_copyFrom 8 = .ok (.invokevirtual 43, 3) := by decide +kernel
theorem dX1_copyFrom_11 : decode cX1_copyFrom 11 = .ok (.aload_n 0, 1) := by decide +kernel
theorem dX1_copyFrom_12 : decode cX1_copyFrom 12 = .ok (.getfield 20, 3) := by decide +kernel
theorem dX1_copyFrom_15 : decode cX1_copyFrom 15 = .ok (.aload_n 1, 1) := by decide +kernel
theorem dX1_copyFrom_16 : decode cX1_copyFrom 16 = .ok (.getfield 20, 3) := by decide +kernel
theorem dX1_copyFrom_19 : decode cX1_copyFrom 19 = .ok (.invokevirtual 43, 3) := by decide +kernel
theorem dX1_copyFrom_22 : decode cX1_copyFrom 22 = .ok (.aload_n 0, 1) := by decide +kernel
theorem dX1_copyFrom_23 : decode cX1_copyFrom 23 = .ok (.getfield 23, 3) := by decide +kernel
theorem dX1_copyFrom_26 : decode cX1_copyFrom 26 = .ok (.aload_n 1, 1) := by decide +kernel
theorem dX1_copyFrom_27 : decode cX1_copyFrom 27 = .ok (.getfield 23, 3) := by decide +kernel
theorem dX1_copyFrom_30 : decode cX1_copyFrom 30 = .ok (.invokevirtual 43, 3) := by decide +kernel
theorem dX1_copyFrom_33 : decode cX1_copyFrom 33 = .ok (.aload_n 0, 1) := by decide +kernel
theorem dX1_copyFrom_34 : decode cX1_copyFrom 34 = .ok (.getfield 26, 3) := by decide +kernel
theorem dX1_copyFrom_37 : decode cX1_copyFrom 37 = .ok (.aload_n 1, 1) := by decide +kernel
theorem dX1_copyFrom_38 : decode cX1_copyFrom 38 = .ok (.getfield 26, 3) := by decide +kernel
theorem dX1_copyFrom_41 : decode cX1_copyFrom 41 = .ok (.invokevirtual 43, 3) := by decide +kernel
theorem dX1_copyFrom_44 : decode cX1_copyFrom 44 = .ok (.aload_n 1, 1) := by decide +kernel
theorem dX1_copyFrom_45 : decode cX1_copyFrom 45 = .ok (.getfield 29, 3) := by decide +kernel
theorem dX1_copyFrom_48 : decode cX1_copyFrom 48 = .ok (.iconst 0, 1) := by decide +kernel
theorem dX1_copyFrom_49 : decode cX1_copyFrom 49 = .ok (.aload_n 0, 1) := by decide +kernel
theorem dX1_copyFrom_50 : decode cX1_copyFrom 50 = .ok (.getfield 29, 3) := by decide +kernel
theorem dX1_copyFrom_53 : decode cX1_copyFrom 53 = .ok (.iconst 0, 1) := by decide +kernel
theorem dX1_copyFrom_54 : decode cX1_copyFrom 54 = .ok (.iconst 3, 1) := by decide +kernel
theorem dX1_copyFrom_55 : decode cX1_copyFrom 55 = .ok (.invokestatic 47, 3) := by decide +kernel
theorem dX1_copyFrom_58 : decode cX1_copyFrom 58 = .ok (.aload_n 1, 1) := by decide +kernel
theorem dX1_copyFrom_59 : decode cX1_copyFrom 59 = .ok (.getfield 33, 3) := by decide +kernel
theorem dX1_copyFrom_62 : decode cX1_copyFrom 62 = .ok (.iconst 0, 1) := by decide +kernel
theorem dX1_copyFrom_63 : decode cX1_copyFrom 63 = .ok (.aload_n 0, 1) := by decide +kernel
theorem dX1_copyFrom_64 : decode cX1_copyFrom 64 = .ok (.getfield 33, 3) := by decide +kernel
theorem dX1_copyFrom_67 : decode cX1_copyFrom 67 = .ok (.iconst 0, 1) := by decide +kernel
theorem dX1_copyFrom_68 : decode cX1_copyFrom 68 = .ok (.bipush 10, 2) := by decide +kernel
theorem dX1_copyFrom_70 : decode cX1_copyFrom 70 = .ok (.invokestatic 47, 3) := by decide +kernel
theorem dX1_copyFrom_73 : decode cX1_copyFrom 73 = .ok (.return_, 1) := by decide +kernel
theorem dX1_isOne_0 : decode cX1_isOne 0 = .ok (.aload_n 0, 1) := by decide +kernel
theorem dX1_isOne_1 : decode cX1_isOne 1 = .ok (.getfield 14, 3) := by decide +kernel
theorem dX1_isOne_4 : decode cX1_isOne 4 = .ok (.iload_n 1, 1) := by decide +kernel
theorem dX1_isOne_5 : decode cX1_isOne 5 = .ok (.invokevirtual 53, 3) := by decide +kernel
theorem dX1_isOne_8 : decode cX1_isOne 8 = .ok (.ireturn, 1) := by decide +kernel
theorem dX1_kindOf_0 : decode cX1_kindOf 0 = .ok (.aload_n 0, 1) := by decide +kernel
theorem dX1_kindOf_1 : decode cX1_kindOf 1 = .ok (.getfield 14, 3) := by decide +kernel
theorem dX1_kindOf_4 : decode cX1_kindOf 4 = .ok (.iload_n 1, 1) := by decide +kernel
theorem dX1_kindOf_5 : decode cX1_kindOf 5 = .ok (.iconst 0, 1) := by decide +kernel
theorem dX1_kindOf_6 : decode cX1_kindOf 6 = .ok (.invokevirtual 57, 3) := by decide +kernel
theorem dX1_kindOf_9 : decode cX1_kindOf 9 = .ok (.ireturn, 1) := by decide +kernel
theorem dX1_postOf_0 : decode cX1_postOf 0 = .ok (.aload_n 0, 1) := by decide +kernel
theorem dX1_postOf_1 : decode cX1_postOf 1 = .ok (.getfield 14, 3) := by decide +kernel
theorem dX1_postOf_4 : decode cX1_postOf 4 = .ok (.iload_n 1, 1) := by decide +kernel
theorem dX1_postOf_5 : decode cX1_postOf 5 = .ok (.iconst 1, 1) := by decide +kernel
theorem dX1_postOf_6 : decode cX1_postOf 6 = .ok (.invokevirtual 57, 3) := by decide +kernel
theorem dX1_postOf_9 : decode cX1_postOf 9 = .ok (.ireturn, 1) := by decide +kernel
theorem dX1_keepsOf_0 : decode cX1_keepsOf 0 = .ok (.aload_n 0, 1) := by decide +kernel
theorem dX1_keepsOf_1 : decode cX1_keepsOf 1 = .ok (.iload_n 1, 1) := by decide +kernel
theorem dX1_keepsOf_2 : decode cX1_keepsOf 2 = .ok (.invokevirtual 61, 3) := by decide +kernel
theorem dX1_keepsOf_5 : decode cX1_keepsOf 5 = .ok (.istore_n 2, 1) := by decide +kernel
theorem dX1_keepsOf_6 : decode cX1_keepsOf 6 = .ok (.iload_n 2, 1) := by decide +kernel
theorem dX1_keepsOf_7 : decode cX1_keepsOf 7 = .ok (.ifCond .lt 19, 3) := by decide +kernel
theorem dX1_keepsOf_10 : decode cX1_keepsOf 10 = .ok (.iload_n 2, 1) := by decide +kernel
theorem dX1_keepsOf_11 : decode cX1_keepsOf 11 = .ok (.getstatic 65, 3) := by decide +kernel
theorem dX1_keepsOf_14 : decode cX1_keepsOf 14 = .ok (.arraylength, 1) := by decide +kernel
theorem dX1_keepsOf_15 : decode cX1_keepsOf 15 = .ok (.if_icmp .ge 11, 3) := by decide +kernel
theorem dX1_keepsOf_18 : decode cX1_keepsOf 18 = .ok (.getstatic 65, 3) := by decide +kernel
theorem dX1_keepsOf_21 : decode cX1_keepsOf 21 = .ok (.iload_n 2, 1) := by decide +kernel
theorem dX1_keepsOf_22 : decode cX1_keepsOf 22 = .ok (.iaload, 1) := by decide +kernel
theorem dX1_keepsOf_23 : decode cX1_keepsOf 23 = .ok (.goto 4, 3) := by decide +kernel
theorem dX1_keepsOf_26 : decode cX1_keepsOf 26 = .ok (.iconst 0, 1) := by decide +kernel
theorem dX1_keepsOf_27 : decode cX1_keepsOf 27 = .ok (.ireturn, 1) := by decide +kernel
theorem dX1_worthOf_0 : decode cX1_worthOf 0 = .ok (.aload_n 0, 1) := by decide +kernel
theorem dX1_worthOf_1 : decode cX1_worthOf 1 = .ok (.getfield 23, 3) := by decide +kernel
theorem dX1_worthOf_4 : decode cX1_worthOf 4 = .ok (.iload_n 1, 1) := by decide +kernel
theorem dX1_worthOf_5 : decode cX1_worthOf 5 = .ok (.iconst 3, 1) := by decide +kernel
theorem dX1_worthOf_6 : decode cX1_worthOf 6 = .ok (.invokevirtual 57, 3) := by decide +kernel
theorem dX1_worthOf_9 : decode cX1_worthOf 9 = .ok (.ireturn, 1) := by decide +kernel
theorem dX1_allWorth_0 : decode cX1_allWorth 0 = .ok (.iconst 0, 1) := by decide +kernel
theorem dX1_allWorth_1 : decode cX1_allWorth 1 = .ok (.istore_n 1, 1) := by decide +kernel
theorem dX1_allWorth_2 : decode cX1_allWorth 2 = .ok (.iconst 0, 1) := by decide +kernel
theorem dX1_allWorth_3 : decode cX1_allWorth 3 = .ok (.istore_n 2, 1) := by decide +kernel
theorem dX1_allWorth_4 : decode cX1_allWorth 4 = .ok (.iload_n 2, 1) := by decide +kernel
theorem dX1_allWorth_5 : decode cX1_allWorth 5 = .ok (.aload_n 0, 1) := by decide +kernel
theorem dX1_allWorth_6 : decode cX1_allWorth 6 = .ok (.getfield 23, 3) := by decide +kernel
theorem dX1_allWorth_9 : decode cX1_allWorth 9 = .ok (.getfield 39, 3) := by decide +kernel
theorem dX1_allWorth_12 : decode cX1_allWorth 12 = .ok (.if_icmp .ge 17, 3) := by decide +kernel
theorem dX1_allWorth_15 : decode cX1_allWorth 15 = .ok (.iload_n 1, 1) := by decide +kernel
theorem dX1_allWorth_16 : decode cX1_allWorth 16 = .ok (.aload_n 0, 1) := by decide +kernel
theorem dX1_allWorth_17 : decode cX1_allWorth 17 = .ok (.iload_n 2, 1) := by decide +kernel
theorem dX1_allWorth_18 : decode cX1_allWorth 18 = .ok (.invokevirtual 68, 3) := by decide +kernel
theorem dX1_allWorth_21 : decode cX1_allWorth 21 = .ok (.iadd, 1) := by decide +kernel
theorem dX1_allWorth_22 : decode cX1_allWorth 22 = .ok (.istore_n 1, 1) := by decide +kernel
theorem dX1_allWorth_23 : decode cX1_allWorth 23 = .ok (.iinc 2 1, 3) := by decide +kernel
theorem dX1_allWorth_26 : decode cX1_allWorth 26 = .ok (.goto (-22), 3) := by decide +kernel
theorem dX1_allWorth_29 : decode cX1_allWorth 29 = .ok (.iload_n 1, 1) := by decide +kernel
theorem dX1_allWorth_30 : decode cX1_allWorth 30 = .ok (.ireturn, 1) := by decide +kernel
theorem dX1_hoursHeld_0 : decode cX1_hoursHeld 0 = .ok (.iconst 0, 1) := by decide +kernel
theorem dX1_hoursHeld_1 : decode cX1_hoursHeld 1 = .ok (.istore_n 1, 1) := by decide +kernel
theorem dX1_hoursHeld_2 : decode cX1_hoursHeld 2 = .ok (.iconst 0, 1) := by decide +kernel
theorem dX1_hoursHeld_3 : decode cX1_hoursHeld 3 = .ok (.istore_n 2, 1) := by decide +kernel
theorem dX1_hoursHeld_4 : decode cX1_hoursHeld 4 = .ok (.iload_n 2, 1) := by decide +kernel
theorem dX1_hoursHeld_5 : decode cX1_hoursHeld 5 = .ok (.bipush 10, 2) := by decide +kernel
theorem dX1_hoursHeld_7 : decode cX1_hoursHeld 7 = .ok (.if_icmp .ge 30, 3) := by decide +kernel
theorem dX1_hoursHeld_10 : decode cX1_hoursHeld 10 = .ok (.iload_n 1, 1) := by decide +kernel
theorem dX1_hoursHeld_11 : decode cX1_hoursHeld 11 = .ok (.aload_n 0, 1) := by decide +kernel
theorem dX1_hoursHeld_12 : decode cX1_hoursHeld 12 = .ok (.getfield 33, 3) := by decide +kernel
theorem dX1_hoursHeld_15 : decode cX1_hoursHeld 15 = .ok (.iload_n 2, 1) := by decide +kernel
theorem dX1_hoursHeld_16 : decode cX1_hoursHeld 16 = .ok (.iaload, 1) := by decide +kernel
theorem dX1_hoursHeld_17 : decode cX1_hoursHeld 17 = .ok (.bipush (-4), 2) := by decide +kernel
theorem dX1_hoursHeld_19 : decode cX1_hoursHeld 19 = .ok (.if_icmp .eq 9, 3) := by decide +kernel
theorem dX1_hoursHeld_22 : decode cX1_hoursHeld 22 = .ok (.iconst 1, 1) := by decide +kernel
theorem dX1_hoursHeld_23 : decode cX1_hoursHeld 23 = .ok (.iload_n 2, 1) := by decide +kernel
theorem dX1_hoursHeld_24 : decode cX1_hoursHeld 24 = .ok (.ishl, 1) := by decide +kernel
theorem dX1_hoursHeld_25 : decode cX1_hoursHeld 25 = .ok (.goto 4, 3) := by decide +kernel
theorem dX1_hoursHeld_28 : decode cX1_hoursHeld 28 = .ok (.iconst 0, 1) := by decide +kernel
theorem dX1_hoursHeld_29 : decode cX1_hoursHeld 29 = .ok (.ior, 1) := by decide +kernel
theorem dX1_hoursHeld_30 : decode cX1_hoursHeld 30 = .ok (.istore_n 1, 1) := by decide +kernel
theorem dX1_hoursHeld_31 : decode cX1_hoursHeld 31 = .ok (.iinc 2 1, 3) := by decide +kernel
theorem dX1_hoursHeld_34 : decode cX1_hoursHeld 34 = .ok (.goto (-30), 3) := by decide +kernel
theorem dX1_hoursHeld_37 : decode cX1_hoursHeld 37 = .ok (.iload_n 1, 1) := by decide +kernel
theorem dX1_hoursHeld_38 : decode cX1_hoursHeld 38 = .ok (.ireturn, 1) := by decide +kernel
theorem dX1_hoursHeldBy_0 : decode cX1_hoursHeldBy 0 = .ok (.iconst 0, 1) := by decide +kernel
theorem dX1_hoursHeldBy_1 : decode cX1_hoursHeldBy 1 = .ok (.istore_n 2, 1) := by decide +kernel
theorem dX1_hoursHeldBy_2 : decode cX1_hoursHeldBy 2 = .ok (.iconst 0, 1) := by decide +kernel
theorem dX1_hoursHeldBy_3 : decode cX1_hoursHeldBy 3 = .ok (.istore_n 3, 1) := by decide +kernel
theorem dX1_hoursHeldBy_4 : decode cX1_hoursHeldBy 4 = .ok (.iload_n 3, 1) := by decide +kernel
theorem dX1_hoursHeldBy_5 : decode cX1_hoursHeldBy 5 = .ok (.bipush 10, 2) := by decide +kernel
theorem dX1_hoursHeldBy_7 : decode cX1_hoursHeldBy 7 = .ok (.if_icmp .ge 29, 3) := by decide +kernel
theorem dX1_hoursHeldBy_10 : decode cX1_hoursHeldBy 10 = .ok (.iload_n 2, 1) := by decide +kernel
theorem dX1_hoursHeldBy_11 : decode cX1_hoursHeldBy 11 = .ok (.aload_n 0, 1) := by decide +kernel
theorem dX1_hoursHeldBy_12 : decode cX1_hoursHeldBy 12 = .ok (.getfield 33, 3) := by decide +kernel
theorem dX1_hoursHeldBy_15 : decode cX1_hoursHeldBy 15 = .ok (.iload_n 3, 1) := by decide +kernel
theorem dX1_hoursHeldBy_16 : decode cX1_hoursHeldBy 16 = .ok (.iaload, 1) := by decide +kernel
theorem dX1_hoursHeldBy_17 : decode cX1_hoursHeldBy 17 = .ok (.iload_n 1, 1) := by decide +kernel
theorem dX1_hoursHeldBy_18 : decode cX1_hoursHeldBy 18 = .ok (.if_icmp .ne 9, 3) := by decide +kernel
theorem dX1_hoursHeldBy_21 : decode cX1_hoursHeldBy 21 = .ok (.iconst 1, 1) := by decide +kernel
theorem dX1_hoursHeldBy_22 : decode cX1_hoursHeldBy 22 = .ok (.iload_n 3, 1) := by decide +kernel
theorem dX1_hoursHeldBy_23 : decode cX1_hoursHeldBy 23 = .ok (.ishl, 1) := by decide +kernel
theorem dX1_hoursHeldBy_24 : decode cX1_hoursHeldBy 24 = .ok (.goto 4, 3) := by decide +kernel
theorem dX1_hoursHeldBy_27 : decode cX1_hoursHeldBy 27 = .ok (.iconst 0, 1) := by decide +kernel
theorem dX1_hoursHeldBy_28 : decode cX1_hoursHeldBy 28 = .ok (.ior, 1) := by decide +kernel
theorem dX1_hoursHeldBy_29 : decode cX1_hoursHeldBy 29 = .ok (.istore_n 2, 1) := by decide +kernel
theorem dX1_hoursHeldBy_30 : decode cX1_hoursHeldBy 30 = .ok (.iinc 3 1, 3) := by decide +kernel
theorem dX1_hoursHeldBy_33 : decode cX1_hoursHeldBy 33 = .ok (.goto (-29), 3) := by decide +kernel
theorem dX1_hoursHeldBy_36 : decode cX1_hoursHeldBy 36 = .ok (.iload_n 2, 1) := by decide +kernel
theorem dX1_hoursHeldBy_37 : decode cX1_hoursHeldBy 37 = .ok (.ireturn, 1) := by decide +kernel
theorem dX1_valueBehind_0 : decode cX1_valueBehind 0 = .ok (.iload_n 1, 1) := by decide +kernel
theorem dX1_valueBehind_1 : decode cX1_valueBehind 1 = .ok (.ifCond .lt 17, 3) := by decide +kernel
theorem dX1_valueBehind_4 : decode cX1_valueBehind 4 = .ok (.iload_n 1, 1) := by decide +kernel
theorem dX1_valueBehind_5 : decode cX1_valueBehind 5 = .ok (.iconst 3, 1) := by decide +kernel
theorem dX1_valueBehind_6 : decode cX1_valueBehind 6 = .ok (.if_icmp .ge 12, 3) := by decide +kernel
theorem dX1_valueBehind_9 : decode cX1_valueBehind 9 = .ok (.aload_n 0, 1) := by decide +kernel
theorem dX1_valueBehind_10 : decode cX1_valueBehind 10 = .ok (.getfield 29, 3) := by decide +kernel
theorem dX1_valueBehind_13 : decode cX1_valueBehind 13 = .ok (.iload_n 1, 1) := by decide +kernel
theorem dX1_valueBehind_14 : decode cX1_valueBehind 14 = .ok (.iaload, 1) := by decide +kernel
theorem dX1_valueBehind_15 : decode cX1_valueBehind 15 = .ok (.goto 4, 3) := by decide +kernel
theorem dX1_valueBehind_18 : decode cX1_valueBehind 18 = .ok (.iconst (-1), 1) := by decide +kernel
theorem dX1_valueBehind_19 : decode cX1_valueBehind 19 = .ok (.istore_n 3, 1) := by decide +kernel
theorem dX1_valueBehind_20 : decode cX1_valueBehind 20 = .ok (.iconst 0, 1) := by decide +kernel
theorem dX1_valueBehind_21 : decode cX1_valueBehind 21 = .ok (.istore 4, 2) := by decide +kernel
theorem dX1_valueBehind_23 : decode cX1_valueBehind 23 = .ok (.iconst 0, 1) := by decide +kernel
theorem dX1_valueBehind_24 : decode cX1_valueBehind 24 = .ok (.istore 5, 2) := by decide +kernel
theorem dX1_valueBehind_26 : decode cX1_valueBehind 26 = .ok (.iload 5, 2) := by decide +kernel
theorem dX1_valueBehind_28 : decode cX1_valueBehind 28 = .ok (.aload_n 0, 1) := by decide +kernel
theorem dX1_valueBehind_29 : decode cX1_valueBehind 29 = .ok (.getfield 20, 3) := by decide +kernel
theorem dX1_valueBehind_32 : decode cX1_valueBehind 32 = .ok (.getfield 39, 3) := by decide +kernel
theorem dX1_valueBehind_35 : decode cX1_valueBehind 35 = .ok (.if_icmp .ge 63, 3) := by decide +kernel
theorem dX1_valueBehind_38 : decode cX1_valueBehind 38 = .ok (.aload_n 0, 1) := by decide +kernel
theorem dX1_valueBehind_39 : decode cX1_valueBehind 39 = .ok (.getfield 20, 3) := by decide +kernel
theorem dX1_valueBehind_42 : decode cX1_valueBehind 42 = .ok (.iload 5, 2) := by decide +kernel
theorem dX1_valueBehind_44 : decode cX1_valueBehind 44 = .ok (.iconst 0, 1) := by decide +kernel
theorem dX1_valueBehind_45 : decode cX1_valueBehind 45 = .ok (.invokevirtual 57, 3) := by decide +kernel
theorem dX1_valueBehind_48 : decode cX1_valueBehind 48 = .ok (.istore 6, 2) := by decide +kernel
theorem dX1_valueBehind_50 : decode cX1_valueBehind 50 = .ok (.aload_n 0, 1) := by decide +kernel
theorem dX1_valueBehind_51 : decode cX1_valueBehind 51 = .ok (.getfield 20, 3) := by decide +kernel
theorem dX1_valueBehind_54 : decode cX1_valueBehind 54 = .ok (.iload 5, 2) := by decide +kernel
theorem dX1_valueBehind_56 : decode cX1_valueBehind 56 = .ok (.iconst 1, 1) := by decide +kernel
theorem dX1_valueBehind_57 : decode cX1_valueBehind 57 = .ok (.invokevirtual 57, 3) := by decide +kernel
theorem dX1_valueBehind_60 : decode cX1_valueBehind 60 = .ok (.iload_n 1, 1) := by decide +kernel
theorem dX1_valueBehind_61 : decode cX1_valueBehind 61 = .ok (.if_icmp .ne 31, 3) := by decide +kernel
theorem dX1_valueBehind_64 : decode cX1_valueBehind 64 = .ok (.iload 6, 2) := by decide +kernel
theorem dX1_valueBehind_66 : decode cX1_valueBehind 66 = .ok (.iload_n 2, 1) := by decide +kernel
theorem dX1_valueBehind_67 : decode cX1_valueBehind 67 = .ok (.if_icmp .gt 25, 3) := by decide +kernel
theorem dX1_valueBehind_70 : decode cX1_valueBehind 70 = .ok (.iload 6, 2) := by decide +kernel
theorem dX1_valueBehind_72 : decode cX1_valueBehind 72 = .ok (.iload 4, 2) := by decide +kernel
theorem dX1_valueBehind_74 : decode cX1_valueBehind 74 = .ok (.if_icmp .lt 18, 3) := by decide +kernel
theorem dX1_valueBehind_77 : decode cX1_valueBehind 77 = .ok (.iload 6, 2) := by decide +kernel
theorem dX1_valueBehind_79 : decode cX1_valueBehind 79 = .ok (.istore 4, 2) := by decide +kernel
theorem dX1_valueBehind_81 : decode cX1_valueBehind 81 = .ok (.aload_n 0, 1) := by decide +kernel
theorem dX1_valueBehind_82 : decode cX1_valueBehind 82 = .ok (.getfield 20, 3) := by decide +kernel
theorem dX1_valueBehind_85 : decode cX1_valueBehind 85 = .ok (.iload 5, 2) := by decide +kernel
theorem dX1_valueBehind_87 : decode cX1_valueBehind 87 = .ok (.iconst 2, 1) := by decide +kernel
theorem dX1_valueBehind_88 : decode cX1_valueBehind 88 = .ok (.invokevirtual 57, 3) := by decide +kernel
theorem dX1_valueBehind_91 : decode cX1_valueBehind 91 = .ok (.istore_n 3, 1) := by decide +kernel
theorem dX1_valueBehind_92 : decode cX1_valueBehind 92 = .ok (.iinc 5 1, 3) := by decide +kernel
theorem dX1_valueBehind_95 : decode cX1_valueBehind 95 = .ok (.goto (-69), 3) := by decide +kernel
theorem dX1_valueBehind_98 : decode cX1_valueBehind 98 = .ok (.iload_n 3, 1) := by decide +kernel
theorem dX1_valueBehind_99 : decode cX1_valueBehind 99 = .ok (.ireturn, 1) := by decide +kernel
theorem dX1_namesOnlyKin_0 : decode cX1_namesOnlyKin 0 = .ok (.iconst 0, 1) := by decide +kernel
theorem dX1_namesOnlyKin_1 : decode cX1_namesOnlyKin 1 = .ok (.istore_n 1, 1) := by decide +kernel
theorem dX1_namesOnlyKin_2 : decode cX1_namesOnlyKin 2 = .ok (.iload_n 1, 1) := by decide +kernel
theorem dX1_namesOnlyKin_3 : decode cX1_namesOnlyKin 3 = .ok (.bipush 10, 2) := by decide +kernel
theorem dX1_namesOnlyKin_5 : decode cX1_namesOnlyKin 5 = .ok (.if_icmp .ge 35, 3) := by decide +kernel
theorem dX1_namesOnlyKin_8 : decode cX1_namesOnlyKin 8 = .ok (.aload_n 0, 1) := by decide +kernel
theorem dX1_namesOnlyKin_9 : decode cX1_namesOnlyKin 9 = .ok (.getfield 33, 3) := by decide +kernel
theorem dX1_namesOnlyKin_12 : decode cX1_namesOnlyKin 12 = .ok (.iload_n 1, 1) := by decide +kernel
theorem dX1_namesOnlyKin_13 : decode cX1_namesOnlyKin 13 = .ok (.iaload, 1) := by decide +kernel
theorem dX1_namesOnlyKin_14 : decode cX1_namesOnlyKin 14 = .ok (.bipush (-4), 2) := by decide +kernel
theorem dX1_namesOnlyKin_16 : decode cX1_namesOnlyKin 16 = .ok (.if_icmp .eq 18, 3) := by decide +kernel
theorem dX1_namesOnlyKin_19 : decode cX1_namesOnlyKin 19 = .ok (.aload_n 0, 1) := by decide +kernel
theorem dX1_namesOnlyKin_20 : decode cX1_namesOnlyKin 20 = .ok (.aload_n 0, 1) := by decide +kernel
theorem dX1_namesOnlyKin_21 : decode cX1_namesOnlyKin 21 = .ok (.getfield 33, 3) := by decide +kernel
theorem dX1_namesOnlyKin_24 : decode cX1_namesOnlyKin 24 = .ok (.iload_n 1, 1) := by decide +kernel
theorem dX1_namesOnlyKin_25 : decode cX1_namesOnlyKin 25 = .ok (.iaload, 1) := by decide +kernel
theorem dX1_namesOnlyKin_26 : decode cX1_namesOnlyKin 26 = .ok (.invokevirtual 71, 3) := by decide +kernel
theorem dX1_namesOnlyKin_29 : decode cX1_namesOnlyKin 29 = .ok (.ifCond .ne 5, 3) := by decide +kernel
theorem dX1_namesOnlyKin_32 : decode cX1_namesOnlyKin 32 = .ok (.iconst 0, 1) := by decide +kernel
theorem dX1_namesOnlyKin_33 : decode cX1_namesOnlyKin 33 = .ok (.ireturn, 1) := by decide +kernel
theorem dX1_namesOnlyKin_34 : decode cX1_namesOnlyKin 34 = .ok (.iinc 1 1, 3) := by decide +kernel
theorem dX1_namesOnlyKin_37 : decode cX1_namesOnlyKin 37 = .ok (.goto (-35), 3) := by decide +kernel
theorem dX1_namesOnlyKin_40 : decode cX1_namesOnlyKin 40 = .ok (.iconst 0, 1) := by decide +kernel
theorem dX1_namesOnlyKin_41 : decode cX1_namesOnlyKin 41 = .ok (.istore_n 1, 1) := by decide +kernel
theorem dX1_namesOnlyKin_42 : decode cX1_namesOnlyKin 42 = .ok (.iload_n 1, 1) := by decide +kernel
theorem dX1_namesOnlyKin_43 : decode cX1_namesOnlyKin 43 = .ok (.aload_n 0, 1) := by decide +kernel
theorem dX1_namesOnlyKin_44 : decode cX1_namesOnlyKin 44 = .ok (.getfield 23, 3) := by decide +kernel
theorem dX1_namesOnlyKin_47 : decode cX1_namesOnlyKin 47 = .ok (.getfield 39, 3) := by decide +kernel
theorem dX1_namesOnlyKin_50 : decode cX1_namesOnlyKin 50 = .ok (.if_icmp .ge 27, 3) := by decide +kernel
theorem dX1_namesOnlyKin_53 : decode cX1_namesOnlyKin 53 = .ok (.aload_n 0, 1) := by decide +kernel
theorem dX1_namesOnlyKin_54 : decode cX1_namesOnlyKin 54 = .ok (.aload_n 0, 1) := by decide +kernel
theorem dX1_namesOnlyKin_55 : decode cX1_namesOnlyKin 55 = .ok (.getfield 23, 3) := by decide +kernel
theorem dX1_namesOnlyKin_58 : decode cX1_namesOnlyKin 58 = .ok (.iload_n 1, 1) := by decide +kernel
theorem dX1_namesOnlyKin_59 : decode cX1_namesOnlyKin 59 = .ok (.iconst 0, 1) := by decide +kernel
theorem dX1_namesOnlyKin_60 : decode cX1_namesOnlyKin 60 = .ok (.invokevirtual 57, 3) := by decide +kernel
theorem dX1_namesOnlyKin_63 : decode cX1_namesOnlyKin 63 = .ok (.invokevirtual 71, 3) := by decide +kernel
theorem dX1_namesOnlyKin_66 : decode cX1_namesOnlyKin 66 = .ok (.ifCond .ne 5, 3) := by decide +kernel
theorem dX1_namesOnlyKin_69 : decode cX1_namesOnlyKin 69 = .ok (.iconst 0, 1) := by decide +kernel
theorem dX1_namesOnlyKin_70 : decode cX1_namesOnlyKin 70 = .ok (.ireturn, 1) := by decide +kernel
theorem dX1_namesOnlyKin_71 : decode cX1_namesOnlyKin 71 = .ok (.iinc 1 1, 3) := by decide +kernel
theorem dX1_namesOnlyKin_74 : decode cX1_namesOnlyKin 74 = .ok (.goto (-32), 3) := by decide +kernel
theorem dX1_namesOnlyKin_77 : decode cX1_namesOnlyKin 77 = .ok (.iconst 0, 1) := by decide +kernel
theorem dX1_namesOnlyKin_78 : decode cX1_namesOnlyKin 78 = .ok (.istore_n 1, 1) := by decide +kernel
theorem dX1_namesOnlyKin_79 : decode cX1_namesOnlyKin 79 = .ok (.iload_n 1, 1) := by decide +kernel
theorem dX1_namesOnlyKin_80 : decode cX1_namesOnlyKin 80 = .ok (.aload_n 0, 1) := by decide +kernel
theorem dX1_namesOnlyKin_81 : decode cX1_namesOnlyKin 81 = .ok (.getfield 26, 3) := by decide +kernel
theorem dX1_namesOnlyKin_84 : decode cX1_namesOnlyKin 84 = .ok (.getfield 39, 3) := by decide +kernel
theorem dX1_namesOnlyKin_87 : decode cX1_namesOnlyKin 87 = .ok (.if_icmp .ge 43, 3) := by decide +kernel
theorem dX1_namesOnlyKin_90 : decode cX1_namesOnlyKin 90 = .ok (.aload_n 0, 1) := by decide +kernel
theorem dX1_namesOnlyKin_91 : decode cX1_namesOnlyKin 91 = .ok (.aload_n 0, 1) := by decide +kernel
theorem dX1_namesOnlyKin_92 : decode cX1_namesOnlyKin 92 = .ok (.getfield 26, 3) := by decide +kernel
theorem dX1_namesOnlyKin_95 : decode cX1_namesOnlyKin 95 = .ok (.iload_n 1, 1) := by decide +kernel
theorem dX1_namesOnlyKin_96 : decode cX1_namesOnlyKin 96 = .ok (.iconst 1, 1) := by decide +kernel
theorem dX1_namesOnlyKin_97 : decode cX1_namesOnlyKin 97 = .ok (.invokevirtual 57, 3) := by decide +kernel
theorem dX1_namesOnlyKin_100 : decode cX1_namesOnlyKin 100 = .ok (.invokevirtual 71, 3) := by decide +kernel
theorem dX1_namesOnlyKin_103 : decode cX1_namesOnlyKin 103 = .ok (.ifCond .eq 19, 3) := by decide +kernel
theorem dX1_namesOnlyKin_106 : decode cX1_namesOnlyKin 106 = .ok (.aload_n 0, 1) := by decide +kernel
theorem dX1_namesOnlyKin_107 : decode cX1_namesOnlyKin 107 = .ok (.aload_n 0, 1) := by decide +kernel
theorem dX1_namesOnlyKin_108 : decode cX1_namesOnlyKin 108 = .ok (.getfield 26, 3) := by decide +kernel
theorem dX1_namesOnlyKin_111 : decode cX1_namesOnlyKin 111 = .ok (.iload_n 1, 1) := by decide +kernel
theorem dX1_namesOnlyKin_112 : decode cX1_namesOnlyKin 112 = .ok (.iconst 2, 1) := by decide +kernel
theorem dX1_namesOnlyKin_113 : decode cX1_namesOnlyKin 113 = .ok (.invokevirtual 57, 3) := by decide +kernel
theorem dX1_namesOnlyKin_116 : decode cX1_namesOnlyKin 116 = .ok (.invokevirtual 71, 3) := by decide +kernel
theorem dX1_namesOnlyKin_119 : decode cX1_namesOnlyKin 119 = .ok (.ifCond .ne 5, 3) := by decide +kernel
theorem dX1_namesOnlyKin_122 : decode cX1_namesOnlyKin 122 = .ok (.iconst 0, 1) := by decide +kernel
theorem dX1_namesOnlyKin_123 : decode cX1_namesOnlyKin 123 = .ok (.ireturn, 1) := by decide +kernel
theorem dX1_namesOnlyKin_124 : decode cX1_namesOnlyKin 124 = .ok (.iinc 1 1, 3) := by decide +kernel
theorem dX1_namesOnlyKin_127 : decode cX1_namesOnlyKin 127 = .ok (.goto (-48), 3) := by decide +kernel
theorem dX1_namesOnlyKin_130 : decode cX1_namesOnlyKin 130 = .ok (.iconst 1, 1) := by decide +kernel
theorem dX1_namesOnlyKin_131 : decode cX1_namesOnlyKin 131 = .ok (.ireturn, 1) := by decide +kernel
theorem dX2_shareMet_0 : decode cX2_shareMet 0 = .ok (.ldc2_w 11, 3) := by decide +kernel
theorem dX2_shareMet_3 : decode cX2_shareMet 3 = .ok (.lstore_n 2, 1) := by decide +kernel
theorem dX2_shareMet_4 : decode cX2_shareMet 4 = .ok (.iconst 0, 1) := by decide +kernel
theorem dX2_shareMet_5 : decode cX2_shareMet 5 = .ok (.istore 4, 2) := by decide +kernel
theorem dX2_shareMet_7 : decode cX2_shareMet 7 = .ok (.iload 4, 2) := by decide +kernel
theorem dX2_shareMet_9 : decode cX2_shareMet 9 = .ok (.iload_n 1, 1) := by decide +kernel
theorem dX2_shareMet_10 : decode cX2_shareMet 10 = .ok (.if_icmp .ge 24, 3) := by decide +kernel
theorem dX2_shareMet_13 : decode cX2_shareMet 13 = .ok (.iload 4, 2) := by decide +kernel
theorem dX2_shareMet_15 : decode cX2_shareMet 15 = .ok (.iconst 5, 1) := by decide +kernel
theorem dX2_shareMet_16 : decode cX2_shareMet 16 = .ok (.if_icmp .ge 18, 3) := by decide +kernel
theorem dX2_shareMet_19 : decode cX2_shareMet 19 = .ok (.lload_n 2, 1) := by decide +kernel
theorem dX2_shareMet_20 : decode cX2_shareMet 20 = .ok (.ldc2_w 13, 3) := by decide +kernel
theorem dX2_shareMet_23 : decode cX2_shareMet 23 = .ok (.ldiv, 1) := by decide +kernel
theorem dX2_shareMet_24 : decode cX2_shareMet 24 = .ok (.iload_n 0, 1) := by decide +kernel
theorem dX2_shareMet_25 : decode cX2_shareMet 25 = .ok (.i2l, 1) := by decide +kernel
theorem dX2_shareMet_26 : decode cX2_shareMet 26 = .ok (.lmul, 1) := by decide +kernel
theorem dX2_shareMet_27 : decode cX2_shareMet 27 = .ok (.lstore_n 2, 1) := by decide +kernel
theorem dX2_shareMet_28 : decode cX2_shareMet 28 = .ok (.iinc 4 1, 3) := by decide +kernel
theorem dX2_shareMet_31 : decode cX2_shareMet 31 = .ok (.goto (-24), 3) := by decide +kernel
theorem dX2_shareMet_34 : decode cX2_shareMet 34 = .ok (.ldc2_w 11, 3) := by decide +kernel
theorem dX2_shareMet_37 : decode cX2_shareMet 37 = .ok (.lload_n 2, 1) := by decide +kernel
theorem dX2_shareMet_38 : decode cX2_shareMet 38 = .ok (.lsub, 1) := by decide +kernel
theorem dX2_shareMet_39 : decode cX2_shareMet 39 = .ok (.lreturn, 1) := by decide +kernel
theorem dX2_part_0 : decode cX2_part 0 = .ok (.lload_n 0, 1) := by decide +kernel
theorem dX2_part_1 : decode cX2_part 1 = .ok (.ldc2_w 11, 3) := by decide +kernel
theorem dX2_part_4 : decode cX2_part 4 = .ok (.invokestatic 15, 3) := by decide +kernel
theorem dX2_part_7 : decode cX2_part 7 = .ok (.lstore_n 3, 1) := by decide +kernel
theorem dX2_part_8 : decode cX2_part 8 = .ok (.lload_n 3, 1) := by decide +kernel
theorem dX2_part_9 : decode cX2_part 9 = .ok (.lconst 1, 1) := by decide +kernel
theorem dX2_part_10 : decode cX2_part 10 = .ok (.lcmp, 1) := by decide +kernel
theorem dX2_part_11 : decode cX2_part 11 = .ok (.ifCond .ge 7, 3) := by decide +kernel
theorem dX2_part_14 : decode cX2_part 14 = .ok (.ldc2_w 19, 3) := by decide +kernel
theorem dX2_part_17 : decode cX2_part 17 = .ok (.lreturn, 1) := by decide +kernel
theorem dX2_part_18 : decode cX2_part 18 = .ok (.iload_n 2, 1) := by decide +kernel
theorem dX2_part_19 : decode cX2_part 19 = .ok (.ifCond .ne 7, 3) := by decide +kernel
theorem dX2_part_22 : decode cX2_part 22 = .ok (.lload_n 0, 1) := by decide +kernel
theorem dX2_part_23 : decode cX2_part 23 = .ok (.goto 6, 3) := by decide +kernel
theorem dX2_part_26 : decode cX2_part 26 = .ok (.ldc2_w 11, 3) := by decide +kernel
theorem dX2_part_29 : decode cX2_part 29 = .ok (.lload_n 3, 1) := by decide +kernel
theorem dX2_part_30 : decode cX2_part 30 = .ok (.ldiv, 1) := by decide +kernel
theorem dX2_part_31 : decode cX2_part 31 = .ok (.lreturn, 1) := by decide +kernel
theorem dX2_greatestCommon_0 : decode cX2_greatestCommon 0 = .ok (.lload_n 0, 1) := by decide +kernel
theorem dX2_greatestCommon_1 : decode cX2_greatestCommon 1 = .ok (.lstore 4, 2) := by decide +kernel
theorem dX2_greatestCommon_3 : decode cX2_greatestCommon 3 = .ok (.lload_n 2, 1) := by decide +kernel
theorem dX2_greatestCommon_4 : decode cX2_greatestCommon 4 = .ok (.lstore 6, 2) := by decide +kernel
theorem dX2_greatestCommon_6 : decode cX2_greatestCommon 6 = .ok (.iconst 0, 1) := by decide +kernel
theorem dX2_greatestCommon_7 : decode cX2_greatestCommon 7 = .ok (.istore 8, 2) := by decide +kernel
theorem dX2_greatestCommon_9 : decode cX2_greatestCommon 9 = .ok (.iload 8, 2) := by decide +kernel
theorem dX2_greatestCommon_11 : decode cX2_greatestCommon 11 = .ok (.bipush 100, 2) := by decide +kernel
theorem dX2_greatestCommon_13 : decode cX2_greatestCommon 13 = .ok (.if_icmp .ge 31, 3) := by decide +kernel
theorem dX2_greatestCommon_16 : decode cX2_greatestCommon 16 = .ok (.lload 4, 2) := by decide +kernel
theorem dX2_greatestCommon_18 : decode cX2_greatestCommon 18 = .ok (.lconst 0, 1) := by decide +kernel
theorem dX2_greatestCommon_19 : decode cX2_greatestCommon 19 = .ok (.lcmp, 1) := by decide +kernel
theorem dX2_greatestCommon_20 : decode cX2_greatestCommon 20 = .ok (.ifCond .eq 24, 3) := by decide +kernel
theorem dX2_greatestCommon_23 : decode cX2_greatestCommon 23 = .ok (.lload 6, 2) := by decide +kernel
theorem dX2_greatestCommon_25 : decode cX2_greatestCommon 25 = .ok (.lload 4, 2) := by decide +kernel
theorem dX2_greatestCommon_27 : decode cX2_greatestCommon 27 = .ok (.lrem, 1) := by decide +kernel
theorem dX2_greatestCommon_28 : decode cX2_greatestCommon 28 = .ok (.lstore 9, 2) := by decide +kernel
theorem dX2_greatestCommon_30 : decode cX2_greatestCommon 30 = .ok (.lload 4, 2) := by decide +kernel
theorem dX2_greatestCommon_32 : decode cX2_greatestCommon 32 = .ok (.lstore 6, 2) := by decide +kernel
theorem dX2_greatestCommon_34 : decode cX2_greatestCommon 34 = .ok (.lload 9, 2) := by decide +kernel
theorem dX2_greatestCommon_36 : decode cX2_greatestCommon 36 = .ok (.lstore 4, 2) := by decide +kernel
theorem dX2_greatestCommon_38 : decode cX2_greatestCommon 38 = .ok (.iinc 8 1, 3) := by decide +kernel
theorem dX2_greatestCommon_41 : decode cX2_greatestCommon 41 = .ok (.goto (-32), 3) := by decide +kernel
theorem dX2_greatestCommon_44 : decode cX2_greatestCommon 44 = .ok (.lload 6, 2) := by decide +kernel
theorem dX2_greatestCommon_46 : decode cX2_greatestCommon 46 = .ok (.lreturn, 1) := by decide +kernel
theorem dX3_init_0 : decode cX3_init 0 = .ok (.aload_n 0, 1) := by decide +kernel
theorem dX3_init_1 : decode cX3_init 1 = .ok (.invokespecial 3, 3) := by decide +kernel
theorem dX3_init_4 : decode cX3_init 4 = .ok (.aload_n 0, 1) := by decide +kernel
theorem dX3_init_5 : decode cX3_init 5 = .ok (.bipush 40, 2) := by decide +kernel
theorem dX3_init_7 : decode cX3_init 7 = .ok (.newarray .int, 2) := by decide +kernel
theorem dX3_init_9 : decode cX3_init 9 = .ok (.putfield 9, 3) := by decide +kernel
theorem dX3_init_12 : decode cX3_init 12 = .ok (.aload_n 0, 1) := by decide +kernel
theorem dX3_init_13 : decode cX3_init 13 = .ok (.bipush (-4), 2) := by decide +kernel
theorem dX3_init_15 : decode cX3_init 15 = .ok (.putfield 15, 3) := by decide +kernel
theorem dX3_init_18 : decode cX3_init 18 = .ok (.return_, 1) := by decide +kernel
theorem dX3_makeNew_0 : decode cX3_makeNew 0 = .ok (.aload_n 0, 1) := by decide +kernel
theorem dX3_makeNew_1 : decode cX3_makeNew 1 = .ok (.iload_n 1, 1) := by decide +kernel
theorem dX3_makeNew_2 : decode cX3_makeNew 2 = .ok (.putfield 19, 3) := by decide +kernel
theorem dX3_makeNew_5 : decode cX3_makeNew 5 = .ok (.aload_n 0, 1) := by decide +kernel
theorem dX3_makeNew_6 : decode cX3_makeNew 6 = .ok (.iload_n 2, 1) := by decide +kernel
theorem dX3_makeNew_7 : decode cX3_makeNew 7 = .ok (.bipush 40, 2) := by decide +kernel
theorem dX3_makeNew_9 : decode cX3_makeNew 9 = .ok (.invokestatic 22, 3) := by decide +kernel
theorem dX3_makeNew_12 : decode cX3_makeNew 12 = .ok (.putfield 15, 3) := by decide +kernel
theorem dX3_makeNew_15 : decode cX3_makeNew 15 = .ok (.iconst 0, 1) := by decide +kernel
theorem dX3_makeNew_16 : decode cX3_makeNew 16 = .ok (.istore_n 3, 1) := by decide +kernel
theorem dX3_makeNew_17 : decode cX3_makeNew 17 = .ok (.iload_n 3, 1) := by decide +kernel
theorem dX3_makeNew_18 : decode cX3_makeNew 18 = .ok (.bipush 40, 2) := by decide +kernel
theorem dX3_makeNew_20 : decode cX3_makeNew 20 = .ok (.if_icmp .ge 16, 3) := by decide +kernel
theorem dX3_makeNew_23 : decode cX3_makeNew 23 = .ok (.aload_n 0, 1) := by decide +kernel
theorem dX3_makeNew_24 : decode cX3_makeNew 24 = .ok (.getfield 9, 3) := by decide +kernel
theorem dX3_makeNew_27 : decode cX3_makeNew 27 = .ok (.iload_n 3, 1) := by decide +kernel
theorem dX3_makeNew_28 : decode cX3_makeNew 28 = .ok (.iconst 0, 1) := by decide +kernel
theorem dX3_makeNew_29 : decode cX3_makeNew 29 = .ok (.iastore, 1) := by decide +kernel
theorem dX3_makeNew_30 : decode cX3_makeNew 30 = .ok (.iinc 3 1, 3) := by decide +kernel
theorem dX3_makeNew_33 : decode cX3_makeNew 33 = .ok (.goto (-16), 3) := by decide +kernel
theorem dX3_makeNew_36 : decode cX3_makeNew 36 = .ok (.return_, 1) := by decide +kernel
theorem dX3_faultAt_0 : decode cX3_faultAt 0 = .ok (.aload_n 0, 1) := by decide +kernel
theorem dX3_faultAt_1 : decode cX3_faultAt 1 = .ok (.getfield 15, 3) := by decide +kernel
theorem dX3_faultAt_4 : decode cX3_faultAt 4 = .ok (.bipush (-4), 2) := by decide +kernel
theorem dX3_faultAt_6 : decode cX3_faultAt 6 = .ok (.if_icmp .ne 5, 3) := by decide +kernel
theorem dX3_faultAt_9 : decode cX3_faultAt 9 = .ok (.iconst 1, 1) := by decide +kernel
theorem dX3_faultAt_10 : decode cX3_faultAt 10 = .ok (.ireturn, 1) := by decide +kernel
theorem dX3_faultAt_11 : decode cX3_faultAt 11 = .ok (.iload_n 1, 1) := by decide +kernel
theorem dX3_faultAt_12 : decode cX3_faultAt 12 = .ok (.ifCond .lt 11, 3) := by decide +kernel
theorem dX3_faultAt_15 : decode cX3_faultAt 15 = .ok (.iload_n 1, 1) := by decide +kernel
theorem dX3_faultAt_16 : decode cX3_faultAt 16 = .ok (.aload_n 0, 1) := by decide +kernel
theorem dX3_faultAt_17 : decode cX3_faultAt 17 = .ok (.getfield 15, 3) := by decide +kernel
theorem dX3_faultAt_20 : decode cX3_faultAt 20 = .ok (.if_icmp .lt 7, 3) := by decide +kernel
theorem dX3_faultAt_23 : decode cX3_faultAt 23 = .ok (.iconst 2, 1) := by decide +kernel
theorem dX3_faultAt_24 : decode cX3_faultAt 24 = .ok (.goto 4, 3) := by decide +kernel
theorem dX3_faultAt_27 : decode cX3_faultAt 27 = .ok (.iconst 0, 1) := by decide +kernel
theorem dX3_faultAt_28 : decode cX3_faultAt 28 = .ok (.ireturn, 1) := by decide +kernel
theorem dX3_faultOfPair_0 : decode cX3_faultOfPair 0 = .ok (.aload_n 0, 1) := by decide +kernel
theorem dX3_faultOfPair_1 : decode cX3_faultOfPair 1 = .ok (.getfield 15, 3) := by decide +kernel
theorem dX3_faultOfPair_4 : decode cX3_faultOfPair 4 = .ok (.bipush (-4), 2) := by decide +kernel
theorem dX3_faultOfPair_6 : decode cX3_faultOfPair 6 = .ok (.if_icmp .eq 13, 3) := by decide +kernel
theorem dX3_faultOfPair_9 : decode cX3_faultOfPair 9 = .ok (.aload_n 0, 1) := by decide +kernel
theorem dX3_faultOfPair_10 : decode cX3_faultOfPair 10 = .ok (.getfield 19, 3) := by decide +kernel
theorem dX3_faultOfPair_13 : decode cX3_faultOfPair 13 = .ok (.iload_n 1, 1) := by decide +kernel
theorem dX3_faultOfPair_14 : decode cX3_faultOfPair 14 = .ok (.if_icmp .eq 5, 3) := by decide +kernel
theorem dX3_faultOfPair_17 : decode cX3_faultOfPair 17 = .ok (.iconst 3, 1) := by decide +kernel
theorem dX3_faultOfPair_18 : decode cX3_faultOfPair 18 = .ok (.ireturn, 1) := by decide +kernel
theorem dX3_faultOfPair_19 : decode cX3_faultOfPair 19 = .ok (.aload_n 0, 1) := by decide +kernel
theorem dX3_faultOfPair_20 : decode cX3_faultOfPair 20 = .ok (.iload_n 2, 1) := by decide +kernel
theorem dX3_faultOfPair_21 : decode cX3_faultOfPair 21 = .ok (.invokevirtual 28, 3) := by decide +kernel
theorem dX3_faultOfPair_24 : decode cX3_faultOfPair 24 = .ok (.istore_n 3, 1) := by decide +kernel
theorem dX3_faultOfPair_25 : decode cX3_faultOfPair 25 = .ok (.iload_n 3, 1) := by decide +kernel
theorem dX3_faultOfPair_26 : decode cX3_faultOfPair 26 = .ok (.ifCond .eq 7, 3) := by decide +kernel
theorem dX3_faultOfPair_29 : decode cX3_faultOfPair 29 = .ok (.iload_n 3, 1) := by decide +kernel
theorem dX3_faultOfPair_30 : decode cX3_faultOfPair 30 = .ok (.goto 10, 3) := by decide +kernel
theorem dX3_faultOfPair_33 : decode cX3_faultOfPair 33 = .ok (.aload_n 0, 1) := by decide +kernel
theorem dX3_faultOfPair_34 : decode cX3_faultOfPair 34 = .ok (.iload_n 2, 1) := by decide +kernel
theorem dX3_faultOfPair_35 : decode cX3_faultOfPair 35 = .ok (.iconst 1, 1) := by decide +kernel
theorem dX3_faultOfPair_36 : decode cX3_faultOfPair 36 = .ok (.iadd, 1) := by decide +kernel
theorem dX3_faultOfPair_37 : decode cX3_faultOfPair 37 = .ok (.invokevirtual 28, 3) := by decide +kernel
theorem dX3_faultOfPair_40 : decode cX3_faultOfPair 40 = .ok (.ireturn, 1) := by decide +kernel
theorem dX3_cellAt_0 : decode cX3_cellAt 0 = .ok (.iload_n 1, 1) := by decide +kernel
theorem dX3_cellAt_1 : decode cX3_cellAt 1 = .ok (.ifCond .lt 20, 3) := by decide +kernel
theorem dX3_cellAt_4 : decode cX3_cellAt 4 = .ok (.iload_n 1, 1) := by decide +kernel
theorem dX3_cellAt_5 : decode cX3_cellAt 5 = .ok (.aload_n 0, 1) := by decide +kernel
theorem dX3_cellAt_6 : decode cX3_cellAt 6 = .ok (.getfield 15, 3) := by decide +kernel
theorem dX3_cellAt_9 : decode cX3_cellAt 9 = .ok (.if_icmp .ge 12, 3) := by decide +kernel
theorem dX3_cellAt_12 : decode cX3_cellAt 12 = .ok (.aload_n 0, 1) := by decide +kernel
theorem dX3_cellAt_13 : decode cX3_cellAt 13 = .ok (.getfield 9, 3) := by decide +kernel
theorem dX3_cellAt_16 : decode cX3_cellAt 16 = .ok (.iload_n 1, 1) := by decide +kernel
theorem dX3_cellAt_17 : decode cX3_cellAt 17 = .ok (.iaload, 1) := by decide +kernel
theorem dX3_cellAt_18 : decode cX3_cellAt 18 = .ok (.goto 4, 3) := by decide +kernel
theorem dX3_cellAt_21 : decode cX3_cellAt 21 = .ok (.iconst 0, 1) := by decide +kernel
theorem dX3_cellAt_22 : decode cX3_cellAt 22 = .ok (.ireturn, 1) := by decide +kernel
theorem dX3_putCell_0 : decode cX3_putCell 0 = .ok (.iload_n 1, 1) := by decide +kernel
theorem dX3_putCell_1 : decode cX3_putCell 1 = .ok (.ifCond .lt 43, 3) := by decide +kernel
theorem dX3_putCell_4 : decode cX3_putCell 4 = .ok (.iload_n 1, 1) := by decide +kernel
theorem dX3_putCell_5 : decode cX3_putCell 5 = .ok (.aload_n 0, 1) := by decide +kernel
theorem dX3_putCell_6 : decode cX3_putCell 6 = .ok (.getfield 15, 3) := by decide +kernel
theorem dX3_putCell_9 : decode cX3_putCell 9 = .ok (.if_icmp .ge 35, 3) := by decide +kernel
theorem dX3_putCell_12 : decode cX3_putCell 12 = .ok (.aload_n 0, 1) := by decide +kernel
theorem dX3_putCell_13 : decode cX3_putCell 13 = .ok (.getfield 9, 3) := by decide +kernel
theorem dX3_putCell_16 : decode cX3_putCell 16 = .ok (.iload_n 1, 1) := by decide +kernel
theorem dX3_putCell_17 : decode cX3_putCell 17 = .ok (.aload_n 0, 1) := by decide +kernel
theorem dX3_putCell_18 : decode cX3_putCell 18 = .ok (.getfield 19, 3) := by decide +kernel
theorem dX3_putCell_21 : decode cX3_putCell 21 = .ok (.ifCond .ne 8, 3) := by decide +kernel
theorem dX3_putCell_24 : decode cX3_putCell 24 = .ok (.iload_n 2, 1) := by decide +kernel
theorem dX3_putCell_25 : decode cX3_putCell 25 = .ok (.i2b, 1) := by decide +kernel
theorem dX3_putCell_26 : decode cX3_putCell 26 = .ok (.goto 17, 3) := by decide +kernel
theorem dX3_putCell_29 : decode cX3_putCell 29 = .ok (.aload_n 0, 1) := by decide +kernel
theorem dX3_putCell_30 : decode cX3_putCell 30 = .ok (.getfield 19, 3) := by decide +kernel
theorem dX3_putCell_33 : decode cX3_putCell 33 = .ok (.iconst 1, 1) := by decide +kernel
theorem dX3_putCell_34 : decode cX3_putCell 34 = .ok (.if_icmp .ne 8, 3) := by decide +kernel
theorem dX3_putCell_37 : decode cX3_putCell 37 = .ok (.iload_n 2, 1) := by decide +kernel
theorem dX3_putCell_38 : decode cX3_putCell 38 = .ok (.i2s, 1) := by decide +kernel
theorem dX3_putCell_39 : decode cX3_putCell 39 = .ok (.goto 4, 3) := by decide +kernel
theorem dX3_putCell_42 : decode cX3_putCell 42 = .ok (.iload_n 2, 1) := by decide +kernel
theorem dX3_putCell_43 : decode cX3_putCell 43 = .ok (.iastore, 1) := by decide +kernel
theorem dX3_putCell_44 : decode cX3_putCell 44 = .ok (.return_, 1) := by decide +kernel
theorem dX4_init_0 : decode cX4_init 0 = .ok (.aload_n 0, 1) := by decide +kernel
theorem dX4_init_1 : decode cX4_init 1 = .ok (.invokespecial 3, 3) := by decide +kernel
theorem dX4_init_4 : decode cX4_init 4 = .ok (.aload_n 0, 1) := by decide +kernel
theorem dX4_init_5 : decode cX4_init 5 = .ok (.sipush 2112, 3) := by decide +kernel
theorem dX4_init_8 : decode cX4_init 8 = .ok (.newarray .int, 2) := by decide +kernel
theorem dX4_init_10 : decode cX4_init 10 = .ok (.putfield 11, 3) := by decide +kernel
theorem dX4_init_13 : decode cX4_init 13 = .ok (.aload_n 0, 1) := by decide +kernel
theorem dX4_init_14 : decode cX4_init 14 = .ok (.bipush 6, 2) := by decide +kernel
theorem dX4_init_16 : decode cX4_init 16 = .ok (.newarray .int, 2) := by decide +kernel
theorem dX4_init_18 : decode cX4_init 18 = .ok (.putfield 15, 3) := by decide +kernel
theorem dX4_init_21 : decode cX4_init 21 = .ok (.aload_n 0, 1) := by decide +kernel
theorem dX4_init_22 : decode cX4_init 22 = .ok (.bipush 10, 2) := by decide +kernel
theorem dX4_init_24 : decode cX4_init 24 = .ok (.newarray .int, 2) := by decide +kernel
theorem dX4_init_26 : decode cX4_init 26 = .ok (.putfield 18, 3) := by decide +kernel
theorem dX4_init_29 : decode cX4_init 29 = .ok (.aload_n 0, 1) := by decide +kernel
theorem dX4_init_30 : decode cX4_init 30 = .ok (.new 21, 3) := by decide +kernel
theorem dX4_init_33 : decode cX4_init 33 = .ok (.dup, 1) := by decide +kernel
theorem dX4_init_34 : decode cX4_init 34 = .ok (.iconst 2, 1) := by decide +kernel
theorem dX4_init_35 : decode cX4_init 35 = .ok (.iconst 5, 1) := by decide +kernel
theorem dX4_init_36 : decode cX4_init 36 = .ok (.invokespecial 23, 3) := by decide +kernel
theorem dX4_init_39 : decode cX4_init 39 = .ok (.putfield 26, 3) := by decide +kernel
theorem dX4_init_42 : decode cX4_init 42 = .ok (.aload_n 0, 1) := by decide +kernel
theorem dX4_init_43 : decode cX4_init 43 = .ok (.new 21, 3) := by decide +kernel
theorem dX4_init_46 : decode cX4_init 46 = .ok (.dup, 1) := by decide +kernel
theorem dX4_init_47 : decode cX4_init 47 = .ok (.iconst 4, 1) := by decide +kernel
theorem dX4_init_48 : decode cX4_init 48 = .ok (.iconst 5, 1) := by decide +kernel
theorem dX4_init_49 : decode cX4_init 49 = .ok (.invokespecial 23, 3) := by decide +kernel
theorem dX4_init_52 : decode cX4_init 52 = .ok (.putfield 30, 3) := by decide +kernel
theorem dX4_init_55 : decode cX4_init 55 = .ok (.return_, 1) := by decide +kernel
theorem dX4_planFor_0 : decode cX4_planFor 0 = .ok (.aload_n 0, 1) := by decide +kernel
theorem dX4_planFor_1 : decode cX4_planFor 1 = .ok (.getfield 33, 3) := by decide +kernel
theorem dX4_planFor_4 : decode cX4_planFor 4 = .ok (.ifCond .eq 32, 3) := by decide +kernel
theorem dX4_planFor_7 : decode cX4_planFor 7 = .ok (.aload_n 0, 1) := by decide +kernel
theorem dX4_planFor_8 : decode cX4_planFor 8 = .ok (.getfield 26, 3) := by decide +kernel
theorem dX4_planFor_11 : decode cX4_planFor 11 = .ok (.aload_n 1, 1) := by decide +kernel
theorem dX4_planFor_12 : decode cX4_planFor 12 = .ok (.getfield 37, 3) := by decide +kernel
theorem dX4_planFor_15 : decode cX4_planFor 15 = .ok (.invokevirtual 42, 3) := by decide +kernel
theorem dX4_planFor_18 : decode cX4_planFor 18 = .ok (.ifCond .eq 18, 3) := by decide +kernel
theorem dX4_planFor_21 : decode cX4_planFor 21 = .ok (.aload_n 0, 1) := by decide +kernel
theorem dX4_planFor_22 : decode cX4_planFor 22 = .ok (.getfield 30, 3) := by decide +kernel
theorem dX4_planFor_25 : decode cX4_planFor 25 = .ok (.aload_n 1, 1) := by decide +kernel
theorem dX4_planFor_26 : decode cX4_planFor 26 = .ok (.getfield 46, 3) := by decide +kernel
theorem dX4_planFor_29 : decode cX4_planFor 29 = .ok (.invokevirtual 42, 3) := by decide +kernel
theorem dX4_planFor_32 : decode cX4_planFor 32 = .ok (.ifCond .eq 4, 3) := by decide +kernel
theorem dX4_planFor_35 : decode cX4_planFor 35 = .ok (.return_, 1) := by decide +kernel
theorem dX4_planFor_36 : decode cX4_planFor 36 = .ok (.aload_n 0, 1) := by decide +kernel
theorem dX4_planFor_37 : decode cX4_planFor 37 = .ok (.getfield 26, 3) := by decide +kernel
theorem dX4_planFor_40 : decode cX4_planFor 40 = .ok (.aload_n 1, 1) := by decide +kernel
theorem dX4_planFor_41 : decode cX4_planFor 41 = .ok (.getfield 37, 3) := by decide +kernel
theorem dX4_planFor_44 : decode cX4_planFor 44 = .ok (.invokevirtual 49, 3) := by decide +kernel
theorem dX4_planFor_47 : decode cX4_planFor 47 = .ok (.aload_n 0, 1) := by decide +kernel
theorem dX4_planFor_48 : decode cX4_planFor 48 = .ok (.getfield 30, 3) := by decide +kernel
theorem dX4_planFor_51 : decode cX4_planFor 51 = .ok (.aload_n 1, 1) := by decide +kernel
theorem dX4_planFor_52 : decode cX4_planFor 52 = .ok (.getfield 46, 3) := by decide +kernel
theorem dX4_planFor_55 : decode cX4_planFor 55 = .ok (.invokevirtual 49, 3) := by decide +kernel
theorem dX4_planFor_58 : decode cX4_planFor 58 = .ok (.aload_n 0, 1) := by decide +kernel
theorem dX4_planFor_59 : decode cX4_planFor 59 = .ok (.iconst 1, 1) := by decide +kernel
theorem dX4_planFor_60 : decode cX4_planFor 60 = .ok (.putfield 33, 3) := by decide +kernel
theorem dX4_planFor_63 : decode cX4_planFor 63 = .ok (.aload_n 0, 1) := by decide +kernel
theorem dX4_planFor_64 : decode cX4_planFor 64 = .ok (.aload_n 1, 1) := by decide +kernel
theorem dX4_planFor_65 : decode cX4_planFor 65 = .ok (.invokevirtual 53, 3) := by decide +kernel
theorem dX4_planFor_68 : decode cX4_planFor 68 = .ok (.bipush 9, 2) := by decide +kernel
theorem dX4_planFor_70 : decode cX4_planFor 70 = .ok (.istore_n 2, 1) := by decide +kernel
theorem dX4_planFor_71 : decode cX4_planFor 71 = .ok (.iload_n 2, 1) := by decide +kernel
theorem dX4_planFor_72 : decode cX4_planFor 72 = .ok (.ifCond .lt 15, 3) := by decide +kernel
theorem dX4_planFor_75 : decode cX4_planFor 75 = .ok (.aload_n 0, 1) := by decide +kernel
theorem dX4_planFor_76 : decode cX4_planFor 76 = .ok (.aload_n 1, 1) := by decide +kernel
theorem dX4_planFor_77 : decode cX4_planFor 77 = .ok (.iload_n 2, 1) := by decide +kernel
theorem dX4_planFor_78 : decode cX4_planFor 78 = .ok (.invokevirtual 57, 3) := by decide +kernel
theorem dX4_planFor_81 : decode cX4_planFor 81 = .ok (.iinc 2 (-1), 3) := by decide +kernel
theorem dX4_planFor_84 : decode cX4_planFor 84 = .ok (.goto (-13), 3) := by decide +kernel
theorem dX4_planFor_87 : decode cX4_planFor 87 = .ok (.aload_n 0, 1) := by decide +kernel
theorem dX4_planFor_88 : decode cX4_planFor 88 = .ok (.aload_n 1, 1) := by decide +kernel
theorem dX4_planFor_89 : decode cX4_planFor 89 = .ok (.invokevirtual 61, 3) := by decide +kernel
theorem dX4_planFor_92 : decode cX4_planFor 92 = .ok (.return_, 1) := by decide +kernel
theorem dX4_placeOf_0 : decode cX4_placeOf 0 = .ok (.iload_n 0, 1) := by decide +kernel
theorem dX4_placeOf_1 : decode cX4_placeOf 1 = .ok (.bipush 6, 2) := by decide +kernel
theorem dX4_placeOf_3 : decode cX4_placeOf 3 = .ok (.imul, 1) := by decide +kernel
theorem dX4_placeOf_4 : decode cX4_placeOf 4 = .ok (.iload_n 1, 1) := by decide +kernel
theorem dX4_placeOf_5 : decode cX4_placeOf 5 = .ok (.iadd, 1) := by decide +kernel
theorem dX4_placeOf_6 : decode cX4_placeOf 6 = .ok (.bipush 32, 2) := by decide +kernel
theorem dX4_placeOf_8 : decode cX4_placeOf 8 = .ok (.imul, 1) := by decide +kernel
theorem dX4_placeOf_9 : decode cX4_placeOf 9 = .ok (.iload_n 2, 1) := by decide +kernel
theorem dX4_placeOf_10 : decode cX4_placeOf 10 = .ok (.iadd, 1) := by decide +kernel
theorem dX4_placeOf_11 : decode cX4_placeOf 11 = .ok (.ireturn, 1) := by decide +kernel
theorem dX4_fillEnd_0 : decode cX4_fillEnd 0 = .ok (.iconst 1, 1) := by decide +kernel
theorem dX4_fillEnd_1 : decode cX4_fillEnd 1 = .ok (.aload_n 1, 1) := by decide +kernel
theorem dX4_fillEnd_2 : decode cX4_fillEnd 2 = .ok (.getfield 46, 3) := by decide +kernel
theorem dX4_fillEnd_5 : decode cX4_fillEnd 5 = .ok (.getfield 64, 3) := by decide +kernel
theorem dX4_fillEnd_8 : decode cX4_fillEnd 8 = .ok (.ishl, 1) := by decide +kernel
theorem dX4_fillEnd_9 : decode cX4_fillEnd 9 = .ok (.istore_n 2, 1) := by decide +kernel
theorem dX4_fillEnd_10 : decode cX4_fillEnd 10 = .ok (.iconst 0, 1) := by decide +kernel
theorem dX4_fillEnd_11 : decode cX4_fillEnd 11 = .ok (.istore_n 3, 1) := by decide +kernel
theorem dX4_fillEnd_12 : decode cX4_fillEnd 12 = .ok (.iload_n 3, 1) := by decide +kernel
theorem dX4_fillEnd_13 : decode cX4_fillEnd 13 = .ok (.iload_n 2, 1) := by decide +kernel
theorem dX4_fillEnd_14 : decode cX4_fillEnd 14 = .ok (.if_icmp .ge 93, 3) := by decide +kernel
theorem dX4_fillEnd_17 : decode cX4_fillEnd 17 = .ok (.iconst 0, 1) := by decide +kernel
theorem dX4_fillEnd_18 : decode cX4_fillEnd 18 = .ok (.istore 4, 2) := by decide +kernel
theorem dX4_fillEnd_20 : decode cX4_fillEnd 20 = .ok (.iconst 0, 1) := by decide +kernel
theorem dX4_fillEnd_21 : decode cX4_fillEnd 21 = .ok (.istore 5, 2) := by decide +kernel
theorem dX4_fillEnd_23 : decode cX4_fillEnd 23 = .ok (.iload 5, 2) := by decide +kernel
theorem dX4_fillEnd_25 : decode cX4_fillEnd 25 = .ok (.aload_n 1, 1) := by decide +kernel
theorem dX4_fillEnd_26 : decode cX4_fillEnd 26 = .ok (.getfield 46, 3) := by decide +kernel
theorem dX4_fillEnd_29 : decode cX4_fillEnd 29 = .ok (.getfield 64, 3) := by decide +kernel
theorem dX4_fillEnd_32 : decode cX4_fillEnd 32 = .ok (.if_icmp .ge 33, 3) := by decide +kernel
theorem dX4_fillEnd_35 : decode cX4_fillEnd 35 = .ok (.iload 4, 2) := by decide +kernel
theorem dX4_fillEnd_37 : decode cX4_fillEnd 37 = .ok (.iload_n 3, 1) := by decide +kernel
theorem dX4_fillEnd_38 : decode cX4_fillEnd 38 = .ok (.iconst 1, 1) := by decide +kernel
theorem dX4_fillEnd_39 : decode cX4_fillEnd 39 = .ok (.iload 5, 2) := by decide +kernel
theorem dX4_fillEnd_41 : decode cX4_fillEnd 41 = .ok (.ishl, 1) := by decide +kernel
theorem dX4_fillEnd_42 : decode cX4_fillEnd 42 = .ok (.iand, 1) := by decide +kernel
theorem dX4_fillEnd_43 : decode cX4_fillEnd 43 = .ok (.ifCond .eq 12, 3) := by decide +kernel
theorem dX4_fillEnd_46 : decode cX4_fillEnd 46 = .ok (.aload_n 1, 1) := by decide +kernel
theorem dX4_fillEnd_47 : decode cX4_fillEnd 47 = .ok (.iload 5, 2) := by decide +kernel
theorem dX4_fillEnd_49 : decode cX4_fillEnd 49 = .ok (.invokevirtual 68, 3) := by decide +kernel
theorem dX4_fillEnd_52 : decode cX4_fillEnd 52 = .ok (.goto 4, 3) := by decide +kernel
theorem dX4_fillEnd_55 : decode cX4_fillEnd 55 = .ok (.iconst 0, 1) := by decide +kernel
theorem dX4_fillEnd_56 : decode cX4_fillEnd 56 = .ok (.iadd, 1) := by decide +kernel
theorem dX4_fillEnd_57 : decode cX4_fillEnd 57 = .ok (.istore 4, 2) := by decide +kernel
theorem dX4_fillEnd_59 : decode cX4_fillEnd 59 = .ok (.iinc 5 1, 3) := by decide +kernel
theorem dX4_fillEnd_62 : decode cX4_fillEnd 62 = .ok (.goto (-39), 3) := by decide +kernel
theorem dX4_fillEnd_65 : decode cX4_fillEnd 65 = .ok (.iconst 0, 1) := by decide +kernel
theorem dX4_fillEnd_66 : decode cX4_fillEnd 66 = .ok (.istore 5, 2) := by decide +kernel
theorem dX4_fillEnd_68 : decode cX4_fillEnd 68 = .ok (.iload 5, 2) := by decide +kernel
theorem dX4_fillEnd_70 : decode cX4_fillEnd 70 = .ok (.aload_n 1, 1) := by decide +kernel
theorem dX4_fillEnd_71 : decode cX4_fillEnd 71 = .ok (.getfield 37, 3) := by decide +kernel
theorem dX4_fillEnd_74 : decode cX4_fillEnd 74 = .ok (.getfield 64, 3) := by decide +kernel
theorem dX4_fillEnd_77 : decode cX4_fillEnd 77 = .ok (.if_icmp .gt 24, 3) := by decide +kernel
theorem dX4_fillEnd_80 : decode cX4_fillEnd 80 = .ok (.aload_n 0, 1) := by decide +kernel
theorem dX4_fillEnd_81 : decode cX4_fillEnd 81 = .ok (.getfield 11, 3) := by decide +kernel
theorem dX4_fillEnd_84 : decode cX4_fillEnd 84 = .ok (.bipush 10, 2) := by decide +kernel
theorem dX4_fillEnd_86 : decode cX4_fillEnd 86 = .ok (.iload 5, 2) := by decide +kernel
theorem dX4_fillEnd_88 : decode cX4_fillEnd 88 = .ok (.iload_n 3, 1) := by decide +kernel
theorem dX4_fillEnd_89 : decode cX4_fillEnd 89 = .ok (.invokestatic 72, 3) := by decide +kernel
theorem dX4_fillEnd_92 : decode cX4_fillEnd 92 = .ok (.iload 4, 2) := by decide +kernel
theorem dX4_fillEnd_94 : decode cX4_fillEnd 94 = .ok (.iastore, 1) := by decide +kernel
theorem dX4_fillEnd_95 : decode cX4_fillEnd 95 = .ok (.iinc 5 1, 3) := by decide +kernel
theorem dX4_fillEnd_98 : decode cX4_fillEnd 98 = .ok (.goto (-30), 3) := by decide +kernel
theorem dX4_fillEnd_101 : decode cX4_fillEnd 101 = .ok (.iinc 3 1, 3) := by decide +kernel
theorem dX4_fillEnd_104 : decode cX4_fillEnd 104 = .ok (.goto (-92), 3) := by decide +kernel
theorem dX4_fillEnd_107 : decode cX4_fillEnd 107 = .ok (.return_, 1) := by decide +kernel
theorem dX4_fillHour_0 : decode cX4_fillHour 0 = .ok (.aload_n 1, 1) := by decide +kernel
theorem dX4_fillHour_1 : decode cX4_fillHour 1 = .ok (.iload_n 2, 1) := by decide +kernel
theorem dX4_fillHour_2 : decode cX4_fillHour 2 = .ok (.invokestatic 76, 3) := by decide +kernel
theorem dX4_fillHour_5 : decode cX4_fillHour 5 = .ok (.istore_n 3, 1) := by decide +kernel
theorem dX4_fillHour_6 : decode cX4_fillHour 6 = .ok (.iconst 0, 1) := by decide +kernel
theorem dX4_fillHour_7 : decode cX4_fillHour 7 = .ok (.istore 4, 2) := by decide +kernel
theorem dX4_fillHour_9 : decode cX4_fillHour 9 = .ok (.iload 4, 2) := by decide +kernel
theorem dX4_fillHour_11 : decode cX4_fillHour 11 = .ok (.aload_n 1, 1) := by decide +kernel
theorem dX4_fillHour_12 : decode cX4_fillHour 12 = .ok (.getfield 37, 3) := by decide +kernel
theorem dX4_fillHour_15 : decode cX4_fillHour 15 = .ok (.getfield 64, 3) := by decide +kernel
theorem dX4_fillHour_18 : decode cX4_fillHour 18 = .ok (.if_icmp .gt 68, 3) := by decide +kernel
theorem dX4_fillHour_21 : decode cX4_fillHour 21 = .ok (.aload_n 0, 1) := by decide +kernel
theorem dX4_fillHour_22 : decode cX4_fillHour 22 = .ok (.aload_n 1, 1) := by decide +kernel
theorem dX4_fillHour_23 : decode cX4_fillHour 23 = .ok (.iload_n 2, 1) := by decide +kernel
theorem dX4_fillHour_24 : decode cX4_fillHour 24 = .ok (.iload 4, 2) := by decide +kernel
theorem dX4_fillHour_26 : decode cX4_fillHour 26 = .ok (.invokevirtual 80, 3) := by decide +kernel
theorem dX4_fillHour_29 : decode cX4_fillHour 29 = .ok (.iconst 0, 1) := by decide +kernel
theorem dX4_fillHour_30 : decode cX4_fillHour 30 = .ok (.istore 5, 2) := by decide +kernel
theorem dX4_fillHour_32 : decode cX4_fillHour 32 = .ok (.iload 5, 2) := by decide +kernel
theorem dX4_fillHour_34 : decode cX4_fillHour 34 = .ok (.iload_n 3, 1) := by decide +kernel
theorem dX4_fillHour_35 : decode cX4_fillHour 35 = .ok (.if_icmp .gt 45, 3) := by decide +kernel
theorem dX4_fillHour_38 : decode cX4_fillHour 38 = .ok (.iload 5, 2) := by decide +kernel
theorem dX4_fillHour_40 : decode cX4_fillHour 40 = .ok (.iload_n 3, 1) := by decide +kernel
theorem dX4_fillHour_41 : decode cX4_fillHour 41 = .ok (.iconst (-1), 1) := by decide +kernel
theorem dX4_fillHour_42 : decode cX4_fillHour 42 = .ok (.ixor, 1) := by decide +kernel
theorem dX4_fillHour_43 : decode cX4_fillHour 43 = .ok (.iand, 1) := by decide +kernel
theorem dX4_fillHour_44 : decode cX4_fillHour 44 = .ok (.ifCond .ne 30, 3) := by decide +kernel
theorem dX4_fillHour_47 : decode cX4_fillHour 47 = .ok (.aload_n 0, 1) := by decide +kernel
theorem dX4_fillHour_48 : decode cX4_fillHour 48 = .ok (.getfield 11, 3) := by decide +kernel
theorem dX4_fillHour_51 : decode cX4_fillHour 51 = .ok (.iload_n 2, 1) := by decide +kernel
theorem dX4_fillHour_52 : decode cX4_fillHour 52 = .ok (.iload 4, 2) := by decide +kernel
theorem dX4_fillHour_54 : decode cX4_fillHour 54 = .ok (.iload 5, 2) := by decide +kernel
theorem dX4_fillHour_56 : decode cX4_fillHour 56 = .ok (.invokestatic 72, 3) := by decide +kernel
theorem dX4_fillHour_59 : decode cX4_fillHour 59 = .ok (.aload_n 0, 1) := by decide +kernel
theorem dX4_fillHour_60 : decode cX4_fillHour 60 = .ok (.iload_n 2, 1) := by decide +kernel
theorem dX4_fillHour_61 : decode cX4_fillHour 61 = .ok (.iload 5, 2) := by decide +kernel
theorem dX4_fillHour_63 : decode cX4_fillHour 63 = .ok (.aload_n 1, 1) := by decide +kernel
theorem dX4_fillHour_64 : decode cX4_fillHour 64 = .ok (.getfield 37, 3) := by decide +kernel
theorem dX4_fillHour_67 : decode cX4_fillHour 67 = .ok (.getfield 64, 3) := by decide +kernel
theorem dX4_fillHour_70 : decode cX4_fillHour 70 = .ok (.invokevirtual 84, 3) := by decide +kernel
theorem dX4_fillHour_73 : decode cX4_fillHour 73 = .ok (.iastore, 1) := by decide +kernel
theorem dX4_fillHour_74 : decode cX4_fillHour 74 = .ok (.iinc 5 1, 3) := by decide +kernel
theorem dX4_fillHour_77 : decode cX4_fillHour 77 = .ok (.goto (-45), 3) := by decide +kernel
theorem dX4_fillHour_80 : decode cX4_fillHour 80 = .ok (.iinc 4 1, 3) := by decide +kernel
theorem dX4_fillHour_83 : decode cX4_fillHour 83 = .ok (.goto (-74), 3) := by decide +kernel
theorem dX4_fillHour_86 : decode cX4_fillHour 86 = .ok (.return_, 1) := by decide +kernel
theorem dX4_worksBegunAhead_0 : decode cX4_worksBegunAhead 0 = .ok (.iconst 0, 1) := by decide +kernel
theorem dX4_worksBegunAhead_1 : decode cX4_worksBegunAhead 1 = .ok (.istore_n 2, 1) := by decide +kernel
theorem dX4_worksBegunAhead_2 : decode cX4_worksBegunAhead 2 = .ok (.iconst 0, 1) := by decide +kernel
theorem dX4_worksBegunAhead_3 : decode cX4_worksBegunAhead 3 = .ok (.istore_n 3, 1) := by decide +kernel
theorem dX4_worksBegunAhead_4 : decode cX4_worksBegunAhead 4 = .ok (.iload_n 3, 1) := by decide +kernel
theorem dX4_worksBegunAhead_5 : decode cX4_worksBegunAhead 5 = .ok (.aload_n 0, 1) := by decide +kernel
theorem dX4_worksBegunAhead_6 : decode cX4_worksBegunAhead 6 = .ok (.getfield 46, 3) := by decide +kernel
theorem dX4_worksBegunAhead_9 : decode cX4_worksBegunAhead 9 = .ok (.getfield 64, 3) := by decide +kernel
theorem dX4_worksBegunAhead_12 : decode cX4_worksBegunAhead 12 = .ok (.if_icmp .ge 32, 3) := by decide +kernel
theorem dX4_worksBegunAhead_15 : decode cX4_worksBegunAhead 15 = .ok (.iload_n 2, 1) := by decide +kernel
theorem dX4_worksBegunAhead_16 : decode cX4_worksBegunAhead 16 = .ok (.aload_n 0, 1) := by decide +kernel
theorem dX4_worksBegunAhead_17 : decode cX4_worksBegunAhead 17 = .ok (.getfield 46, 3) := by decide +kernel
theorem dX4_worksBegunAhead_20 : decode cX4_worksBegunAhead 20 = .ok (.iload_n 3, 1) := by decide +kernel
theorem dX4_worksBegunAhead_21 : decode cX4_worksBegunAhead 21 = .ok (.iconst 1, 1) := by decide +kernel
theorem dX4_worksBegunAhead_22 : decode cX4_worksBegunAhead 22 = .ok (.invokevirtual 87, 3) := by decide +kernel
theorem dX4_worksBegunAhead_25 : decode cX4_worksBegunAhead 25 = .ok (.iload_n 1, 1) := by decide +kernel
theorem dX4_worksBegunAhead_26 : decode cX4_worksBegunAhead 26 = .ok (.if_icmp .ge 9, 3) := by decide +kernel
theorem dX4_worksBegunAhead_29 : decode cX4_worksBegunAhead 29 = .ok (.iconst 1, 1) := by decide +kernel
theorem dX4_worksBegunAhead_30 : decode cX4_worksBegunAhead 30 = .ok (.iload_n 3, 1) := by decide +kernel
theorem dX4_worksBegunAhead_31 : decode cX4_worksBegunAhead 31 = .ok (.ishl, 1) := by decide +kernel
theorem dX4_worksBegunAhead_32 : decode cX4_worksBegunAhead 32 = .ok (.goto 4, 3) := by decide +kernel
theorem dX4_worksBegunAhead_35 : decode cX4_worksBegunAhead 35 = .ok (.iconst 0, 1) := by decide +kernel
theorem dX4_worksBegunAhead_36 : decode cX4_worksBegunAhead 36 = .ok (.ior, 1) := by decide +kernel
theorem dX4_worksBegunAhead_37 : decode cX4_worksBegunAhead 37 = .ok (.istore_n 2, 1) := by decide +kernel
theorem dX4_worksBegunAhead_38 : decode cX4_worksBegunAhead 38 = .ok (.iinc 3 1, 3) := by decide +kernel
theorem dX4_worksBegunAhead_41 : decode cX4_worksBegunAhead 41 = .ok (.goto (-37), 3) := by decide +kernel
theorem dX4_worksBegunAhead_44 : decode cX4_worksBegunAhead 44 = .ok (.iload_n 2, 1) := by decide +kernel
theorem dX4_worksBegunAhead_45 : decode cX4_worksBegunAhead 45 = .ok (.ireturn, 1) := by decide +kernel
theorem dX4_mostFrom_0 : decode cX4_mostFrom 0 = .ok (.iconst 0, 1) := by decide +kernel
theorem dX4_mostFrom_1 : decode cX4_mostFrom 1 = .ok (.istore 4, 2) := by decide +kernel
theorem dX4_mostFrom_3 : decode cX4_mostFrom 3 = .ok (.iload_n 1, 1) := by decide +kernel
theorem dX4_mostFrom_4 : decode cX4_mostFrom 4 = .ok (.iconst 1, 1) := by decide +kernel
theorem dX4_mostFrom_5 : decode cX4_mostFrom 5 = .ok (.iadd, 1) := by decide +kernel
theorem dX4_mostFrom_6 : decode cX4_mostFrom 6 = .ok (.iconst 0, 1) := by decide +kernel
theorem dX4_mostFrom_7 : decode cX4_mostFrom 7 = .ok (.iconst 0, 1) := by decide +kernel
theorem dX4_mostFrom_8 : decode cX4_mostFrom 8 = .ok (.invokestatic 72, 3) := by decide +kernel
theorem dX4_mostFrom_11 : decode cX4_mostFrom 11 = .ok (.istore 5, 2) := by decide +kernel
theorem dX4_mostFrom_13 : decode cX4_mostFrom 13 = .ok (.iconst 0, 1) := by decide +kernel
theorem dX4_mostFrom_14 : decode cX4_mostFrom 14 = .ok (.istore 6, 2) := by decide +kernel
theorem dX4_mostFrom_16 : decode cX4_mostFrom 16 = .ok (.iload 6, 2) := by decide +kernel
theorem dX4_mostFrom_18 : decode cX4_mostFrom 18 = .ok (.iload_n 3, 1) := by decide +kernel
theorem dX4_mostFrom_19 : decode cX4_mostFrom 19 = .ok (.if_icmp .gt 42, 3) := by decide +kernel
theorem dX4_mostFrom_22 : decode cX4_mostFrom 22 = .ok (.aload_n 0, 1) := by decide +kernel
theorem dX4_mostFrom_23 : decode cX4_mostFrom 23 = .ok (.getfield 11, 3) := by decide +kernel
theorem dX4_mostFrom_26 : decode cX4_mostFrom 26 = .ok (.iload 5, 2) := by decide +kernel
theorem dX4_mostFrom_28 : decode cX4_mostFrom 28 = .ok (.iload_n 2, 1) := by decide +kernel
theorem dX4_mostFrom_29 : decode cX4_mostFrom 29 = .ok (.aload_n 0, 1) := by decide +kernel
theorem dX4_mostFrom_30 : decode cX4_mostFrom 30 = .ok (.getfield 15, 3) := by decide +kernel
theorem dX4_mostFrom_33 : decode cX4_mostFrom 33 = .ok (.iload 6, 2) := by decide +kernel
theorem dX4_mostFrom_35 : decode cX4_mostFrom 35 = .ok (.iaload, 1) := by decide +kernel
theorem dX4_mostFrom_36 : decode cX4_mostFrom 36 = .ok (.ior, 1) := by decide +kernel
theorem dX4_mostFrom_37 : decode cX4_mostFrom 37 = .ok (.iadd, 1) := by decide +kernel
theorem dX4_mostFrom_38 : decode cX4_mostFrom 38 = .ok (.iaload, 1) := by decide +kernel
theorem dX4_mostFrom_39 : decode cX4_mostFrom 39 = .ok (.istore 7, 2) := by decide +kernel
theorem dX4_mostFrom_41 : decode cX4_mostFrom 41 = .ok (.iload 7, 2) := by decide +kernel
theorem dX4_mostFrom_43 : decode cX4_mostFrom 43 = .ok (.iload 4, 2) := by decide +kernel
theorem dX4_mostFrom_45 : decode cX4_mostFrom 45 = .ok (.if_icmp .le 7, 3) := by decide +kernel
theorem dX4_mostFrom_48 : decode cX4_mostFrom 48 = .ok (.iload 7, 2) := by decide +kernel
theorem dX4_mostFrom_50 : decode cX4_mostFrom 50 = .ok (.istore 4, 2) := by decide +kernel
theorem dX4_mostFrom_52 : decode cX4_mostFrom 52 = .ok (.iinc 5 32, 3) := by decide +kernel
theorem dX4_mostFrom_55 : decode cX4_mostFrom 55 = .ok (.iinc 6 1, 3) := by decide +kernel
theorem dX4_mostFrom_58 : decode cX4_mostFrom 58 = .ok (.goto (-42), 3) := by decide +kernel
theorem dX4_mostFrom_61 : decode cX4_mostFrom 61 = .ok (.iload 4, 2) := by decide +kernel
theorem dX4_mostFrom_63 : decode cX4_mostFrom 63 = .ok (.ireturn, 1) := by decide +kernel
theorem dX4_findGains_0 : decode cX4_findGains 0 = .ok (.aload_n 1, 1) := by decide +kernel
theorem dX4_findGains_1 : decode cX4_findGains 1 = .ok (.getfield 37, 3) := by decide +kernel
theorem dX4_findGains_4 : decode cX4_findGains 4 = .ok (.getfield 64, 3) := by decide +kernel
theorem dX4_findGains_7 : decode cX4_findGains 7 = .ok (.istore 4, 2) := by decide +kernel
theorem dX4_findGains_9 : decode cX4_findGains 9 = .ok (.iconst 0, 1) := by decide +kernel
theorem dX4_findGains_10 : decode cX4_findGains 10 = .ok (.istore 5, 2) := by decide +kernel
theorem dX4_findGains_12 : decode cX4_findGains 12 = .ok (.iload 5, 2) := by decide +kernel
theorem dX4_findGains_14 : decode cX4_findGains 14 = .ok (.iload 4, 2) := by decide +kernel
theorem dX4_findGains_16 : decode cX4_findGains 16 = .ok (.if_icmp .ge 89, 3) := by decide +kernel
theorem dX4_findGains_19 : decode cX4_findGains 19 = .ok (.iload_n 2, 1) := by decide +kernel
theorem dX4_findGains_20 : decode cX4_findGains 20 = .ok (.ifCond .eq 23, 3) := by decide +kernel
theorem dX4_findGains_23 : decode cX4_findGains 23 = .ok (.iload 5, 2) := by decide +kernel
theorem dX4_findGains_25 : decode cX4_findGains 25 = .ok (.iload_n 3, 1) := by decide +kernel
theorem dX4_findGains_26 : decode cX4_findGains 26 = .ok (.iload 4, 2) := by decide +kernel
theorem dX4_findGains_28 : decode cX4_findGains 28 = .ok (.if_icmp .ne 8, 3) := by decide +kernel
theorem dX4_findGains_31 : decode cX4_findGains 31 = .ok (.bipush (-4), 2) := by decide +kernel
theorem dX4_findGains_33 : decode cX4_findGains 33 = .ok (.goto 4, 3) := by decide +kernel
theorem dX4_findGains_36 : decode cX4_findGains 36 = .ok (.iload_n 3, 1) := by decide +kernel
theorem dX4_findGains_37 : decode cX4_findGains 37 = .ok (.invokestatic 91, 3) := by decide +kernel
theorem dX4_findGains_40 : decode cX4_findGains 40 = .ok (.ifCond .eq 7, 3) := by decide +kernel
theorem dX4_findGains_43 : decode cX4_findGains 43 = .ok (.iconst 1, 1) := by decide +kernel
theorem dX4_findGains_44 : decode cX4_findGains 44 = .ok (.goto 4, 3) := by decide +kernel
theorem dX4_findGains_47 : decode cX4_findGains 47 = .ok (.iconst 0, 1) := by decide +kernel
theorem dX4_findGains_48 : decode cX4_findGains 48 = .ok (.istore 6, 2) := by decide +kernel
theorem dX4_findGains_50 : decode cX4_findGains 50 = .ok (.iload 6, 2) := by decide +kernel
theorem dX4_findGains_52 : decode cX4_findGains 52 = .ok (.ifCond .eq 20, 3) := by decide +kernel
theorem dX4_findGains_55 : decode cX4_findGains 55 = .ok (.aload_n 1, 1) := by decide +kernel
theorem dX4_findGains_56 : decode cX4_findGains 56 = .ok (.iload 5, 2) := by decide +kernel
theorem dX4_findGains_58 : decode cX4_findGains 58 = .ok (.invokevirtual 97, 3) := by decide +kernel
theorem dX4_findGains_61 : decode cX4_findGains 61 = .ok (.iload_n 2, 1) := by decide +kernel
theorem dX4_findGains_62 : decode cX4_findGains 62 = .ok (.invokestatic 100, 3) := by decide +kernel
theorem dX4_findGains_65 : decode cX4_findGains 65 = .ok (.ifCond .eq 7, 3) := by decide +kernel
theorem dX4_findGains_68 : decode cX4_findGains 68 = .ok (.iconst 1, 1) := by decide +kernel
theorem dX4_findGains_69 : decode cX4_findGains 69 = .ok (.goto 4, 3) := by decide +kernel
theorem dX4_findGains_72 : decode cX4_findGains 72 = .ok (.iconst 0, 1) := by decide +kernel
theorem dX4_findGains_73 : decode cX4_findGains 73 = .ok (.istore 7, 2) := by decide +kernel
theorem dX4_findGains_75 : decode cX4_findGains 75 = .ok (.aload_n 0, 1) := by decide +kernel
theorem dX4_findGains_76 : decode cX4_findGains 76 = .ok (.getfield 15, 3) := by decide +kernel
theorem dX4_findGains_79 : decode cX4_findGains 79 = .ok (.iload 5, 2) := by decide +kernel
theorem dX4_findGains_81 : decode cX4_findGains 81 = .ok (.iload 7, 2) := by decide +kernel
theorem dX4_findGains_83 : decode cX4_findGains 83 = .ok (.ifCond .eq 14, 3) := by decide +kernel
theorem dX4_findGains_86 : decode cX4_findGains 86 = .ok (.aload_n 0, 1) := by decide +kernel
theorem dX4_findGains_87 : decode cX4_findGains 87 = .ok (.aload_n 1, 1) := by decide +kernel
theorem dX4_findGains_88 : decode cX4_findGains 88 = .ok (.iload 5, 2) := by decide +kernel
theorem dX4_findGains_90 : decode cX4_findGains 90 = .ok (.iload_n 2, 1) := by decide +kernel
theorem dX4_findGains_91 : decode cX4_findGains 91 = .ok (.invokevirtual 103, 3) := by decide +kernel
theorem dX4_findGains_94 : decode cX4_findGains 94 = .ok (.goto 4, 3) := by decide +kernel
theorem dX4_findGains_97 : decode cX4_findGains 97 = .ok (.iconst 0, 1) := by decide +kernel
theorem dX4_findGains_98 : decode cX4_findGains 98 = .ok (.iastore, 1) := by decide +kernel
theorem dX4_findGains_99 : decode cX4_findGains 99 = .ok (.iinc 5 1, 3) := by decide +kernel
theorem dX4_findGains_102 : decode cX4_findGains 102 = .ok (.goto (-90), 3) := by decide +kernel
theorem dX4_findGains_105 : decode cX4_findGains 105 = .ok (.aload_n 0, 1) := by decide +kernel
theorem dX4_findGains_106 : decode cX4_findGains 106 = .ok (.getfield 15, 3) := by decide +kernel
theorem dX4_findGains_109 : decode cX4_findGains 109 = .ok (.iload 4, 2) := by decide +kernel
theorem dX4_findGains_111 : decode cX4_findGains 111 = .ok (.iconst 0, 1) := by decide +kernel
theorem dX4_findGains_112 : decode cX4_findGains 112 = .ok (.iastore, 1) := by decide +kernel
theorem dX4_findGains_113 : decode cX4_findGains 113 = .ok (.return_, 1) := by decide +kernel
theorem dX4_worksIn_0 : decode cX4_worksIn 0 = .ok (.iconst 0, 1) := by decide +kernel
theorem dX4_worksIn_1 : decode cX4_worksIn 1 = .ok (.istore 4, 2) := by decide +kernel
theorem dX4_worksIn_3 : decode cX4_worksIn 3 = .ok (.iconst 0, 1) := by decide +kernel
theorem dX4_worksIn_4 : decode cX4_worksIn 4 = .ok (.istore 5, 2) := by decide +kernel
theorem dX4_worksIn_6 : decode cX4_worksIn 6 = .ok (.iload 5, 2) := by decide +kernel
theorem dX4_worksIn_8 : decode cX4_worksIn 8 = .ok (.aload_n 1, 1) := by decide +kernel
theorem dX4_worksIn_9 : decode cX4_worksIn 9 = .ok (.getfield 46, 3) := by decide +kernel
theorem dX4_worksIn_12 : decode cX4_worksIn 12 = .ok (.getfield 64, 3) := by decide +kernel
theorem dX4_worksIn_15 : decode cX4_worksIn 15 = .ok (.if_icmp .ge 76, 3) := by decide +kernel
theorem dX4_worksIn_18 : decode cX4_worksIn 18 = .ok (.aload_n 1, 1) := by decide +kernel
theorem dX4_worksIn_19 : decode cX4_worksIn 19 = .ok (.getfield 46, 3) := by decide +kernel
theorem dX4_worksIn_22 : decode cX4_worksIn 22 = .ok (.astore 6, 2) := by decide +kernel
theorem dX4_worksIn_24 : decode cX4_worksIn 24 = .ok (.aload 6, 2) := by decide +kernel
theorem dX4_worksIn_26 : decode cX4_worksIn 26 = .ok (.iload 5, 2) := by decide +kernel
theorem dX4_worksIn_28 : decode cX4_worksIn 28 = .ok (.iconst 0, 1) := by decide +kernel
theorem dX4_worksIn_29 : decode cX4_worksIn 29 = .ok (.invokevirtual 87, 3) := by decide +kernel
theorem dX4_worksIn_32 : decode cX4_worksIn 32 = .ok (.iload_n 2, 1) := by decide +kernel
theorem dX4_worksIn_33 : decode cX4_worksIn 33 = .ok (.if_icmp .ne 31, 3) := by decide +kernel
theorem dX4_worksIn_36 : decode cX4_worksIn 36 = .ok (.aload 6, 2) := by decide +kernel
theorem dX4_worksIn_38 : decode cX4_worksIn 38 = .ok (.iload 5, 2) := by decide +kernel
theorem dX4_worksIn_40 : decode cX4_worksIn 40 = .ok (.iconst 1, 1) := by decide +kernel
theorem dX4_worksIn_41 : decode cX4_worksIn 41 = .ok (.invokevirtual 87, 3) := by decide +kernel
theorem dX4_worksIn_44 : decode cX4_worksIn 44 = .ok (.iload_n 3, 1) := by decide +kernel
theorem dX4_worksIn_45 : decode cX4_worksIn 45 = .ok (.if_icmp .gt 19, 3) := by decide +kernel
theorem dX4_worksIn_48 : decode cX4_worksIn 48 = .ok (.aload 6, 2) := by decide +kernel
theorem dX4_worksIn_50 : decode cX4_worksIn 50 = .ok (.iload 5, 2) := by decide +kernel
theorem dX4_worksIn_52 : decode cX4_worksIn 52 = .ok (.iconst 2, 1) := by decide +kernel
theorem dX4_worksIn_53 : decode cX4_worksIn 53 = .ok (.invokevirtual 87, 3) := by decide +kernel
theorem dX4_worksIn_56 : decode cX4_worksIn 56 = .ok (.iload_n 3, 1) := by decide +kernel
theorem dX4_worksIn_57 : decode cX4_worksIn 57 = .ok (.if_icmp .lt 7, 3) := by decide +kernel
theorem dX4_worksIn_60 : decode cX4_worksIn 60 = .ok (.iconst 1, 1) := by decide +kernel
theorem dX4_worksIn_61 : decode cX4_worksIn 61 = .ok (.goto 4, 3) := by decide +kernel
theorem dX4_worksIn_64 : decode cX4_worksIn 64 = .ok (.iconst 0, 1) := by decide +kernel
theorem dX4_worksIn_65 : decode cX4_worksIn 65 = .ok (.istore 7, 2) := by decide +kernel
theorem dX4_worksIn_67 : decode cX4_worksIn 67 = .ok (.iload 4, 2) := by decide +kernel
theorem dX4_worksIn_69 : decode cX4_worksIn 69 = .ok (.iload 7, 2) := by decide +kernel
theorem dX4_worksIn_71 : decode cX4_worksIn 71 = .ok (.ifCond .eq 10, 3) := by decide +kernel
theorem dX4_worksIn_74 : decode cX4_worksIn 74 = .ok (.iconst 1, 1) := by decide +kernel
theorem dX4_worksIn_75 : decode cX4_worksIn 75 = .ok (.iload 5, 2) := by decide +kernel
theorem dX4_worksIn_77 : decode cX4_worksIn 77 = .ok (.ishl, 1) := by decide +kernel
theorem dX4_worksIn_78 : decode cX4_worksIn 78 = .ok (.goto 4, 3) := by decide +kernel
theorem dX4_worksIn_81 : decode cX4_worksIn 81 = .ok (.iconst 0, 1) := by decide +kernel
theorem dX4_worksIn_82 : decode cX4_worksIn 82 = .ok (.ior, 1) := by decide +kernel
theorem dX4_worksIn_83 : decode cX4_worksIn 83 = .ok (.istore 4, 2) := by decide +kernel
theorem dX4_worksIn_85 : decode cX4_worksIn 85 = .ok (.iinc 5 1, 3) := by decide +kernel
theorem dX4_worksIn_88 : decode cX4_worksIn 88 = .ok (.goto (-82), 3) := by decide +kernel
theorem dX4_worksIn_91 : decode cX4_worksIn 91 = .ok (.iload 4, 2) := by decide +kernel
theorem dX4_worksIn_93 : decode cX4_worksIn 93 = .ok (.ireturn, 1) := by decide +kernel
theorem dX4_takeFirst_0 : decode cX4_takeFirst 0 = .ok (.aload_n 1, 1) := by decide +kernel
theorem dX4_takeFirst_1 : decode cX4_takeFirst 1 = .ok (.getfield 37, 3) := by decide +kernel
theorem dX4_takeFirst_4 : decode cX4_takeFirst 4 = .ok (.getfield 64, 3) := by decide +kernel
theorem dX4_takeFirst_7 : decode cX4_takeFirst 7 = .ok (.istore_n 2, 1) := by decide +kernel
theorem dX4_takeFirst_8 : decode cX4_takeFirst 8 = .ok (.iload_n 2, 1) := by decide +kernel
theorem dX4_takeFirst_9 : decode cX4_takeFirst 9 = .ok (.istore_n 3, 1) := by decide +kernel
theorem dX4_takeFirst_10 : decode cX4_takeFirst 10 = .ok (.iconst 0, 1) := by decide +kernel
theorem dX4_takeFirst_11 : decode cX4_takeFirst 11 = .ok (.istore 4, 2) := by decide +kernel
theorem dX4_takeFirst_13 : decode cX4_takeFirst 13 = .ok (.aload_n 0, 1) := by decide +kernel
theorem dX4_takeFirst_14 : decode cX4_takeFirst 14 = .ok (.aload_n 0, 1) := by decide +kernel
theorem dX4_takeFirst_15 : decode cX4_takeFirst 15 = .ok (.getfield 11, 3) := by decide +kernel
theorem dX4_takeFirst_18 : decode cX4_takeFirst 18 = .ok (.iconst 0, 1) := by decide +kernel
theorem dX4_takeFirst_19 : decode cX4_takeFirst 19 = .ok (.iload_n 3, 1) := by decide +kernel
theorem dX4_takeFirst_20 : decode cX4_takeFirst 20 = .ok (.iload 4, 2) := by decide +kernel
theorem dX4_takeFirst_22 : decode cX4_takeFirst 22 = .ok (.invokestatic 72, 3) := by decide +kernel
theorem dX4_takeFirst_25 : decode cX4_takeFirst 25 = .ok (.iaload, 1) := by decide +kernel
theorem dX4_takeFirst_26 : decode cX4_takeFirst 26 = .ok (.putfield 107, 3) := by decide +kernel
theorem dX4_takeFirst_29 : decode cX4_takeFirst 29 = .ok (.iconst 0, 1) := by decide +kernel
theorem dX4_takeFirst_30 : decode cX4_takeFirst 30 = .ok (.istore 5, 2) := by decide +kernel
theorem dX4_takeFirst_32 : decode cX4_takeFirst 32 = .ok (.iload 5, 2) := by decide +kernel
theorem dX4_takeFirst_34 : decode cX4_takeFirst 34 = .ok (.bipush 10, 2) := by decide +kernel
theorem dX4_takeFirst_36 : decode cX4_takeFirst 36 = .ok (.if_icmp .ge 98, 3) := by decide +kernel
theorem dX4_takeFirst_39 : decode cX4_takeFirst 39 = .ok (.aload_n 0, 1) := by decide +kernel
theorem dX4_takeFirst_40 : decode cX4_takeFirst 40 = .ok (.aload_n 1, 1) := by decide +kernel
theorem dX4_takeFirst_41 : decode cX4_takeFirst 41 = .ok (.iload 5, 2) := by decide +kernel
theorem dX4_takeFirst_43 : decode cX4_takeFirst 43 = .ok (.iload_n 3, 1) := by decide +kernel
theorem dX4_takeFirst_44 : decode cX4_takeFirst 44 = .ok (.invokevirtual 80, 3) := by decide +kernel
theorem dX4_takeFirst_47 : decode cX4_takeFirst 47 = .ok (.iconst 0, 1) := by decide +kernel
theorem dX4_takeFirst_48 : decode cX4_takeFirst 48 = .ok (.istore 6, 2) := by decide +kernel
theorem dX4_takeFirst_50 : decode cX4_takeFirst 50 = .ok (.iload 6, 2) := by decide +kernel
theorem dX4_takeFirst_52 : decode cX4_takeFirst 52 = .ok (.iload_n 2, 1) := by decide +kernel
theorem dX4_takeFirst_53 : decode cX4_takeFirst 53 = .ok (.if_icmp .ge 40, 3) := by decide +kernel
theorem dX4_takeFirst_56 : decode cX4_takeFirst 56 = .ok (.aload_n 0, 1) := by decide +kernel
theorem dX4_takeFirst_57 : decode cX4_takeFirst 57 = .ok (.getfield 11, 3) := by decide +kernel
theorem dX4_takeFirst_60 : decode cX4_takeFirst 60 = .ok (.iload 5, 2) := by decide +kernel
theorem dX4_takeFirst_62 : decode cX4_takeFirst 62 = .ok (.iconst 1, 1) := by decide +kernel
theorem dX4_takeFirst_63 : decode cX4_takeFirst 63 = .ok (.iadd, 1) := by decide +kernel
theorem dX4_takeFirst_64 : decode cX4_takeFirst 64 = .ok (.iload 6, 2) := by decide +kernel
theorem dX4_takeFirst_66 : decode cX4_takeFirst 66 = .ok (.iload 4, 2) := by decide +kernel
theorem dX4_takeFirst_68 : decode cX4_takeFirst 68 = .ok (.aload_n 0, 1) := by decide +kernel
theorem dX4_takeFirst_69 : decode cX4_takeFirst 69 = .ok (.getfield 15, 3) := by decide +kernel
theorem dX4_takeFirst_72 : decode cX4_takeFirst 72 = .ok (.iload 6, 2) := by decide +kernel
theorem dX4_takeFirst_74 : decode cX4_takeFirst 74 = .ok (.iaload, 1) := by decide +kernel
theorem dX4_takeFirst_75 : decode cX4_takeFirst 75 = .ok (.ior, 1) := by decide +kernel
theorem dX4_takeFirst_76 : decode cX4_takeFirst 76 = .ok (.invokestatic 72, 3) := by decide +kernel
theorem dX4_takeFirst_79 : decode cX4_takeFirst 79 = .ok (.iaload, 1) := by decide +kernel
theorem dX4_takeFirst_80 : decode cX4_takeFirst 80 = .ok (.aload_n 0, 1) := by decide +kernel
theorem dX4_takeFirst_81 : decode cX4_takeFirst 81 = .ok (.getfield 107, 3) := by decide +kernel
theorem dX4_takeFirst_84 : decode cX4_takeFirst 84 = .ok (.if_icmp .ge 9, 3) := by decide +kernel
theorem dX4_takeFirst_87 : decode cX4_takeFirst 87 = .ok (.iinc 6 1, 3) := by decide +kernel
theorem dX4_takeFirst_90 : decode cX4_takeFirst 90 = .ok (.goto (-40), 3) := by decide +kernel
theorem dX4_takeFirst_93 : decode cX4_takeFirst 93 = .ok (.aload_n 0, 1) := by decide +kernel
theorem dX4_takeFirst_94 : decode cX4_takeFirst 94 = .ok (.getfield 18, 3) := by decide +kernel
theorem dX4_takeFirst_97 : decode cX4_takeFirst 97 = .ok (.iload 5, 2) := by decide +kernel
theorem dX4_takeFirst_99 : decode cX4_takeFirst 99 = .ok (.iload 6, 2) := by decide +kernel
theorem dX4_takeFirst_101 : decode cX4_takeFirst 101 = .ok (.iload_n 2, 1) := by decide +kernel
theorem dX4_takeFirst_102 : decode cX4_takeFirst 102 = .ok (.if_icmp .ne 8, 3) := by decide +kernel
theorem dX4_takeFirst_105 : decode cX4_takeFirst 105 = .ok (.bipush (-4), 2) := by decide +kernel
theorem dX4_takeFirst_107 : decode cX4_takeFirst 107 = .ok (.goto 5, 3) := by decide +kernel
theorem dX4_takeFirst_110 : decode cX4_takeFirst 110 = .ok (.iload 6, 2) := by decide +kernel
theorem dX4_takeFirst_112 : decode cX4_takeFirst 112 = .ok (.iastore, 1) := by decide +kernel
theorem dX4_takeFirst_113 : decode cX4_takeFirst 113 = .ok (.iload 4, 2) := by decide +kernel
theorem dX4_takeFirst_115 : decode cX4_takeFirst 115 = .ok (.aload_n 0, 1) := by decide +kernel
theorem dX4_takeFirst_116 : decode cX4_takeFirst 116 = .ok (.getfield 15, 3) := by decide +kernel
theorem dX4_takeFirst_119 : decode cX4_takeFirst 119 = .ok (.iload 6, 2) := by decide +kernel
theorem dX4_takeFirst_121 : decode cX4_takeFirst 121 = .ok (.iaload, 1) := by decide +kernel
theorem dX4_takeFirst_122 : decode cX4_takeFirst 122 = .ok (.ior, 1) := by decide +kernel
theorem dX4_takeFirst_123 : decode cX4_takeFirst 123 = .ok (.istore 4, 2) := by decide +kernel
theorem dX4_takeFirst_125 : decode cX4_takeFirst 125 = .ok (.iload 6, 2) := by decide +kernel
theorem dX4_takeFirst_127 : decode cX4_takeFirst 127 = .ok (.istore_n 3, 1) := by decide +kernel
theorem dX4_takeFirst_128 : decode cX4_takeFirst 128 = .ok (.iinc 5 1, 3) := by decide +kernel
theorem dX4_takeFirst_131 : decode cX4_takeFirst 131 = .ok (.goto (-99), 3) := by decide +kernel
theorem dX4_takeFirst_134 : decode cX4_takeFirst 134 = .ok (.return_, 1) := by decide +kernel
theorem dX5_init_0 : decode cX5_init 0 = .ok (.aload_n 0, 1) := by decide +kernel
theorem dX5_init_1 : decode cX5_init 1 = .ok (.invokespecial 3, 3) := by decide +kernel
theorem dX5_init_4 : decode cX5_init 4 = .ok (.aload_n 0, 1) := by decide +kernel
theorem dX5_init_5 : decode cX5_init 5 = .ok (.new 9, 3) := by decide +kernel
theorem dX5_init_8 : decode cX5_init 8 = .ok (.dup, 1) := by decide +kernel
theorem dX5_init_9 : decode cX5_init 9 = .ok (.invokespecial 11, 3) := by decide +kernel
theorem dX5_init_12 : decode cX5_init 12 = .ok (.putfield 12, 3) := by decide +kernel
theorem dX5_init_15 : decode cX5_init 15 = .ok (.aload_n 0, 1) := by decide +kernel
theorem dX5_init_16 : decode cX5_init 16 = .ok (.aload_n 1, 1) := by decide +kernel
theorem dX5_init_17 : decode cX5_init 17 = .ok (.putfield 18, 3) := by decide +kernel
theorem dX5_init_20 : decode cX5_init 20 = .ok (.return_, 1) := by decide +kernel
theorem dX5_readTape_0 : decode cX5_readTape 0 = .ok (.aload_n 0, 1) := by decide +kernel
theorem dX5_readTape_1 : decode cX5_readTape 1 = .ok (.getfield 12, 3) := by decide +kernel
theorem dX5_readTape_4 : decode cX5_readTape 4 = .ok (.invokevirtual 22, 3) := by decide +kernel
theorem dX5_readTape_7 : decode cX5_readTape 7 = .ok (.aload_n 0, 1) := by decide +kernel
theorem dX5_readTape_8 : decode cX5_readTape 8 = .ok (.iconst 0, 1) := by decide +kernel
theorem dX5_readTape_9 : decode cX5_readTape 9 = .ok (.putfield 25, 3) := by decide +kernel
theorem dX5_readTape_12 : decode cX5_readTape 12 = .ok (.aload_n 0, 1) := by decide +kernel
theorem dX5_readTape_13 : decode cX5_readTape 13 = .ok (.iconst 0, 1) := by decide +kernel
theorem dX5_readTape_14 : decode cX5_readTape 14 = .ok (.putfield 29, 3) := by decide +kernel
theorem dX5_readTape_17 : decode cX5_readTape 17 = .ok (.aload_n 0, 1) := by decide +kernel
theorem dX5_readTape_18 : decode cX5_readTape 18 = .ok (.iconst 0, 1) := by decide +kernel
theorem dX5_readTape_19 : decode cX5_readTape 19 = .ok (.putfield 32, 3) := by decide +kernel
theorem dX5_readTape_22 : decode cX5_readTape 22 = .ok (.aload_n 0, 1) := by decide +kernel
theorem dX5_readTape_23 : decode cX5_readTape 23 = .ok (.iconst 0, 1) := by decide +kernel
theorem dX5_readTape_24 : decode cX5_readTape 24 = .ok (.putfield 35, 3) := by decide +kernel
theorem dX5_readTape_27 : decode cX5_readTape 27 = .ok (.aload_n 0, 1) := by decide +kernel
theorem dX5_readTape_28 : decode cX5_readTape 28 = .ok (.iconst 0, 1) := by decide +kernel
theorem dX5_readTape_29 : decode cX5_readTape 29 = .ok (.putfield 38, 3) := by decide +kernel
theorem dX5_readTape_32 : decode cX5_readTape 32 = .ok (.aload_n 0, 1) := by decide +kernel
theorem dX5_readTape_33 : decode cX5_readTape 33 = .ok (.iconst 0, 1) := by decide +kernel
theorem dX5_readTape_34 : decode cX5_readTape 34 = .ok (.putfield 41, 3) := by decide +kernel
theorem dX5_readTape_37 : decode cX5_readTape 37 = .ok (.aload_n 0, 1) := by decide +kernel
theorem dX5_readTape_38 : decode cX5_readTape 38 = .ok (.invokevirtual 45, 3) := by decide +kernel
theorem dX5_readTape_41 : decode cX5_readTape 41 = .ok (.ifCond .eq 14, 3) := by decide +kernel
theorem dX5_readTape_44 : decode cX5_readTape 44 = .ok (.aload_n 0, 1) := by decide +kernel
theorem dX5_readTape_45 : decode cX5_readTape 45 = .ok (.getfield 49, 3) := by decide +kernel
theorem dX5_readTape_48 : decode cX5_readTape 48 = .ok (.ifCond .eq 7, 3) := by decide +kernel
theorem dX5_readTape_51 : decode cX5_readTape 51 = .ok (.iconst 1, 1) := by decide +kernel
theorem dX5_readTape_52 : decode cX5_readTape 52 = .ok (.goto 4, 3) := by decide +kernel
theorem dX5_readTape_55 : decode cX5_readTape 55 = .ok (.iconst 0, 1) := by decide +kernel
theorem dX5_readTape_56 : decode cX5_readTape 56 = .ok (.istore_n 1, 1) := by decide +kernel
theorem dX5_readTape_57 : decode cX5_readTape 57 = .ok (.iload_n 1, 1) := by decide +kernel
theorem dX5_readTape_58 : decode cX5_readTape 58 = .ok (.ifCond .eq 55, 3) := by decide +kernel
theorem dX5_readTape_61 : decode cX5_readTape 61 = .ok (.aload_n 0, 1) := by decide +kernel
theorem dX5_readTape_62 : decode cX5_readTape 62 = .ok (.getfield 25, 3) := by decide +kernel
theorem dX5_readTape_65 : decode cX5_readTape 65 = .ok (.sipush 160, 3) := by decide +kernel
theorem dX5_readTape_68 : decode cX5_readTape 68 = .ok (.if_icmp .ge 45, 3) := by decide +kernel
theorem dX5_readTape_71 : decode cX5_readTape 71 = .ok (.aload_n 0, 1) := by decide +kernel
theorem dX5_readTape_72 : decode cX5_readTape 72 = .ok (.invokevirtual 52, 3) := by decide +kernel
theorem dX5_readTape_75 : decode cX5_readTape 75 = .ok (.istore_n 1, 1) := by decide +kernel
theorem dX5_readTape_76 : decode cX5_readTape 76 = .ok (.iload_n 1, 1) := by decide +kernel
theorem dX5_readTape_77 : decode cX5_readTape 77 = .ok (.ifCond .eq (-20), 3) := by decide +kernel
theorem dX5_readTape_80 : decode cX5_readTape 80 = .ok (.aload_n 0, 1) := by decide +kernel
theorem dX5_readTape_81 : decode cX5_readTape 81 = .ok (.dup, 1) := by decide +kernel
theorem dX5_readTape_82 : decode cX5_readTape 82 = .ok (.getfield 25, 3) := by decide +kernel
theorem dX5_readTape_85 : decode cX5_readTape 85 = .ok (.iconst 1, 1) := by decide +kernel
theorem dX5_readTape_86 : decode cX5_readTape 86 = .ok (.iadd, 1) := by decide +kernel
theorem dX5_readTape_87 : decode cX5_readTape 87 = .ok (.putfield 25, 3) := by decide +kernel
theorem dX5_readTape_90 : decode cX5_readTape 90 = .ok (.aload_n 0, 1) := by decide +kernel
theorem dX5_readTape_91 : decode cX5_readTape 91 = .ok (.invokevirtual 45, 3) := by decide +kernel
theorem dX5_readTape_94 : decode cX5_readTape 94 = .ok (.ifCond .eq 14, 3) := by decide +kernel
theorem dX5_readTape_97 : decode cX5_readTape 97 = .ok (.aload_n 0, 1) := by decide +kernel
theorem dX5_readTape_98 : decode cX5_readTape 98 = .ok (.getfield 49, 3) := by decide +kernel
theorem dX5_readTape_101 : decode cX5_readTape 101 = .ok (.ifCond .eq 7, 3) := by decide +kernel
theorem dX5_readTape_104 : decode cX5_readTape 104 = .ok (.iconst 1, 1) := by decide +kernel
theorem dX5_readTape_105 : decode cX5_readTape 105 = .ok (.goto 4, 3) := by decide +kernel
theorem dX5_readTape_108 : decode cX5_readTape 108 = .ok (.iconst 0, 1) := by decide +kernel
theorem dX5_readTape_109 : decode cX5_readTape 109 = .ok (.istore_n 1, 1) := by decide +kernel
theorem dX5_readTape_110 : decode cX5_readTape 110 = .ok (.goto (-53), 3) := by decide +kernel
theorem dX5_readTape_113 : decode cX5_readTape 113 = .ok (.aload_n 0, 1) := by decide +kernel
theorem dX5_readTape_114 : decode cX5_readTape 114 = .ok (.getfield 29, 3) := by decide +kernel
theorem dX5_readTape_117 : decode cX5_readTape 117 = .ok (.ifCond .ne 31, 3) := by decide +kernel
theorem dX5_readTape_120 : decode cX5_readTape 120 = .ok (.aload_n 0, 1) := by decide +kernel
theorem dX5_readTape_121 : decode cX5_readTape 121 = .ok (.getfield 12, 3) := by decide +kernel
theorem dX5_readTape_124 : decode cX5_readTape 124 = .ok (.invokevirtual 55, 3) := by decide +kernel
theorem dX5_readTape_127 : decode cX5_readTape 127 = .ok (.ifCond .ne 21, 3) := by decide +kernel
theorem dX5_readTape_130 : decode cX5_readTape 130 = .ok (.aload_n 0, 1) := by decide +kernel
