theorem dX8_isSheet_14 : decode cX8_isSheet 14 = .ok (.ireturn, 1) := by decide +kernel
theorem dX8_isLane_0 : decode cX8_isLane 0 = .ok (.iload_n 0, 1) := by decide +kernel
theorem dX8_isLane_1 : decode cX8_isLane 1 = .ok (.ifCond .lt 12, 3) := by decide +kernel
theorem dX8_isLane_4 : decode cX8_isLane 4 = .ok (.iload_n 0, 1) := by decide +kernel
theorem dX8_isLane_5 : decode cX8_isLane 5 = .ok (.iconst 3, 1) := by decide +kernel
theorem dX8_isLane_6 : decode cX8_isLane 6 = .ok (.if_icmp .ge 7, 3) := by decide +kernel
theorem dX8_isLane_9 : decode cX8_isLane 9 = .ok (.iconst 1, 1) := by decide +kernel
theorem dX8_isLane_10 : decode cX8_isLane 10 = .ok (.goto 4, 3) := by decide +kernel
theorem dX8_isLane_13 : decode cX8_isLane 13 = .ok (.iconst 0, 1) := by decide +kernel
theorem dX8_isLane_14 : decode cX8_isLane 14 = .ok (.ireturn, 1) := by decide +kernel
theorem dX8_isShift_0 : decode cX8_isShift 0 = .ok (.iload_n 1, 1) := by decide +kernel
theorem dX8_isShift_1 : decode cX8_isShift 1 = .ok (.invokestatic 162, 3) := by decide +kernel
theorem dX8_isShift_4 : decode cX8_isShift 4 = .ok (.ifCond .eq 24, 3) := by decide +kernel
theorem dX8_isShift_7 : decode cX8_isShift 7 = .ok (.iload_n 2, 1) := by decide +kernel
theorem dX8_isShift_8 : decode cX8_isShift 8 = .ok (.bipush (-4), 2) := by decide +kernel
theorem dX8_isShift_10 : decode cX8_isShift 10 = .ok (.if_icmp .eq 14, 3) := by decide +kernel
theorem dX8_isShift_13 : decode cX8_isShift 13 = .ok (.aload_n 0, 1) := by decide +kernel
theorem dX8_isShift_14 : decode cX8_isShift 14 = .ok (.getfield 10, 3) := by decide +kernel
theorem dX8_isShift_17 : decode cX8_isShift 17 = .ok (.iload_n 2, 1) := by decide +kernel
theorem dX8_isShift_18 : decode cX8_isShift 18 = .ok (.invokevirtual 140, 3) := by decide +kernel
theorem dX8_isShift_21 : decode cX8_isShift 21 = .ok (.ifCond .eq 7, 3) := by decide +kernel
theorem dX8_isShift_24 : decode cX8_isShift 24 = .ok (.iconst 1, 1) := by decide +kernel
theorem dX8_isShift_25 : decode cX8_isShift 25 = .ok (.goto 4, 3) := by decide +kernel
theorem dX8_isShift_28 : decode cX8_isShift 28 = .ok (.iconst 0, 1) := by decide +kernel
theorem dX8_isShift_29 : decode cX8_isShift 29 = .ok (.ireturn, 1) := by decide +kernel
theorem dX8_takeTrial_0 : decode cX8_takeTrial 0 = .ok (.aload_n 0, 1) := by decide +kernel
theorem dX8_takeTrial_1 : decode cX8_takeTrial 1 = .ok (.getfield 10, 3) := by decide +kernel
theorem dX8_takeTrial_4 : decode cX8_takeTrial 4 = .ok (.getfield 130, 3) := by decide +kernel
theorem dX8_takeTrial_7 : decode cX8_takeTrial 7 = .ok (.iconst 0, 1) := by decide +kernel
theorem dX8_takeTrial_8 : decode cX8_takeTrial 8 = .ok (.aload_n 0, 1) := by decide +kernel
theorem dX8_takeTrial_9 : decode cX8_takeTrial 9 = .ok (.getfield 72, 3) := by decide +kernel
theorem dX8_takeTrial_12 : decode cX8_takeTrial 12 = .ok (.iconst 0, 1) := by decide +kernel
theorem dX8_takeTrial_13 : decode cX8_takeTrial 13 = .ok (.bipush 10, 2) := by decide +kernel
theorem dX8_takeTrial_15 : decode cX8_takeTrial 15 = .ok (.invokestatic 303, 3) := by decide +kernel
theorem dX8_takeTrial_18 : decode cX8_takeTrial 18 = .ok (.return_, 1) := by decide +kernel
theorem dX8_worthBy_0 : decode cX8_worthBy 0 = .ok (.aload_n 0, 1) := by decide +kernel
theorem dX8_worthBy_1 : decode cX8_worthBy 1 = .ok (.getfield 54, 3) := by decide +kernel
theorem dX8_worthBy_4 : decode cX8_worthBy 4 = .ok (.aload_n 0, 1) := by decide +kernel
theorem dX8_worthBy_5 : decode cX8_worthBy 5 = .ok (.getfield 10, 3) := by decide +kernel
theorem dX8_worthBy_8 : decode cX8_worthBy 8 = .ok (.aload_n 1, 1) := by decide +kernel
theorem dX8_worthBy_9 : decode cX8_worthBy 9 = .ok (.invokevirtual 133, 3) := by decide +kernel
theorem dX8_worthBy_12 : decode cX8_worthBy 12 = .ok (.aload_n 0, 1) := by decide +kernel
theorem dX8_worthBy_13 : decode cX8_worthBy 13 = .ok (.getfield 54, 3) := by decide +kernel
theorem dX8_worthBy_16 : decode cX8_worthBy 16 = .ok (.aload_n 0, 1) := by decide +kernel
theorem dX8_worthBy_17 : decode cX8_worthBy 17 = .ok (.getfield 10, 3) := by decide +kernel
theorem dX8_worthBy_20 : decode cX8_worthBy 20 = .ok (.invokevirtual 221, 3) := by decide +kernel
theorem dX8_worthBy_23 : decode cX8_worthBy 23 = .ok (.ireturn, 1) := by decide +kernel
theorem dX8_worthSwapped_0 : decode cX8_worthSwapped 0 = .ok (.aload_n 0, 1) := by decide +kernel
theorem dX8_worthSwapped_1 : decode cX8_worthSwapped 1 = .ok (.invokevirtual 273, 3) := by decide +kernel
theorem dX8_worthSwapped_4 : decode cX8_worthSwapped 4 = .ok (.aload_n 0, 1) := by decide +kernel
theorem dX8_worthSwapped_5 : decode cX8_worthSwapped 5 = .ok (.getfield 72, 3) := by decide +kernel
theorem dX8_worthSwapped_8 : decode cX8_worthSwapped 8 = .ok (.iload_n 1, 1) := by decide +kernel
theorem dX8_worthSwapped_9 : decode cX8_worthSwapped 9 = .ok (.aload_n 0, 1) := by decide +kernel
theorem dX8_worthSwapped_10 : decode cX8_worthSwapped 10 = .ok (.getfield 10, 3) := by decide +kernel
theorem dX8_worthSwapped_13 : decode cX8_worthSwapped 13 = .ok (.getfield 130, 3) := by decide +kernel
theorem dX8_worthSwapped_16 : decode cX8_worthSwapped 16 = .ok (.iload_n 2, 1) := by decide +kernel
theorem dX8_worthSwapped_17 : decode cX8_worthSwapped 17 = .ok (.iaload, 1) := by decide +kernel
theorem dX8_worthSwapped_18 : decode cX8_worthSwapped 18 = .ok (.iastore, 1) := by decide +kernel
theorem dX8_worthSwapped_19 : decode cX8_worthSwapped 19 = .ok (.aload_n 0, 1) := by decide +kernel
theorem dX8_worthSwapped_20 : decode cX8_worthSwapped 20 = .ok (.getfield 72, 3) := by decide +kernel
theorem dX8_worthSwapped_23 : decode cX8_worthSwapped 23 = .ok (.iload_n 2, 1) := by decide +kernel
theorem dX8_worthSwapped_24 : decode cX8_worthSwapped 24 = .ok (.aload_n 0, 1) := by decide +kernel
theorem dX8_worthSwapped_25 : decode cX8_worthSwapped 25 = .ok (.getfield 10, 3) := by decide +kernel
theorem dX8_worthSwapped_28 : decode cX8_worthSwapped 28 = .ok (.getfield 130, 3) := by decide +kernel
theorem dX8_worthSwapped_31 : decode cX8_worthSwapped 31 = .ok (.iload_n 1, 1) := by decide +kernel
theorem dX8_worthSwapped_32 : decode cX8_worthSwapped 32 = .ok (.iaload, 1) := by decide +kernel
theorem dX8_worthSwapped_33 : decode cX8_worthSwapped 33 = .ok (.iastore, 1) := by decide +kernel
theorem dX8_worthSwapped_34 : decode cX8_worthSwapped 34 = .ok (.aload_n 0, 1) := by decide +kernel
theorem dX8_worthSwapped_35 : decode cX8_worthSwapped 35 = .ok (.aload_n 0, 1) := by decide +kernel
theorem dX8_worthSwapped_36 : decode cX8_worthSwapped 36 = .ok (.getfield 72, 3) := by decide +kernel
theorem dX8_worthSwapped_39 : decode cX8_worthSwapped 39 = .ok (.invokevirtual 233, 3) := by decide +kernel
theorem dX8_worthSwapped_42 : decode cX8_worthSwapped 42 = .ok (.ireturn, 1) := by decide +kernel
theorem dX8_worthGiven_0 : decode cX8_worthGiven 0 = .ok (.aload_n 0, 1) := by decide +kernel
theorem dX8_worthGiven_1 : decode cX8_worthGiven 1 = .ok (.invokevirtual 273, 3) := by decide +kernel
theorem dX8_worthGiven_4 : decode cX8_worthGiven 4 = .ok (.aload_n 0, 1) := by decide +kernel
theorem dX8_worthGiven_5 : decode cX8_worthGiven 5 = .ok (.getfield 72, 3) := by decide +kernel
theorem dX8_worthGiven_8 : decode cX8_worthGiven 8 = .ok (.iload_n 1, 1) := by decide +kernel
theorem dX8_worthGiven_9 : decode cX8_worthGiven 9 = .ok (.iload_n 2, 1) := by decide +kernel
theorem dX8_worthGiven_10 : decode cX8_worthGiven 10 = .ok (.iastore, 1) := by decide +kernel
theorem dX8_worthGiven_11 : decode cX8_worthGiven 11 = .ok (.aload_n 0, 1) := by decide +kernel
theorem dX8_worthGiven_12 : decode cX8_worthGiven 12 = .ok (.aload_n 0, 1) := by decide +kernel
theorem dX8_worthGiven_13 : decode cX8_worthGiven 13 = .ok (.getfield 72, 3) := by decide +kernel
theorem dX8_worthGiven_16 : decode cX8_worthGiven 16 = .ok (.invokevirtual 233, 3) := by decide +kernel
theorem dX8_worthGiven_19 : decode cX8_worthGiven 19 = .ok (.ireturn, 1) := by decide +kernel
theorem dX8_nextSeed_0 : decode cX8_nextSeed 0 = .ok (.iload_n 0, 1) := by decide +kernel
theorem dX8_nextSeed_1 : decode cX8_nextSeed 1 = .ok (.ldc_w 318, 3) := by decide +kernel
theorem dX8_nextSeed_4 : decode cX8_nextSeed 4 = .ok (.imul, 1) := by decide +kernel
theorem dX8_nextSeed_5 : decode cX8_nextSeed 5 = .ok (.sipush 12345, 3) := by decide +kernel
theorem dX8_nextSeed_8 : decode cX8_nextSeed 8 = .ok (.iadd, 1) := by decide +kernel
theorem dX8_nextSeed_9 : decode cX8_nextSeed 9 = .ok (.ireturn, 1) := by decide +kernel
theorem dX8_drawn_0 : decode cX8_drawn 0 = .ok (.iload_n 0, 1) := by decide +kernel
theorem dX8_drawn_1 : decode cX8_drawn 1 = .ok (.bipush 16, 2) := by decide +kernel
theorem dX8_drawn_3 : decode cX8_drawn 3 = .ok (.iushr, 1) := by decide +kernel
theorem dX8_drawn_4 : decode cX8_drawn 4 = .ok (.sipush 32767, 3) := by decide +kernel
theorem dX8_drawn_7 : decode cX8_drawn 7 = .ok (.iand, 1) := by decide +kernel
theorem dX8_drawn_8 : decode cX8_drawn 8 = .ok (.ireturn, 1) := by decide +kernel
theorem dX8_possibleHolders_0 : decode cX8_possibleHolders 0 = .ok (.aload_n 0, 1) := by decide +kernel
theorem dX8_possibleHolders_1 : decode cX8_possibleHolders 1 = .ok (.invokevirtual 273, 3) := by decide +kernel
theorem dX8_possibleHolders_4 : decode cX8_possibleHolders 4 = .ok (.iconst 0, 1) := by decide +kernel
theorem dX8_possibleHolders_5 : decode cX8_possibleHolders 5 = .ok (.istore_n 2, 1) := by decide +kernel
theorem dX8_possibleHolders_6 : decode cX8_possibleHolders 6 = .ok (.iconst 0, 1) := by decide +kernel
theorem dX8_possibleHolders_7 : decode cX8_possibleHolders 7 = .ok (.istore_n 3, 1) := by decide +kernel
theorem dX8_possibleHolders_8 : decode cX8_possibleHolders 8 = .ok (.iload_n 3, 1) := by decide +kernel
theorem dX8_possibleHolders_9 : decode cX8_possibleHolders 9 = .ok (.iconst 5, 1) := by decide +kernel
theorem dX8_possibleHolders_10 : decode cX8_possibleHolders 10 = .ok (.if_icmp .gt 109, 3) := by decide +kernel
theorem dX8_possibleHolders_13 : decode cX8_possibleHolders 13 = .ok (.iload_n 3, 1) := by decide +kernel
theorem dX8_possibleHolders_14 : decode cX8_possibleHolders 14 = .ok (.iconst 5, 1) := by decide +kernel
theorem dX8_possibleHolders_15 : decode cX8_possibleHolders 15 = .ok (.if_icmp .ne 7, 3) := by decide +kernel
theorem dX8_possibleHolders_18 : decode cX8_possibleHolders 18 = .ok (.iconst 1, 1) := by decide +kernel
theorem dX8_possibleHolders_19 : decode cX8_possibleHolders 19 = .ok (.goto 4, 3) := by decide +kernel
theorem dX8_possibleHolders_22 : decode cX8_possibleHolders 22 = .ok (.iconst 0, 1) := by decide +kernel
theorem dX8_possibleHolders_23 : decode cX8_possibleHolders 23 = .ok (.istore 4, 2) := by decide +kernel
theorem dX8_possibleHolders_25 : decode cX8_possibleHolders 25 = .ok (.iload 4, 2) := by decide +kernel
theorem dX8_possibleHolders_27 : decode cX8_possibleHolders 27 = .ok (.ifCond .ne 14, 3) := by decide +kernel
theorem dX8_possibleHolders_30 : decode cX8_possibleHolders 30 = .ok (.aload_n 0, 1) := by decide +kernel
theorem dX8_possibleHolders_31 : decode cX8_possibleHolders 31 = .ok (.getfield 10, 3) := by decide +kernel
theorem dX8_possibleHolders_34 : decode cX8_possibleHolders 34 = .ok (.iload_n 3, 1) := by decide +kernel
theorem dX8_possibleHolders_35 : decode cX8_possibleHolders 35 = .ok (.invokevirtual 140, 3) := by decide +kernel
theorem dX8_possibleHolders_38 : decode cX8_possibleHolders 38 = .ok (.ifCond .eq 75, 3) := by decide +kernel
theorem dX8_possibleHolders_41 : decode cX8_possibleHolders 41 = .ok (.aload_n 0, 1) := by decide +kernel
theorem dX8_possibleHolders_42 : decode cX8_possibleHolders 42 = .ok (.getfield 72, 3) := by decide +kernel
theorem dX8_possibleHolders_45 : decode cX8_possibleHolders 45 = .ok (.iload_n 1, 1) := by decide +kernel
theorem dX8_possibleHolders_46 : decode cX8_possibleHolders 46 = .ok (.iload 4, 2) := by decide +kernel
theorem dX8_possibleHolders_48 : decode cX8_possibleHolders 48 = .ok (.ifCond .eq 8, 3) := by decide +kernel
theorem dX8_possibleHolders_51 : decode cX8_possibleHolders 51 = .ok (.bipush (-4), 2) := by decide +kernel
theorem dX8_possibleHolders_53 : decode cX8_possibleHolders 53 = .ok (.goto 4, 3) := by decide +kernel
theorem dX8_possibleHolders_56 : decode cX8_possibleHolders 56 = .ok (.iload_n 3, 1) := by decide +kernel
theorem dX8_possibleHolders_57 : decode cX8_possibleHolders 57 = .ok (.iastore, 1) := by decide +kernel
theorem dX8_possibleHolders_58 : decode cX8_possibleHolders 58 = .ok (.aload_n 0, 1) := by decide +kernel
theorem dX8_possibleHolders_59 : decode cX8_possibleHolders 59 = .ok (.getfield 61, 3) := by decide +kernel
theorem dX8_possibleHolders_62 : decode cX8_possibleHolders 62 = .ok (.aload_n 0, 1) := by decide +kernel
theorem dX8_possibleHolders_63 : decode cX8_possibleHolders 63 = .ok (.getfield 10, 3) := by decide +kernel
theorem dX8_possibleHolders_66 : decode cX8_possibleHolders 66 = .ok (.aload_n 0, 1) := by decide +kernel
theorem dX8_possibleHolders_67 : decode cX8_possibleHolders 67 = .ok (.getfield 72, 3) := by decide +kernel
theorem dX8_possibleHolders_70 : decode cX8_possibleHolders 70 = .ok (.invokevirtual 200, 3) := by decide +kernel
theorem dX8_possibleHolders_73 : decode cX8_possibleHolders 73 = .ok (.aload_n 0, 1) := by decide +kernel
theorem dX8_possibleHolders_74 : decode cX8_possibleHolders 74 = .ok (.getfield 61, 3) := by decide +kernel
theorem dX8_possibleHolders_77 : decode cX8_possibleHolders 77 = .ok (.aload_n 0, 1) := by decide +kernel
theorem dX8_possibleHolders_78 : decode cX8_possibleHolders 78 = .ok (.getfield 76, 3) := by decide +kernel
theorem dX8_possibleHolders_81 : decode cX8_possibleHolders 81 = .ok (.iload_n 3, 1) := by decide +kernel
theorem dX8_possibleHolders_82 : decode cX8_possibleHolders 82 = .ok (.iconst 5, 1) := by decide +kernel
theorem dX8_possibleHolders_83 : decode cX8_possibleHolders 83 = .ok (.imul, 1) := by decide +kernel
theorem dX8_possibleHolders_84 : decode cX8_possibleHolders 84 = .ok (.iconst 3, 1) := by decide +kernel
theorem dX8_possibleHolders_85 : decode cX8_possibleHolders 85 = .ok (.imul, 1) := by decide +kernel
theorem dX8_possibleHolders_86 : decode cX8_possibleHolders 86 = .ok (.invokevirtual 319, 3) := by decide +kernel
theorem dX8_possibleHolders_89 : decode cX8_possibleHolders 89 = .ok (.iload_n 2, 1) := by decide +kernel
theorem dX8_possibleHolders_90 : decode cX8_possibleHolders 90 = .ok (.aload_n 0, 1) := by decide +kernel
theorem dX8_possibleHolders_91 : decode cX8_possibleHolders 91 = .ok (.getfield 61, 3) := by decide +kernel
theorem dX8_possibleHolders_94 : decode cX8_possibleHolders 94 = .ok (.aload_n 0, 1) := by decide +kernel
theorem dX8_possibleHolders_95 : decode cX8_possibleHolders 95 = .ok (.getfield 29, 3) := by decide +kernel
theorem dX8_possibleHolders_98 : decode cX8_possibleHolders 98 = .ok (.invokevirtual 323, 3) := by decide +kernel
theorem dX8_possibleHolders_101 : decode cX8_possibleHolders 101 = .ok (.ifCond .eq 9, 3) := by decide +kernel
theorem dX8_possibleHolders_104 : decode cX8_possibleHolders 104 = .ok (.iconst 1, 1) := by decide +kernel
theorem dX8_possibleHolders_105 : decode cX8_possibleHolders 105 = .ok (.iload_n 3, 1) := by decide +kernel
theorem dX8_possibleHolders_106 : decode cX8_possibleHolders 106 = .ok (.ishl, 1) := by decide +kernel
theorem dX8_possibleHolders_107 : decode cX8_possibleHolders 107 = .ok (.goto 4, 3) := by decide +kernel
theorem dX8_possibleHolders_110 : decode cX8_possibleHolders 110 = .ok (.iconst 0, 1) := by decide +kernel
theorem dX8_possibleHolders_111 : decode cX8_possibleHolders 111 = .ok (.ior, 1) := by decide +kernel
theorem dX8_possibleHolders_112 : decode cX8_possibleHolders 112 = .ok (.istore_n 2, 1) := by decide +kernel
theorem dX8_possibleHolders_113 : decode cX8_possibleHolders 113 = .ok (.iinc 3 1, 3) := by decide +kernel
theorem dX8_possibleHolders_116 : decode cX8_possibleHolders 116 = .ok (.goto (-108), 3) := by decide +kernel
theorem dX8_possibleHolders_119 : decode cX8_possibleHolders 119 = .ok (.iload_n 2, 1) := by decide +kernel
theorem dX8_possibleHolders_120 : decode cX8_possibleHolders 120 = .ok (.ireturn, 1) := by decide +kernel
theorem dX8_leftAtWorst_0 : decode cX8_leftAtWorst 0 = .ok (.iconst 0, 1) := by decide +kernel
theorem dX8_leftAtWorst_1 : decode cX8_leftAtWorst 1 = .ok (.istore 4, 2) := by decide +kernel
theorem dX8_leftAtWorst_3 : decode cX8_leftAtWorst 3 = .ok (.iconst 0, 1) := by decide +kernel
theorem dX8_leftAtWorst_4 : decode cX8_leftAtWorst 4 = .ok (.istore 5, 2) := by decide +kernel
theorem dX8_leftAtWorst_6 : decode cX8_leftAtWorst 6 = .ok (.iload 5, 2) := by decide +kernel
theorem dX8_leftAtWorst_8 : decode cX8_leftAtWorst 8 = .ok (.iconst 5, 1) := by decide +kernel
theorem dX8_leftAtWorst_9 : decode cX8_leftAtWorst 9 = .ok (.if_icmp .gt 88, 3) := by decide +kernel
theorem dX8_leftAtWorst_12 : decode cX8_leftAtWorst 12 = .ok (.iconst 0, 1) := by decide +kernel
theorem dX8_leftAtWorst_13 : decode cX8_leftAtWorst 13 = .ok (.istore 6, 2) := by decide +kernel
theorem dX8_leftAtWorst_15 : decode cX8_leftAtWorst 15 = .ok (.iconst 0, 1) := by decide +kernel
theorem dX8_leftAtWorst_16 : decode cX8_leftAtWorst 16 = .ok (.istore 7, 2) := by decide +kernel
theorem dX8_leftAtWorst_18 : decode cX8_leftAtWorst 18 = .ok (.iload 7, 2) := by decide +kernel
theorem dX8_leftAtWorst_20 : decode cX8_leftAtWorst 20 = .ok (.iconst 5, 1) := by decide +kernel
theorem dX8_leftAtWorst_21 : decode cX8_leftAtWorst 21 = .ok (.if_icmp .gt 61, 3) := by decide +kernel
theorem dX8_leftAtWorst_24 : decode cX8_leftAtWorst 24 = .ok (.iload_n 1, 1) := by decide +kernel
theorem dX8_leftAtWorst_25 : decode cX8_leftAtWorst 25 = .ok (.iconst 1, 1) := by decide +kernel
theorem dX8_leftAtWorst_26 : decode cX8_leftAtWorst 26 = .ok (.iload 5, 2) := by decide +kernel
theorem dX8_leftAtWorst_28 : decode cX8_leftAtWorst 28 = .ok (.ishl, 1) := by decide +kernel
theorem dX8_leftAtWorst_29 : decode cX8_leftAtWorst 29 = .ok (.iand, 1) := by decide +kernel
theorem dX8_leftAtWorst_30 : decode cX8_leftAtWorst 30 = .ok (.ifCond .eq 16, 3) := by decide +kernel
theorem dX8_leftAtWorst_33 : decode cX8_leftAtWorst 33 = .ok (.iload_n 1, 1) := by decide +kernel
theorem dX8_leftAtWorst_34 : decode cX8_leftAtWorst 34 = .ok (.iconst 1, 1) := by decide +kernel
theorem dX8_leftAtWorst_35 : decode cX8_leftAtWorst 35 = .ok (.iload 7, 2) := by decide +kernel
theorem dX8_leftAtWorst_37 : decode cX8_leftAtWorst 37 = .ok (.ishl, 1) := by decide +kernel
theorem dX8_leftAtWorst_38 : decode cX8_leftAtWorst 38 = .ok (.iand, 1) := by decide +kernel
theorem dX8_leftAtWorst_39 : decode cX8_leftAtWorst 39 = .ok (.ifCond .eq 7, 3) := by decide +kernel
theorem dX8_leftAtWorst_42 : decode cX8_leftAtWorst 42 = .ok (.iconst 1, 1) := by decide +kernel
theorem dX8_leftAtWorst_43 : decode cX8_leftAtWorst 43 = .ok (.goto 4, 3) := by decide +kernel
theorem dX8_leftAtWorst_46 : decode cX8_leftAtWorst 46 = .ok (.iconst 0, 1) := by decide +kernel
theorem dX8_leftAtWorst_47 : decode cX8_leftAtWorst 47 = .ok (.istore 8, 2) := by decide +kernel
theorem dX8_leftAtWorst_49 : decode cX8_leftAtWorst 49 = .ok (.iload 8, 2) := by decide +kernel
theorem dX8_leftAtWorst_51 : decode cX8_leftAtWorst 51 = .ok (.ifCond .eq 25, 3) := by decide +kernel
theorem dX8_leftAtWorst_54 : decode cX8_leftAtWorst 54 = .ok (.aload_n 0, 1) := by decide +kernel
theorem dX8_leftAtWorst_55 : decode cX8_leftAtWorst 55 = .ok (.iload 5, 2) := by decide +kernel
theorem dX8_leftAtWorst_57 : decode cX8_leftAtWorst 57 = .ok (.iload_n 2, 1) := by decide +kernel
theorem dX8_leftAtWorst_58 : decode cX8_leftAtWorst 58 = .ok (.iload_n 3, 1) := by decide +kernel
theorem dX8_leftAtWorst_59 : decode cX8_leftAtWorst 59 = .ok (.invokevirtual 327, 3) := by decide +kernel
theorem dX8_leftAtWorst_62 : decode cX8_leftAtWorst 62 = .ok (.aload_n 0, 1) := by decide +kernel
theorem dX8_leftAtWorst_63 : decode cX8_leftAtWorst 63 = .ok (.iload 7, 2) := by decide +kernel
theorem dX8_leftAtWorst_65 : decode cX8_leftAtWorst 65 = .ok (.iload_n 2, 1) := by decide +kernel
theorem dX8_leftAtWorst_66 : decode cX8_leftAtWorst 66 = .ok (.iload_n 3, 1) := by decide +kernel
theorem dX8_leftAtWorst_67 : decode cX8_leftAtWorst 67 = .ok (.invokevirtual 327, 3) := by decide +kernel
theorem dX8_leftAtWorst_70 : decode cX8_leftAtWorst 70 = .ok (.if_icmp .ne 6, 3) := by decide +kernel
theorem dX8_leftAtWorst_73 : decode cX8_leftAtWorst 73 = .ok (.iinc 6 1, 3) := by decide +kernel
theorem dX8_leftAtWorst_76 : decode cX8_leftAtWorst 76 = .ok (.iinc 7 1, 3) := by decide +kernel
theorem dX8_leftAtWorst_79 : decode cX8_leftAtWorst 79 = .ok (.goto (-61), 3) := by decide +kernel
theorem dX8_leftAtWorst_82 : decode cX8_leftAtWorst 82 = .ok (.iload 4, 2) := by decide +kernel
theorem dX8_leftAtWorst_84 : decode cX8_leftAtWorst 84 = .ok (.iload 6, 2) := by decide +kernel
theorem dX8_leftAtWorst_86 : decode cX8_leftAtWorst 86 = .ok (.invokestatic 330, 3) := by decide +kernel
theorem dX8_leftAtWorst_89 : decode cX8_leftAtWorst 89 = .ok (.istore 4, 2) := by decide +kernel
theorem dX8_leftAtWorst_91 : decode cX8_leftAtWorst 91 = .ok (.iinc 5 1, 3) := by decide +kernel
theorem dX8_leftAtWorst_94 : decode cX8_leftAtWorst 94 = .ok (.goto (-88), 3) := by decide +kernel
theorem dX8_leftAtWorst_97 : decode cX8_leftAtWorst 97 = .ok (.iload 4, 2) := by decide +kernel
theorem dX8_leftAtWorst_99 : decode cX8_leftAtWorst 99 = .ok (.ireturn, 1) := by decide +kernel
theorem dX8_answerBy_0 : decode cX8_answerBy 0 = .ok (.aload_n 0, 1) := by decide +kernel
theorem dX8_answerBy_1 : decode cX8_answerBy 1 = .ok (.getfield 76, 3) := by decide +kernel
theorem dX8_answerBy_4 : decode cX8_answerBy 4 = .ok (.iload_n 1, 1) := by decide +kernel
theorem dX8_answerBy_5 : decode cX8_answerBy 5 = .ok (.iconst 5, 1) := by decide +kernel
theorem dX8_answerBy_6 : decode cX8_answerBy 6 = .ok (.imul, 1) := by decide +kernel
theorem dX8_answerBy_7 : decode cX8_answerBy 7 = .ok (.iload_n 2, 1) := by decide +kernel
theorem dX8_answerBy_8 : decode cX8_answerBy 8 = .ok (.iadd, 1) := by decide +kernel
theorem dX8_answerBy_9 : decode cX8_answerBy 9 = .ok (.iconst 3, 1) := by decide +kernel
theorem dX8_answerBy_10 : decode cX8_answerBy 10 = .ok (.imul, 1) := by decide +kernel
theorem dX8_answerBy_11 : decode cX8_answerBy 11 = .ok (.iload_n 3, 1) := by decide +kernel
theorem dX8_answerBy_12 : decode cX8_answerBy 12 = .ok (.iadd, 1) := by decide +kernel
theorem dX8_answerBy_13 : decode cX8_answerBy 13 = .ok (.iaload, 1) := by decide +kernel
theorem dX8_answerBy_14 : decode cX8_answerBy 14 = .ok (.ireturn, 1) := by decide +kernel
