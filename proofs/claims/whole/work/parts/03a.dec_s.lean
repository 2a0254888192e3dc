theorem dX0_init_0 : decode cX0_init 0 = .ok (.aload_n 0, 1) := by decide +kernel
theorem dX0_init_1 : decode cX0_init 1 = .ok (.invokespecial 3, 3) := by decide +kernel
theorem dX0_init_4 : decode cX0_init 4 = .ok (.aload_n 0, 1) := by decide +kernel
theorem dX0_init_5 : decode cX0_init 5 = .ok (.bipush 16, 2) := by decide +kernel
theorem dX0_init_7 : decode cX0_init 7 = .ok (.newarray .int, 2) := by decide +kernel
theorem dX0_init_9 : decode cX0_init 9 = .ok (.putfield 9, 3) := by decide +kernel
theorem dX0_init_12 : decode cX0_init 12 = .ok (.return_, 1) := by decide +kernel
theorem dX0_learn_0 : decode cX0_learn 0 = .ok (.iconst 0, 1) := by decide +kernel
theorem dX0_learn_1 : decode cX0_learn 1 = .ok (.istore 4, 2) := by decide +kernel
theorem dX0_learn_3 : decode cX0_learn 3 = .ok (.iload 4, 2) := by decide +kernel
theorem dX0_learn_5 : decode cX0_learn 5 = .ok (.bipush 15, 2) := by decide +kernel
theorem dX0_learn_7 : decode cX0_learn 7 = .ok (.if_icmp .gt 17, 3) := by decide +kernel
theorem dX0_learn_10 : decode cX0_learn 10 = .ok (.aload_n 0, 1) := by decide +kernel
theorem dX0_learn_11 : decode cX0_learn 11 = .ok (.getfield 9, 3) := by decide +kernel
theorem dX0_learn_14 : decode cX0_learn 14 = .ok (.iload 4, 2) := by decide +kernel
theorem dX0_learn_16 : decode cX0_learn 16 = .ok (.iconst 0, 1) := by decide +kernel
theorem dX0_learn_17 : decode cX0_learn 17 = .ok (.iastore, 1) := by decide +kernel
theorem dX0_learn_18 : decode cX0_learn 18 = .ok (.iinc 4 1, 3) := by decide +kernel
theorem dX0_learn_21 : decode cX0_learn 21 = .ok (.goto (-18), 3) := by decide +kernel
theorem dX0_learn_24 : decode cX0_learn 24 = .ok (.aload_n 0, 1) := by decide +kernel
theorem dX0_learn_25 : decode cX0_learn 25 = .ok (.iconst (-1), 1) := by decide +kernel
theorem dX0_learn_26 : decode cX0_learn 26 = .ok (.putfield 15, 3) := by decide +kernel
theorem dX0_learn_29 : decode cX0_learn 29 = .ok (.aload_n 0, 1) := by decide +kernel
theorem dX0_learn_30 : decode cX0_learn 30 = .ok (.iconst 0, 1) := by decide +kernel
theorem dX0_learn_31 : decode cX0_learn 31 = .ok (.putfield 19, 3) := by decide +kernel
theorem dX0_learn_34 : decode cX0_learn 34 = .ok (.iconst 1, 1) := by decide +kernel
theorem dX0_learn_35 : decode cX0_learn 35 = .ok (.aload_n 1, 1) := by decide +kernel
theorem dX0_learn_36 : decode cX0_learn 36 = .ok (.getfield 22, 3) := by decide +kernel
theorem dX0_learn_39 : decode cX0_learn 39 = .ok (.invokestatic 27, 3) := by decide +kernel
theorem dX0_learn_42 : decode cX0_learn 42 = .ok (.ishl, 1) := by decide +kernel
theorem dX0_learn_43 : decode cX0_learn 43 = .ok (.istore 4, 2) := by decide +kernel
theorem dX0_learn_45 : decode cX0_learn 45 = .ok (.iconst 0, 1) := by decide +kernel
theorem dX0_learn_46 : decode cX0_learn 46 = .ok (.istore 5, 2) := by decide +kernel
theorem dX0_learn_48 : decode cX0_learn 48 = .ok (.iconst 0, 1) := by decide +kernel
theorem dX0_learn_49 : decode cX0_learn 49 = .ok (.istore 6, 2) := by decide +kernel
theorem dX0_learn_51 : decode cX0_learn 51 = .ok (.iload 6, 2) := by decide +kernel
theorem dX0_learn_53 : decode cX0_learn 53 = .ok (.iload 4, 2) := by decide +kernel
theorem dX0_learn_55 : decode cX0_learn 55 = .ok (.if_icmp .ge 82, 3) := by decide +kernel
theorem dX0_learn_58 : decode cX0_learn 58 = .ok (.aload_n 1, 1) := by decide +kernel
theorem dX0_learn_59 : decode cX0_learn 59 = .ok (.getfield 33, 3) := by decide +kernel
theorem dX0_learn_62 : decode cX0_learn 62 = .ok (.iload 5, 2) := by decide +kernel
theorem dX0_learn_64 : decode cX0_learn 64 = .ok (.ior, 1) := by decide +kernel
theorem dX0_learn_65 : decode cX0_learn 65 = .ok (.istore 7, 2) := by decide +kernel
theorem dX0_learn_67 : decode cX0_learn 67 = .ok (.aload_n 2, 1) := by decide +kernel
theorem dX0_learn_68 : decode cX0_learn 68 = .ok (.aload_n 1, 1) := by decide +kernel
theorem dX0_learn_69 : decode cX0_learn 69 = .ok (.getfield 36, 3) := by decide +kernel
theorem dX0_learn_72 : decode cX0_learn 72 = .ok (.iload 7, 2) := by decide +kernel
theorem dX0_learn_74 : decode cX0_learn 74 = .ok (.iload_n 3, 1) := by decide +kernel
theorem dX0_learn_75 : decode cX0_learn 75 = .ok (.invokevirtual 39, 3) := by decide +kernel
theorem dX0_learn_78 : decode cX0_learn 78 = .ok (.ifCond .eq 39, 3) := by decide +kernel
theorem dX0_learn_81 : decode cX0_learn 81 = .ok (.aload_n 0, 1) := by decide +kernel
theorem dX0_learn_82 : decode cX0_learn 82 = .ok (.getfield 9, 3) := by decide +kernel
theorem dX0_learn_85 : decode cX0_learn 85 = .ok (.iload 5, 2) := by decide +kernel
theorem dX0_learn_87 : decode cX0_learn 87 = .ok (.invokestatic 27, 3) := by decide +kernel
theorem dX0_learn_90 : decode cX0_learn 90 = .ok (.dup2, 1) := by decide +kernel
theorem dX0_learn_91 : decode cX0_learn 91 = .ok (.iaload, 1) := by decide +kernel
theorem dX0_learn_92 : decode cX0_learn 92 = .ok (.iconst 1, 1) := by decide +kernel
theorem dX0_learn_93 : decode cX0_learn 93 = .ok (.iadd, 1) := by decide +kernel
theorem dX0_learn_94 : decode cX0_learn 94 = .ok (.iastore, 1) := by decide +kernel
theorem dX0_learn_95 : decode cX0_learn 95 = .ok (.aload_n 0, 1) := by decide +kernel
theorem dX0_learn_96 : decode cX0_learn 96 = .ok (.dup, 1) := by decide +kernel
theorem dX0_learn_97 : decode cX0_learn 97 = .ok (.getfield 15, 3) := by decide +kernel
theorem dX0_learn_100 : decode cX0_learn 100 = .ok (.iload 7, 2) := by decide +kernel
theorem dX0_learn_102 : decode cX0_learn 102 = .ok (.iand, 1) := by decide +kernel
theorem dX0_learn_103 : decode cX0_learn 103 = .ok (.putfield 15, 3) := by decide +kernel
theorem dX0_learn_106 : decode cX0_learn 106 = .ok (.aload_n 0, 1) := by decide +kernel
theorem dX0_learn_107 : decode cX0_learn 107 = .ok (.dup, 1) := by decide +kernel
theorem dX0_learn_108 : decode cX0_learn 108 = .ok (.getfield 19, 3) := by decide +kernel
theorem dX0_learn_111 : decode cX0_learn 111 = .ok (.iload 7, 2) := by decide +kernel
theorem dX0_learn_113 : decode cX0_learn 113 = .ok (.ior, 1) := by decide +kernel
theorem dX0_learn_114 : decode cX0_learn 114 = .ok (.putfield 19, 3) := by decide +kernel
theorem dX0_learn_117 : decode cX0_learn 117 = .ok (.iload 5, 2) := by decide +kernel
theorem dX0_learn_119 : decode cX0_learn 119 = .ok (.aload_n 1, 1) := by decide +kernel
theorem dX0_learn_120 : decode cX0_learn 120 = .ok (.getfield 22, 3) := by decide +kernel
theorem dX0_learn_123 : decode cX0_learn 123 = .ok (.isub, 1) := by decide +kernel
theorem dX0_learn_124 : decode cX0_learn 124 = .ok (.aload_n 1, 1) := by decide +kernel
theorem dX0_learn_125 : decode cX0_learn 125 = .ok (.getfield 22, 3) := by decide +kernel
theorem dX0_learn_128 : decode cX0_learn 128 = .ok (.iand, 1) := by decide +kernel
theorem dX0_learn_129 : decode cX0_learn 129 = .ok (.istore 5, 2) := by decide +kernel
theorem dX0_learn_131 : decode cX0_learn 131 = .ok (.iinc 6 1, 3) := by decide +kernel
theorem dX0_learn_134 : decode cX0_learn 134 = .ok (.goto (-83), 3) := by decide +kernel
theorem dX0_learn_137 : decode cX0_learn 137 = .ok (.return_, 1) := by decide +kernel
theorem dX1_part_0 : decode cX1_part 0 = .ok (.lload_n 0, 1) := by decide +kernel
theorem dX1_part_1 : decode cX1_part 1 = .ok (.lload_n 2, 1) := by decide +kernel
theorem dX1_part_2 : decode cX1_part 2 = .ok (.invokestatic 7, 3) := by decide +kernel
theorem dX1_part_5 : decode cX1_part 5 = .ok (.lstore 5, 2) := by decide +kernel
theorem dX1_part_7 : decode cX1_part 7 = .ok (.lload 5, 2) := by decide +kernel
theorem dX1_part_9 : decode cX1_part 9 = .ok (.lconst 0, 1) := by decide +kernel
theorem dX1_part_10 : decode cX1_part 10 = .ok (.lcmp, 1) := by decide +kernel
theorem dX1_part_11 : decode cX1_part 11 = .ok (.ifCond .ne 5, 3) := by decide +kernel
theorem dX1_part_14 : decode cX1_part 14 = .ok (.lconst 0, 1) := by decide +kernel
theorem dX1_part_15 : decode cX1_part 15 = .ok (.lreturn, 1) := by decide +kernel
theorem dX1_part_16 : decode cX1_part 16 = .ok (.iload 4, 2) := by decide +kernel
theorem dX1_part_18 : decode cX1_part 18 = .ok (.ifCond .ne 7, 3) := by decide +kernel
theorem dX1_part_21 : decode cX1_part 21 = .ok (.lload_n 0, 1) := by decide +kernel
theorem dX1_part_22 : decode cX1_part 22 = .ok (.goto 4, 3) := by decide +kernel
theorem dX1_part_25 : decode cX1_part 25 = .ok (.lload_n 2, 1) := by decide +kernel
theorem dX1_part_26 : decode cX1_part 26 = .ok (.lload 5, 2) := by decide +kernel
theorem dX1_part_28 : decode cX1_part 28 = .ok (.ldiv, 1) := by decide +kernel
theorem dX1_part_29 : decode cX1_part 29 = .ok (.lreturn, 1) := by decide +kernel
theorem dX1_power_0 : decode cX1_power 0 = .ok (.lconst 1, 1) := by decide +kernel
theorem dX1_power_1 : decode cX1_power 1 = .ok (.lstore_n 3, 1) := by decide +kernel
theorem dX1_power_2 : decode cX1_power 2 = .ok (.iconst 0, 1) := by decide +kernel
theorem dX1_power_3 : decode cX1_power 3 = .ok (.istore 5, 2) := by decide +kernel
theorem dX1_power_5 : decode cX1_power 5 = .ok (.iload 5, 2) := by decide +kernel
theorem dX1_power_7 : decode cX1_power 7 = .ok (.iload_n 2, 1) := by decide +kernel
theorem dX1_power_8 : decode cX1_power 8 = .ok (.if_icmp .ge 13, 3) := by decide +kernel
theorem dX1_power_11 : decode cX1_power 11 = .ok (.lload_n 3, 1) := by decide +kernel
theorem dX1_power_12 : decode cX1_power 12 = .ok (.lload_n 0, 1) := by decide +kernel
theorem dX1_power_13 : decode cX1_power 13 = .ok (.lmul, 1) := by decide +kernel
theorem dX1_power_14 : decode cX1_power 14 = .ok (.lstore_n 3, 1) := by decide +kernel
theorem dX1_power_15 : decode cX1_power 15 = .ok (.iinc 5 1, 3) := by decide +kernel
theorem dX1_power_18 : decode cX1_power 18 = .ok (.goto (-13), 3) := by decide +kernel
theorem dX1_power_21 : decode cX1_power 21 = .ok (.lload_n 3, 1) := by decide +kernel
theorem dX1_power_22 : decode cX1_power 22 = .ok (.lreturn, 1) := by decide +kernel
theorem dX1_commonDivisor_0 : decode cX1_commonDivisor 0 = .ok (.lload_n 0, 1) := by decide +kernel
theorem dX1_commonDivisor_1 : decode cX1_commonDivisor 1 = .ok (.lstore 4, 2) := by decide +kernel
theorem dX1_commonDivisor_3 : decode cX1_commonDivisor 3 = .ok (.lload_n 2, 1) := by decide +kernel
theorem dX1_commonDivisor_4 : decode cX1_commonDivisor 4 = .ok (.lstore 6, 2) := by decide +kernel
theorem dX1_commonDivisor_6 : decode cX1_commonDivisor 6 = .ok (.iconst 0, 1) := by decide +kernel
theorem dX1_commonDivisor_7 : decode cX1_commonDivisor 7 = .ok (.istore 8, 2) := by decide +kernel
theorem dX1_commonDivisor_9 : decode cX1_commonDivisor 9 = .ok (.lload 6, 2) := by decide +kernel
theorem dX1_commonDivisor_11 : decode cX1_commonDivisor 11 = .ok (.lconst 0, 1) := by decide +kernel
theorem dX1_commonDivisor_12 : decode cX1_commonDivisor 12 = .ok (.lcmp, 1) := by decide +kernel
theorem dX1_commonDivisor_13 : decode cX1_commonDivisor 13 = .ok (.ifCond .eq 32, 3) := by decide +kernel
theorem dX1_commonDivisor_16 : decode cX1_commonDivisor 16 = .ok (.iload 8, 2) := by decide +kernel
theorem dX1_commonDivisor_18 : decode cX1_commonDivisor 18 = .ok (.sipush 200, 3) := by decide +kernel
theorem dX1_commonDivisor_21 : decode cX1_commonDivisor 21 = .ok (.if_icmp .ge 24, 3) := by decide +kernel
theorem dX1_commonDivisor_24 : decode cX1_commonDivisor 24 = .ok (.lload 4, 2) := by decide +kernel
theorem dX1_commonDivisor_26 : decode cX1_commonDivisor 26 = .ok (.lload 6, 2) := by decide +kernel
theorem dX1_commonDivisor_28 : decode cX1_commonDivisor 28 = .ok (.lrem, 1) := by decide +kernel
theorem dX1_commonDivisor_29 : decode cX1_commonDivisor 29 = .ok (.lstore 9, 2) := by decide +kernel
theorem dX1_commonDivisor_31 : decode cX1_commonDivisor 31 = .ok (.lload 6, 2) := by decide +kernel
theorem dX1_commonDivisor_33 : decode cX1_commonDivisor 33 = .ok (.lstore 4, 2) := by decide +kernel
theorem dX1_commonDivisor_35 : decode cX1_commonDivisor 35 = .ok (.lload 9, 2) := by decide +kernel
theorem dX1_commonDivisor_37 : decode cX1_commonDivisor 37 = .ok (.lstore 6, 2) := by decide +kernel
theorem dX1_commonDivisor_39 : decode cX1_commonDivisor 39 = .ok (.iinc 8 1, 3) := by decide +kernel
theorem dX1_commonDivisor_42 : decode cX1_commonDivisor 42 = .ok (.goto (-33), 3) := by decide +kernel
theorem dX1_commonDivisor_45 : decode cX1_commonDivisor 45 = .ok (.lload 4, 2) := by decide +kernel
theorem dX1_commonDivisor_47 : decode cX1_commonDivisor 47 = .ok (.lreturn, 1) := by decide +kernel
theorem dX2_howMany_0 : decode cX2_howMany 0 = .ok (.aload_n 0, 1) := by decide +kernel
theorem dX2_howMany_1 : decode cX2_howMany 1 = .ok (.getfield 7, 3) := by decide +kernel
theorem dX2_howMany_4 : decode cX2_howMany 4 = .ok (.invokestatic 13, 3) := by decide +kernel
theorem dX2_howMany_7 : decode cX2_howMany 7 = .ok (.istore_n 1, 1) := by decide +kernel
theorem dX2_howMany_8 : decode cX2_howMany 8 = .ok (.iconst 1, 1) := by decide +kernel
theorem dX2_howMany_9 : decode cX2_howMany 9 = .ok (.istore_n 2, 1) := by decide +kernel
theorem dX2_howMany_10 : decode cX2_howMany 10 = .ok (.iconst 1, 1) := by decide +kernel
theorem dX2_howMany_11 : decode cX2_howMany 11 = .ok (.istore_n 3, 1) := by decide +kernel
theorem dX2_howMany_12 : decode cX2_howMany 12 = .ok (.iload_n 3, 1) := by decide +kernel
theorem dX2_howMany_13 : decode cX2_howMany 13 = .ok (.iload_n 1, 1) := by decide +kernel
theorem dX2_howMany_14 : decode cX2_howMany 14 = .ok (.if_icmp .gt 22, 3) := by decide +kernel
theorem dX2_howMany_17 : decode cX2_howMany 17 = .ok (.iload_n 2, 1) := by decide +kernel
theorem dX2_howMany_18 : decode cX2_howMany 18 = .ok (.aload_n 0, 1) := by decide +kernel
theorem dX2_howMany_19 : decode cX2_howMany 19 = .ok (.getfield 19, 3) := by decide +kernel
theorem dX2_howMany_22 : decode cX2_howMany 22 = .ok (.iload_n 1, 1) := by decide +kernel
theorem dX2_howMany_23 : decode cX2_howMany 23 = .ok (.isub, 1) := by decide +kernel
theorem dX2_howMany_24 : decode cX2_howMany 24 = .ok (.iload_n 3, 1) := by decide +kernel
theorem dX2_howMany_25 : decode cX2_howMany 25 = .ok (.iadd, 1) := by decide +kernel
theorem dX2_howMany_26 : decode cX2_howMany 26 = .ok (.imul, 1) := by decide +kernel
theorem dX2_howMany_27 : decode cX2_howMany 27 = .ok (.iload_n 3, 1) := by decide +kernel
theorem dX2_howMany_28 : decode cX2_howMany 28 = .ok (.idiv, 1) := by decide +kernel
theorem dX2_howMany_29 : decode cX2_howMany 29 = .ok (.istore_n 2, 1) := by decide +kernel
theorem dX2_howMany_30 : decode cX2_howMany 30 = .ok (.iinc 3 1, 3) := by decide +kernel
theorem dX2_howMany_33 : decode cX2_howMany 33 = .ok (.goto (-21), 3) := by decide +kernel
theorem dX2_howMany_36 : decode cX2_howMany 36 = .ok (.iload_n 2, 1) := by decide +kernel
theorem dX2_howMany_37 : decode cX2_howMany 37 = .ok (.ireturn, 1) := by decide +kernel
theorem dX2_lowest_0 : decode cX2_lowest 0 = .ok (.iconst 1, 1) := by decide +kernel
theorem dX2_lowest_1 : decode cX2_lowest 1 = .ok (.aload_n 0, 1) := by decide +kernel
theorem dX2_lowest_2 : decode cX2_lowest 2 = .ok (.getfield 7, 3) := by decide +kernel
theorem dX2_lowest_5 : decode cX2_lowest 5 = .ok (.invokestatic 13, 3) := by decide +kernel
theorem dX2_lowest_8 : decode cX2_lowest 8 = .ok (.ishl, 1) := by decide +kernel
theorem dX2_lowest_9 : decode cX2_lowest 9 = .ok (.iconst 1, 1) := by decide +kernel
theorem dX2_lowest_10 : decode cX2_lowest 10 = .ok (.isub, 1) := by decide +kernel
theorem dX2_lowest_11 : decode cX2_lowest 11 = .ok (.ireturn, 1) := by decide +kernel
theorem dX2_after_0 : decode cX2_after 0 = .ok (.iload_n 0, 1) := by decide +kernel
theorem dX2_after_1 : decode cX2_after 1 = .ok (.iload_n 0, 1) := by decide +kernel
theorem dX2_after_2 : decode cX2_after 2 = .ok (.ineg, 1) := by decide +kernel
theorem dX2_after_3 : decode cX2_after 3 = .ok (.iand, 1) := by decide +kernel
theorem dX2_after_4 : decode cX2_after 4 = .ok (.istore_n 1, 1) := by decide +kernel
theorem dX2_after_5 : decode cX2_after 5 = .ok (.iload_n 1, 1) := by decide +kernel
theorem dX2_after_6 : decode cX2_after 6 = .ok (.ifCond .ne 5, 3) := by decide +kernel
theorem dX2_after_9 : decode cX2_after 9 = .ok (.iload_n 0, 1) := by decide +kernel
theorem dX2_after_10 : decode cX2_after 10 = .ok (.ireturn, 1) := by decide +kernel
theorem dX2_after_11 : decode cX2_after 11 = .ok (.iload_n 0, 1) := by decide +kernel
theorem dX2_after_12 : decode cX2_after 12 = .ok (.iload_n 1, 1) := by decide +kernel
theorem dX2_after_13 : decode cX2_after 13 = .ok (.iadd, 1) := by decide +kernel
theorem dX2_after_14 : decode cX2_after 14 = .ok (.istore_n 2, 1) := by decide +kernel
theorem dX2_after_15 : decode cX2_after 15 = .ok (.iload_n 2, 1) := by decide +kernel
theorem dX2_after_16 : decode cX2_after 16 = .ok (.iload_n 0, 1) := by decide +kernel
theorem dX2_after_17 : decode cX2_after 17 = .ok (.iload_n 2, 1) := by decide +kernel
theorem dX2_after_18 : decode cX2_after 18 = .ok (.ixor, 1) := by decide +kernel
theorem dX2_after_19 : decode cX2_after 19 = .ok (.iload_n 1, 1) := by decide +kernel
theorem dX2_after_20 : decode cX2_after 20 = .ok (.idiv, 1) := by decide +kernel
theorem dX2_after_21 : decode cX2_after 21 = .ok (.iconst 2, 1) := by decide +kernel
theorem dX2_after_22 : decode cX2_after 22 = .ok (.ishr, 1) := by decide +kernel
theorem dX2_after_23 : decode cX2_after 23 = .ok (.ior, 1) := by decide +kernel
theorem dX2_after_24 : decode cX2_after 24 = .ok (.ireturn, 1) := by decide +kernel
theorem dX2_behindHits_0 : decode cX2_behindHits 0 = .ok (.iload_n 0, 1) := by decide +kernel
theorem dX2_behindHits_1 : decode cX2_behindHits 1 = .ok (.iconst 1, 1) := by decide +kernel
theorem dX2_behindHits_2 : decode cX2_behindHits 2 = .ok (.ishr, 1) := by decide +kernel
theorem dX2_behindHits_3 : decode cX2_behindHits 3 = .ok (.istore_n 2, 1) := by decide +kernel
theorem dX2_behindHits_4 : decode cX2_behindHits 4 = .ok (.iconst 2, 1) := by decide +kernel
theorem dX2_behindHits_5 : decode cX2_behindHits 5 = .ok (.istore_n 3, 1) := by decide +kernel
theorem dX2_behindHits_6 : decode cX2_behindHits 6 = .ok (.iload_n 3, 1) := by decide +kernel
theorem dX2_behindHits_7 : decode cX2_behindHits 7 = .ok (.iload_n 1, 1) := by decide +kernel
theorem dX2_behindHits_8 : decode cX2_behindHits 8 = .ok (.if_icmp .gt 15, 3) := by decide +kernel
theorem dX2_behindHits_11 : decode cX2_behindHits 11 = .ok (.iload_n 2, 1) := by decide +kernel
theorem dX2_behindHits_12 : decode cX2_behindHits 12 = .ok (.iload_n 0, 1) := by decide +kernel
theorem dX2_behindHits_13 : decode cX2_behindHits 13 = .ok (.iload_n 3, 1) := by decide +kernel
theorem dX2_behindHits_14 : decode cX2_behindHits 14 = .ok (.ishr, 1) := by decide +kernel
theorem dX2_behindHits_15 : decode cX2_behindHits 15 = .ok (.iand, 1) := by decide +kernel
theorem dX2_behindHits_16 : decode cX2_behindHits 16 = .ok (.istore_n 2, 1) := by decide +kernel
theorem dX2_behindHits_17 : decode cX2_behindHits 17 = .ok (.iinc 3 1, 3) := by decide +kernel
theorem dX2_behindHits_20 : decode cX2_behindHits 20 = .ok (.goto (-14), 3) := by decide +kernel
theorem dX2_behindHits_23 : decode cX2_behindHits 23 = .ok (.iload_n 2, 1) := by decide +kernel
theorem dX2_behindHits_24 : decode cX2_behindHits 24 = .ok (.ireturn, 1) := by decide +kernel
theorem dX2_heat_0 : decode cX2_heat 0 = .ok (.iload_n 1, 1) := by decide +kernel
theorem dX2_heat_1 : decode cX2_heat 1 = .ok (.invokestatic 13, 3) := by decide +kernel
theorem dX2_heat_4 : decode cX2_heat 4 = .ok (.istore_n 2, 1) := by decide +kernel
theorem dX2_heat_5 : decode cX2_heat 5 = .ok (.iload_n 2, 1) := by decide +kernel
theorem dX2_heat_6 : decode cX2_heat 6 = .ok (.ifCond .ne 7, 3) := by decide +kernel
theorem dX2_heat_9 : decode cX2_heat 9 = .ok (.lconst 0, 1) := by decide +kernel
theorem dX2_heat_10 : decode cX2_heat 10 = .ok (.goto 17, 3) := by decide +kernel
theorem dX2_heat_13 : decode cX2_heat 13 = .ok (.iload_n 1, 1) := by decide +kernel
theorem dX2_heat_14 : decode cX2_heat 14 = .ok (.iload_n 0, 1) := by decide +kernel
theorem dX2_heat_15 : decode cX2_heat 15 = .ok (.iand, 1) := by decide +kernel
theorem dX2_heat_16 : decode cX2_heat 16 = .ok (.invokestatic 13, 3) := by decide +kernel
theorem dX2_heat_19 : decode cX2_heat 19 = .ok (.i2l, 1) := by decide +kernel
theorem dX2_heat_20 : decode cX2_heat 20 = .ok (.ldc2_w 24, 3) := by decide +kernel
theorem dX2_heat_23 : decode cX2_heat 23 = .ok (.iload_n 2, 1) := by decide +kernel
theorem dX2_heat_24 : decode cX2_heat 24 = .ok (.i2l, 1) := by decide +kernel
theorem dX2_heat_25 : decode cX2_heat 25 = .ok (.ldiv, 1) := by decide +kernel
theorem dX2_heat_26 : decode cX2_heat 26 = .ok (.lmul, 1) := by decide +kernel
theorem dX2_heat_27 : decode cX2_heat 27 = .ok (.lreturn, 1) := by decide +kernel
theorem dX3_measure_0 : decode cX3_measure 0 = .ok (.iload_n 0, 1) := by decide +kernel
theorem dX3_measure_1 : decode cX3_measure 1 = .ok (.tableswitch 90 0 5 #[39, 44, 50, 70, 75, 84], 39) := by decide +kernel
theorem dX3_measure_40 : decode cX3_measure 40 = .ok (.iload_n 2, 1) := by decide +kernel
theorem dX3_measure_41 : decode cX3_measure 41 = .ok (.invokestatic 9, 3) := by decide +kernel
theorem dX3_measure_44 : decode cX3_measure 44 = .ok (.ireturn, 1) := by decide +kernel
theorem dX3_measure_45 : decode cX3_measure 45 = .ok (.iload_n 1, 1) := by decide +kernel
theorem dX3_measure_46 : decode cX3_measure 46 = .ok (.iload_n 2, 1) := by decide +kernel
theorem dX3_measure_47 : decode cX3_measure 47 = .ok (.invokestatic 15, 3) := by decide +kernel
theorem dX3_measure_50 : decode cX3_measure 50 = .ok (.ireturn, 1) := by decide +kernel
theorem dX3_measure_51 : decode cX3_measure 51 = .ok (.iload_n 2, 1) := by decide +kernel
theorem dX3_measure_52 : decode cX3_measure 52 = .ok (.invokestatic 21, 3) := by decide +kernel
theorem dX3_measure_55 : decode cX3_measure 55 = .ok (.iload_n 2, 1) := by decide +kernel
theorem dX3_measure_56 : decode cX3_measure 56 = .ok (.iconst (-1), 1) := by decide +kernel
theorem dX3_measure_57 : decode cX3_measure 57 = .ok (.ixor, 1) := by decide +kernel
theorem dX3_measure_58 : decode cX3_measure 58 = .ok (.iconst 1, 1) := by decide +kernel
theorem dX3_measure_59 : decode cX3_measure 59 = .ok (.iload_n 1, 1) := by decide +kernel
theorem dX3_measure_60 : decode cX3_measure 60 = .ok (.ishl, 1) := by decide +kernel
theorem dX3_measure_61 : decode cX3_measure 61 = .ok (.iconst 1, 1) := by decide +kernel
theorem dX3_measure_62 : decode cX3_measure 62 = .ok (.isub, 1) := by decide +kernel
theorem dX3_measure_63 : decode cX3_measure 63 = .ok (.iand, 1) := by decide +kernel
theorem dX3_measure_64 : decode cX3_measure 64 = .ok (.invokestatic 21, 3) := by decide +kernel
theorem dX3_measure_67 : decode cX3_measure 67 = .ok (.invokestatic 24, 3) := by decide +kernel
theorem dX3_measure_70 : decode cX3_measure 70 = .ok (.ireturn, 1) := by decide +kernel
theorem dX3_measure_71 : decode cX3_measure 71 = .ok (.iload_n 2, 1) := by decide +kernel
theorem dX3_measure_72 : decode cX3_measure 72 = .ok (.invokestatic 21, 3) := by decide +kernel
theorem dX3_measure_75 : decode cX3_measure 75 = .ok (.ireturn, 1) := by decide +kernel
theorem dX3_measure_76 : decode cX3_measure 76 = .ok (.iload_n 2, 1) := by decide +kernel
theorem dX3_measure_77 : decode cX3_measure 77 = .ok (.iload_n 2, 1) := by decide +kernel
theorem dX3_measure_78 : decode cX3_measure 78 = .ok (.iconst 1, 1) := by decide +kernel
theorem dX3_measure_79 : decode cX3_measure 79 = .ok (.ishr, 1) := by decide +kernel
theorem dX3_measure_80 : decode cX3_measure 80 = .ok (.iand, 1) := by decide +kernel
theorem dX3_measure_81 : decode cX3_measure 81 = .ok (.invokestatic 9, 3) := by decide +kernel
theorem dX3_measure_84 : decode cX3_measure 84 = .ok (.ireturn, 1) := by decide +kernel
theorem dX3_measure_85 : decode cX3_measure 85 = .ok (.iload_n 1, 1) := by decide +kernel
theorem dX3_measure_86 : decode cX3_measure 86 = .ok (.iload_n 2, 1) := by decide +kernel
theorem dX3_measure_87 : decode cX3_measure 87 = .ok (.invokestatic 29, 3) := by decide +kernel
theorem dX3_measure_90 : decode cX3_measure 90 = .ok (.ireturn, 1) := by decide +kernel
theorem dX3_measure_91 : decode cX3_measure 91 = .ok (.iload_n 3, 1) := by decide +kernel
theorem dX3_measure_92 : decode cX3_measure 92 = .ok (.iload_n 1, 1) := by decide +kernel
theorem dX3_measure_93 : decode cX3_measure 93 = .ok (.iload_n 2, 1) := by decide +kernel
theorem dX3_measure_94 : decode cX3_measure 94 = .ok (.invokestatic 32, 3) := by decide +kernel
theorem dX3_measure_97 : decode cX3_measure 97 = .ok (.ireturn, 1) := by decide +kernel
theorem dX3_runs_0 : decode cX3_runs 0 = .ok (.iload_n 0, 1) := by decide +kernel
theorem dX3_runs_1 : decode cX3_runs 1 = .ok (.ifCond .ne 5, 3) := by decide +kernel
theorem dX3_runs_4 : decode cX3_runs 4 = .ok (.iconst 0, 1) := by decide +kernel
theorem dX3_runs_5 : decode cX3_runs 5 = .ok (.ireturn, 1) := by decide +kernel
theorem dX3_runs_6 : decode cX3_runs 6 = .ok (.iload_n 1, 1) := by decide +kernel
theorem dX3_runs_7 : decode cX3_runs 7 = .ok (.iload_n 1, 1) := by decide +kernel
theorem dX3_runs_8 : decode cX3_runs 8 = .ok (.iconst 1, 1) := by decide +kernel
theorem dX3_runs_9 : decode cX3_runs 9 = .ok (.ishr, 1) := by decide +kernel
theorem dX3_runs_10 : decode cX3_runs 10 = .ok (.ixor, 1) := by decide +kernel
theorem dX3_runs_11 : decode cX3_runs 11 = .ok (.iconst 1, 1) := by decide +kernel
theorem dX3_runs_12 : decode cX3_runs 12 = .ok (.iload_n 0, 1) := by decide +kernel
theorem dX3_runs_13 : decode cX3_runs 13 = .ok (.iconst 1, 1) := by decide +kernel
theorem dX3_runs_14 : decode cX3_runs 14 = .ok (.isub, 1) := by decide +kernel
theorem dX3_runs_15 : decode cX3_runs 15 = .ok (.ishl, 1) := by decide +kernel
theorem dX3_runs_16 : decode cX3_runs 16 = .ok (.iconst 1, 1) := by decide +kernel
theorem dX3_runs_17 : decode cX3_runs 17 = .ok (.isub, 1) := by decide +kernel
theorem dX3_runs_18 : decode cX3_runs 18 = .ok (.iand, 1) := by decide +kernel
theorem dX3_runs_19 : decode cX3_runs 19 = .ok (.istore_n 2, 1) := by decide +kernel
theorem dX3_runs_20 : decode cX3_runs 20 = .ok (.iconst 1, 1) := by decide +kernel
theorem dX3_runs_21 : decode cX3_runs 21 = .ok (.iload_n 2, 1) := by decide +kernel
theorem dX3_runs_22 : decode cX3_runs 22 = .ok (.invokestatic 9, 3) := by decide +kernel
theorem dX3_runs_25 : decode cX3_runs 25 = .ok (.iadd, 1) := by decide +kernel
theorem dX3_runs_26 : decode cX3_runs 26 = .ok (.ireturn, 1) := by decide +kernel
theorem dX3_longestRun_0 : decode cX3_longestRun 0 = .ok (.iload_n 0, 1) := by decide +kernel
theorem dX3_longestRun_1 : decode cX3_longestRun 1 = .ok (.istore_n 1, 1) := by decide +kernel
theorem dX3_longestRun_2 : decode cX3_longestRun 2 = .ok (.iconst 0, 1) := by decide +kernel
theorem dX3_longestRun_3 : decode cX3_longestRun 3 = .ok (.istore_n 2, 1) := by decide +kernel
theorem dX3_longestRun_4 : decode cX3_longestRun 4 = .ok (.iload_n 1, 1) := by decide +kernel
theorem dX3_longestRun_5 : decode cX3_longestRun 5 = .ok (.ifCond .eq 21, 3) := by decide +kernel
theorem dX3_longestRun_8 : decode cX3_longestRun 8 = .ok (.iload_n 2, 1) := by decide +kernel
theorem dX3_longestRun_9 : decode cX3_longestRun 9 = .ok (.bipush 15, 2) := by decide +kernel
theorem dX3_longestRun_11 : decode cX3_longestRun 11 = .ok (.if_icmp .ge 15, 3) := by decide +kernel
theorem dX3_longestRun_14 : decode cX3_longestRun 14 = .ok (.iload_n 1, 1) := by decide +kernel
theorem dX3_longestRun_15 : decode cX3_longestRun 15 = .ok (.iload_n 1, 1) := by decide +kernel
theorem dX3_longestRun_16 : decode cX3_longestRun 16 = .ok (.iconst 1, 1) := by decide +kernel
theorem dX3_longestRun_17 : decode cX3_longestRun 17 = .ok (.ishr, 1) := by decide +kernel
theorem dX3_longestRun_18 : decode cX3_longestRun 18 = .ok (.iand, 1) := by decide +kernel
theorem dX3_longestRun_19 : decode cX3_longestRun 19 = .ok (.istore_n 1, 1) := by decide +kernel
theorem dX3_longestRun_20 : decode cX3_longestRun 20 = .ok (.iinc 2 1, 3) := by decide +kernel
theorem dX3_longestRun_23 : decode cX3_longestRun 23 = .ok (.goto (-19), 3) := by decide +kernel
theorem dX3_longestRun_26 : decode cX3_longestRun 26 = .ok (.iload_n 2, 1) := by decide +kernel
theorem dX3_longestRun_27 : decode cX3_longestRun 27 = .ok (.ireturn, 1) := by decide +kernel
theorem dX3_firstHit_0 : decode cX3_firstHit 0 = .ok (.iconst 0, 1) := by decide +kernel
theorem dX3_firstHit_1 : decode cX3_firstHit 1 = .ok (.istore_n 2, 1) := by decide +kernel
theorem dX3_firstHit_2 : decode cX3_firstHit 2 = .ok (.iload_n 2, 1) := by decide +kernel
theorem dX3_firstHit_3 : decode cX3_firstHit 3 = .ok (.iload_n 0, 1) := by decide +kernel
theorem dX3_firstHit_4 : decode cX3_firstHit 4 = .ok (.if_icmp .ge 24, 3) := by decide +kernel
theorem dX3_firstHit_7 : decode cX3_firstHit 7 = .ok (.iload_n 1, 1) := by decide +kernel
theorem dX3_firstHit_8 : decode cX3_firstHit 8 = .ok (.iload_n 0, 1) := by decide +kernel
theorem dX3_firstHit_9 : decode cX3_firstHit 9 = .ok (.iconst 1, 1) := by decide +kernel
theorem dX3_firstHit_10 : decode cX3_firstHit 10 = .ok (.isub, 1) := by decide +kernel
theorem dX3_firstHit_11 : decode cX3_firstHit 11 = .ok (.iload_n 2, 1) := by decide +kernel
theorem dX3_firstHit_12 : decode cX3_firstHit 12 = .ok (.isub, 1) := by decide +kernel
theorem dX3_firstHit_13 : decode cX3_firstHit 13 = .ok (.ishr, 1) := by decide +kernel
theorem dX3_firstHit_14 : decode cX3_firstHit 14 = .ok (.iconst 1, 1) := by decide +kernel
theorem dX3_firstHit_15 : decode cX3_firstHit 15 = .ok (.iand, 1) := by decide +kernel
theorem dX3_firstHit_16 : decode cX3_firstHit 16 = .ok (.iconst 1, 1) := by decide +kernel
theorem dX3_firstHit_17 : decode cX3_firstHit 17 = .ok (.if_icmp .ne 5, 3) := by decide +kernel
theorem dX3_firstHit_20 : decode cX3_firstHit 20 = .ok (.iload_n 2, 1) := by decide +kernel
theorem dX3_firstHit_21 : decode cX3_firstHit 21 = .ok (.ireturn, 1) := by decide +kernel
theorem dX3_firstHit_22 : decode cX3_firstHit 22 = .ok (.iinc 2 1, 3) := by decide +kernel
theorem dX3_firstHit_25 : decode cX3_firstHit 25 = .ok (.goto (-23), 3) := by decide +kernel
theorem dX3_firstHit_28 : decode cX3_firstHit 28 = .ok (.bipush 15, 2) := by decide +kernel
theorem dX3_firstHit_30 : decode cX3_firstHit 30 = .ok (.ireturn, 1) := by decide +kernel
theorem dX4_lengthOf_0 : decode cX4_lengthOf 0 = .ok (.iconst 0, 1) := by decide +kernel
theorem dX4_lengthOf_1 : decode cX4_lengthOf 1 = .ok (.istore_n 1, 1) := by decide +kernel
theorem dX4_lengthOf_2 : decode cX4_lengthOf 2 = .ok (.iload_n 1, 1) := by decide +kernel
theorem dX4_lengthOf_3 : decode cX4_lengthOf 3 = .ok (.bipush 6, 2) := by decide +kernel
theorem dX4_lengthOf_5 : decode cX4_lengthOf 5 = .ok (.if_icmp .ge 17, 3) := by decide +kernel
theorem dX4_lengthOf_8 : decode cX4_lengthOf 8 = .ok (.iload_n 0, 1) := by decide +kernel
theorem dX4_lengthOf_9 : decode cX4_lengthOf 9 = .ok (.iload_n 1, 1) := by decide +kernel
theorem dX4_lengthOf_10 : decode cX4_lengthOf 10 = .ok (.iconst 1, 1) := by decide +kernel
theorem dX4_lengthOf_11 : decode cX4_lengthOf 11 = .ok (.iadd, 1) := by decide +kernel
theorem dX4_lengthOf_12 : decode cX4_lengthOf 12 = .ok (.ishr, 1) := by decide +kernel
theorem dX4_lengthOf_13 : decode cX4_lengthOf 13 = .ok (.ifCond .eq 9, 3) := by decide +kernel
theorem dX4_lengthOf_16 : decode cX4_lengthOf 16 = .ok (.iinc 1 1, 3) := by decide +kernel
theorem dX4_lengthOf_19 : decode cX4_lengthOf 19 = .ok (.goto (-17), 3) := by decide +kernel
theorem dX4_lengthOf_22 : decode cX4_lengthOf 22 = .ok (.iload_n 1, 1) := by decide +kernel
theorem dX4_lengthOf_23 : decode cX4_lengthOf 23 = .ok (.ireturn, 1) := by decide +kernel
theorem dX4_timesIn_0 : decode cX4_timesIn 0 = .ok (.iload_n 0, 1) := by decide +kernel
theorem dX4_timesIn_1 : decode cX4_timesIn 1 = .ok (.invokestatic 11, 3) := by decide +kernel
theorem dX4_timesIn_4 : decode cX4_timesIn 4 = .ok (.istore_n 3, 1) := by decide +kernel
theorem dX4_timesIn_5 : decode cX4_timesIn 5 = .ok (.iload_n 3, 1) := by decide +kernel
theorem dX4_timesIn_6 : decode cX4_timesIn 6 = .ok (.iload_n 1, 1) := by decide +kernel
theorem dX4_timesIn_7 : decode cX4_timesIn 7 = .ok (.if_icmp .le 5, 3) := by decide +kernel
theorem dX4_timesIn_10 : decode cX4_timesIn 10 = .ok (.iconst 0, 1) := by decide +kernel
theorem dX4_timesIn_11 : decode cX4_timesIn 11 = .ok (.ireturn, 1) := by decide +kernel
theorem dX4_timesIn_12 : decode cX4_timesIn 12 = .ok (.iconst 1, 1) := by decide +kernel
theorem dX4_timesIn_13 : decode cX4_timesIn 13 = .ok (.iload_n 1, 1) := by decide +kernel
theorem dX4_timesIn_14 : decode cX4_timesIn 14 = .ok (.iload_n 3, 1) := by decide +kernel
theorem dX4_timesIn_15 : decode cX4_timesIn 15 = .ok (.isub, 1) := by decide +kernel
theorem dX4_timesIn_16 : decode cX4_timesIn 16 = .ok (.iconst 1, 1) := by decide +kernel
theorem dX4_timesIn_17 : decode cX4_timesIn 17 = .ok (.iadd, 1) := by decide +kernel
theorem dX4_timesIn_18 : decode cX4_timesIn 18 = .ok (.ishl, 1) := by decide +kernel
theorem dX4_timesIn_19 : decode cX4_timesIn 19 = .ok (.iconst 1, 1) := by decide +kernel
theorem dX4_timesIn_20 : decode cX4_timesIn 20 = .ok (.isub, 1) := by decide +kernel
theorem dX4_timesIn_21 : decode cX4_timesIn 21 = .ok (.istore 4, 2) := by decide +kernel
theorem dX4_timesIn_23 : decode cX4_timesIn 23 = .ok (.iconst 0, 1) := by decide +kernel
theorem dX4_timesIn_24 : decode cX4_timesIn 24 = .ok (.istore 5, 2) := by decide +kernel
theorem dX4_timesIn_26 : decode cX4_timesIn 26 = .ok (.iload 5, 2) := by decide +kernel
theorem dX4_timesIn_28 : decode cX4_timesIn 28 = .ok (.iload_n 3, 1) := by decide +kernel
theorem dX4_timesIn_29 : decode cX4_timesIn 29 = .ok (.if_icmp .ge 39, 3) := by decide +kernel
theorem dX4_timesIn_32 : decode cX4_timesIn 32 = .ok (.iload_n 2, 1) := by decide +kernel
theorem dX4_timesIn_33 : decode cX4_timesIn 33 = .ok (.iload 5, 2) := by decide +kernel
theorem dX4_timesIn_35 : decode cX4_timesIn 35 = .ok (.ishr, 1) := by decide +kernel
theorem dX4_timesIn_36 : decode cX4_timesIn 36 = .ok (.istore 6, 2) := by decide +kernel
theorem dX4_timesIn_38 : decode cX4_timesIn 38 = .ok (.iload 4, 2) := by decide +kernel
theorem dX4_timesIn_40 : decode cX4_timesIn 40 = .ok (.iload_n 0, 1) := by decide +kernel
theorem dX4_timesIn_41 : decode cX4_timesIn 41 = .ok (.iload 5, 2) := by decide +kernel
theorem dX4_timesIn_43 : decode cX4_timesIn 43 = .ok (.ishr, 1) := by decide +kernel
theorem dX4_timesIn_44 : decode cX4_timesIn 44 = .ok (.iconst 1, 1) := by decide +kernel
theorem dX4_timesIn_45 : decode cX4_timesIn 45 = .ok (.iand, 1) := by decide +kernel
theorem dX4_timesIn_46 : decode cX4_timesIn 46 = .ok (.iconst 1, 1) := by decide +kernel
theorem dX4_timesIn_47 : decode cX4_timesIn 47 = .ok (.if_icmp .ne 8, 3) := by decide +kernel
theorem dX4_timesIn_50 : decode cX4_timesIn 50 = .ok (.iload 6, 2) := by decide +kernel
theorem dX4_timesIn_52 : decode cX4_timesIn 52 = .ok (.goto 7, 3) := by decide +kernel
theorem dX4_timesIn_55 : decode cX4_timesIn 55 = .ok (.iload 6, 2) := by decide +kernel
theorem dX4_timesIn_57 : decode cX4_timesIn 57 = .ok (.iconst (-1), 1) := by decide +kernel
theorem dX4_timesIn_58 : decode cX4_timesIn 58 = .ok (.ixor, 1) := by decide +kernel
theorem dX4_timesIn_59 : decode cX4_timesIn 59 = .ok (.iand, 1) := by decide +kernel
theorem dX4_timesIn_60 : decode cX4_timesIn 60 = .ok (.istore 4, 2) := by decide +kernel
theorem dX4_timesIn_62 : decode cX4_timesIn 62 = .ok (.iinc 5 1, 3) := by decide +kernel
theorem dX4_timesIn_65 : decode cX4_timesIn 65 = .ok (.goto (-39), 3) := by decide +kernel
theorem dX4_timesIn_68 : decode cX4_timesIn 68 = .ok (.iload 4, 2) := by decide +kernel
theorem dX4_timesIn_70 : decode cX4_timesIn 70 = .ok (.invokestatic 15, 3) := by decide +kernel
theorem dX4_timesIn_73 : decode cX4_timesIn 73 = .ok (.ireturn, 1) := by decide +kernel
theorem dX4_standsIn_0 : decode cX4_standsIn 0 = .ok (.iload_n 1, 1) := by decide +kernel
theorem dX4_standsIn_1 : decode cX4_standsIn 1 = .ok (.invokestatic 11, 3) := by decide +kernel
theorem dX4_standsIn_4 : decode cX4_standsIn 4 = .ok (.istore_n 2, 1) := by decide +kernel
theorem dX4_standsIn_5 : decode cX4_standsIn 5 = .ok (.iload_n 0, 1) := by decide +kernel
theorem dX4_standsIn_6 : decode cX4_standsIn 6 = .ok (.iload_n 2, 1) := by decide +kernel
theorem dX4_standsIn_7 : decode cX4_standsIn 7 = .ok (.iload_n 1, 1) := by decide +kernel
theorem dX4_standsIn_8 : decode cX4_standsIn 8 = .ok (.iconst 1, 1) := by decide +kernel
theorem dX4_standsIn_9 : decode cX4_standsIn 9 = .ok (.iload_n 2, 1) := by decide +kernel
theorem dX4_standsIn_10 : decode cX4_standsIn 10 = .ok (.ishl, 1) := by decide +kernel
theorem dX4_standsIn_11 : decode cX4_standsIn 11 = .ok (.iconst 1, 1) := by decide +kernel
theorem dX4_standsIn_12 : decode cX4_standsIn 12 = .ok (.isub, 1) := by decide +kernel
theorem dX4_standsIn_13 : decode cX4_standsIn 13 = .ok (.iand, 1) := by decide +kernel
theorem dX4_standsIn_14 : decode cX4_standsIn 14 = .ok (.invokestatic 20, 3) := by decide +kernel
theorem dX4_standsIn_17 : decode cX4_standsIn 17 = .ok (.ifCond .le 7, 3) := by decide +kernel
theorem dX4_standsIn_20 : decode cX4_standsIn 20 = .ok (.iconst 1, 1) := by decide +kernel
theorem dX4_standsIn_21 : decode cX4_standsIn 21 = .ok (.goto 4, 3) := by decide +kernel
theorem dX4_standsIn_24 : decode cX4_standsIn 24 = .ok (.iconst 0, 1) := by decide +kernel
theorem dX4_standsIn_25 : decode cX4_standsIn 25 = .ok (.ireturn, 1) := by decide +kernel
theorem dX4_lead_0 : decode cX4_lead 0 = .ok (.iload_n 0, 1) := by decide +kernel
theorem dX4_lead_1 : decode cX4_lead 1 = .ok (.invokestatic 11, 3) := by decide +kernel
theorem dX4_lead_4 : decode cX4_lead 4 = .ok (.istore_n 3, 1) := by decide +kernel
theorem dX4_lead_5 : decode cX4_lead 5 = .ok (.iload_n 1, 1) := by decide +kernel
theorem dX4_lead_6 : decode cX4_lead 6 = .ok (.invokestatic 11, 3) := by decide +kernel
theorem dX4_lead_9 : decode cX4_lead 9 = .ok (.istore 4, 2) := by decide +kernel
theorem dX4_lead_11 : decode cX4_lead 11 = .ok (.lconst 0, 1) := by decide +kernel
theorem dX4_lead_12 : decode cX4_lead 12 = .ok (.lstore 5, 2) := by decide +kernel
theorem dX4_lead_14 : decode cX4_lead 14 = .ok (.iconst 1, 1) := by decide +kernel
theorem dX4_lead_15 : decode cX4_lead 15 = .ok (.istore 7, 2) := by decide +kernel
theorem dX4_lead_17 : decode cX4_lead 17 = .ok (.iload 7, 2) := by decide +kernel
theorem dX4_lead_19 : decode cX4_lead 19 = .ok (.iload_n 3, 1) := by decide +kernel
theorem dX4_lead_20 : decode cX4_lead 20 = .ok (.if_icmp .gt 95, 3) := by decide +kernel
theorem dX4_lead_23 : decode cX4_lead 23 = .ok (.iload 7, 2) := by decide +kernel
theorem dX4_lead_25 : decode cX4_lead 25 = .ok (.iload 4, 2) := by decide +kernel
theorem dX4_lead_27 : decode cX4_lead 27 = .ok (.if_icmp .gt 88, 3) := by decide +kernel
theorem dX4_lead_30 : decode cX4_lead 30 = .ok (.iconst 1, 1) := by decide +kernel
theorem dX4_lead_31 : decode cX4_lead 31 = .ok (.iload 7, 2) := by decide +kernel
theorem dX4_lead_33 : decode cX4_lead 33 = .ok (.ishl, 1) := by decide +kernel
theorem dX4_lead_34 : decode cX4_lead 34 = .ok (.iload_n 0, 1) := by decide +kernel
theorem dX4_lead_35 : decode cX4_lead 35 = .ok (.iconst 1, 1) := by decide +kernel
theorem dX4_lead_36 : decode cX4_lead 36 = .ok (.iload 7, 2) := by decide +kernel
theorem dX4_lead_38 : decode cX4_lead 38 = .ok (.ishl, 1) := by decide +kernel
theorem dX4_lead_39 : decode cX4_lead 39 = .ok (.iconst 1, 1) := by decide +kernel
theorem dX4_lead_40 : decode cX4_lead 40 = .ok (.isub, 1) := by decide +kernel
theorem dX4_lead_41 : decode cX4_lead 41 = .ok (.iand, 1) := by decide +kernel
theorem dX4_lead_42 : decode cX4_lead 42 = .ok (.ior, 1) := by decide +kernel
theorem dX4_lead_43 : decode cX4_lead 43 = .ok (.istore 8, 2) := by decide +kernel
theorem dX4_lead_45 : decode cX4_lead 45 = .ok (.iload_n 1, 1) := by decide +kernel
theorem dX4_lead_46 : decode cX4_lead 46 = .ok (.iload 4, 2) := by decide +kernel
theorem dX4_lead_48 : decode cX4_lead 48 = .ok (.iload 7, 2) := by decide +kernel
theorem dX4_lead_50 : decode cX4_lead 50 = .ok (.isub, 1) := by decide +kernel
theorem dX4_lead_51 : decode cX4_lead 51 = .ok (.ishr, 1) := by decide +kernel
theorem dX4_lead_52 : decode cX4_lead 52 = .ok (.istore 9, 2) := by decide +kernel
theorem dX4_lead_54 : decode cX4_lead 54 = .ok (.iload 8, 2) := by decide +kernel
theorem dX4_lead_56 : decode cX4_lead 56 = .ok (.iload 9, 2) := by decide +kernel
theorem dX4_lead_58 : decode cX4_lead 58 = .ok (.if_icmp .ne 51, 3) := by decide +kernel
theorem dX4_lead_61 : decode cX4_lead 61 = .ok (.iload 9, 2) := by decide +kernel
theorem dX4_lead_63 : decode cX4_lead 63 = .ok (.invokestatic 15, 3) := by decide +kernel
theorem dX4_lead_66 : decode cX4_lead 66 = .ok (.iconst 1, 1) := by decide +kernel
theorem dX4_lead_67 : decode cX4_lead 67 = .ok (.isub, 1) := by decide +kernel
theorem dX4_lead_68 : decode cX4_lead 68 = .ok (.istore 10, 2) := by decide +kernel
theorem dX4_lead_70 : decode cX4_lead 70 = .ok (.iload 7, 2) := by decide +kernel
theorem dX4_lead_72 : decode cX4_lead 72 = .ok (.iload 10, 2) := by decide +kernel
theorem dX4_lead_74 : decode cX4_lead 74 = .ok (.isub, 1) := by decide +kernel
theorem dX4_lead_75 : decode cX4_lead 75 = .ok (.istore 11, 2) := by decide +kernel
theorem dX4_lead_77 : decode cX4_lead 77 = .ok (.iload_n 2, 1) := by decide +kernel
theorem dX4_lead_78 : decode cX4_lead 78 = .ok (.bipush 6, 2) := by decide +kernel
theorem dX4_lead_80 : decode cX4_lead 80 = .ok (.iload 10, 2) := by decide +kernel
theorem dX4_lead_82 : decode cX4_lead 82 = .ok (.isub, 1) := by decide +kernel
theorem dX4_lead_83 : decode cX4_lead 83 = .ok (.bipush 6, 2) := by decide +kernel
theorem dX4_lead_85 : decode cX4_lead 85 = .ok (.iload 11, 2) := by decide +kernel
theorem dX4_lead_87 : decode cX4_lead 87 = .ok (.isub, 1) := by decide +kernel
theorem dX4_lead_88 : decode cX4_lead 88 = .ok (.invokestatic 24, 3) := by decide +kernel
theorem dX4_lead_91 : decode cX4_lead 91 = .ok (.lstore 12, 2) := by decide +kernel
theorem dX4_lead_93 : decode cX4_lead 93 = .ok (.lload 5, 2) := by decide +kernel
theorem dX4_lead_95 : decode cX4_lead 95 = .ok (.ldc2_w 28, 3) := by decide +kernel
theorem dX4_lead_98 : decode cX4_lead 98 = .ok (.iload 7, 2) := by decide +kernel
theorem dX4_lead_100 : decode cX4_lead 100 = .ok (.invokestatic 30, 3) := by decide +kernel
theorem dX4_lead_103 : decode cX4_lead 103 = .ok (.lload 12, 2) := by decide +kernel
theorem dX4_lead_105 : decode cX4_lead 105 = .ok (.lmul, 1) := by decide +kernel
theorem dX4_lead_106 : decode cX4_lead 106 = .ok (.ladd, 1) := by decide +kernel
theorem dX4_lead_107 : decode cX4_lead 107 = .ok (.lstore 5, 2) := by decide +kernel
theorem dX4_lead_109 : decode cX4_lead 109 = .ok (.iinc 7 1, 3) := by decide +kernel
theorem dX4_lead_112 : decode cX4_lead 112 = .ok (.goto (-95), 3) := by decide +kernel
theorem dX4_lead_115 : decode cX4_lead 115 = .ok (.lload 5, 2) := by decide +kernel
theorem dX4_lead_117 : decode cX4_lead 117 = .ok (.lreturn, 1) := by decide +kernel
theorem dX4_leadUnit_0 : decode cX4_leadUnit 0 = .ok (.iload_n 0, 1) := by decide +kernel
theorem dX4_leadUnit_1 : decode cX4_leadUnit 1 = .ok (.bipush 6, 2) := by decide +kernel
theorem dX4_leadUnit_3 : decode cX4_leadUnit 3 = .ok (.bipush 6, 2) := by decide +kernel
theorem dX4_leadUnit_5 : decode cX4_leadUnit 5 = .ok (.invokestatic 24, 3) := by decide +kernel
theorem dX4_leadUnit_8 : decode cX4_leadUnit 8 = .ok (.lreturn, 1) := by decide +kernel
theorem dX4_chanceParts_0 : decode cX4_chanceParts 0 = .ok (.iload_n 0, 1) := by decide +kernel
theorem dX4_chanceParts_1 : decode cX4_chanceParts 1 = .ok (.i2l, 1) := by decide +kernel
theorem dX4_chanceParts_2 : decode cX4_chanceParts 2 = .ok (.iload_n 1, 1) := by decide +kernel
theorem dX4_chanceParts_3 : decode cX4_chanceParts 3 = .ok (.invokestatic 30, 3) := by decide +kernel
theorem dX4_chanceParts_6 : decode cX4_chanceParts 6 = .ok (.bipush 16, 2) := by decide +kernel
theorem dX4_chanceParts_8 : decode cX4_chanceParts 8 = .ok (.iload_n 0, 1) := by decide +kernel
theorem dX4_chanceParts_9 : decode cX4_chanceParts 9 = .ok (.isub, 1) := by decide +kernel
theorem dX4_chanceParts_10 : decode cX4_chanceParts 10 = .ok (.i2l, 1) := by decide +kernel
theorem dX4_chanceParts_11 : decode cX4_chanceParts 11 = .ok (.iload_n 2, 1) := by decide +kernel
theorem dX4_chanceParts_12 : decode cX4_chanceParts 12 = .ok (.invokestatic 30, 3) := by decide +kernel
theorem dX4_chanceParts_15 : decode cX4_chanceParts 15 = .ok (.lmul, 1) := by decide +kernel
theorem dX4_chanceParts_16 : decode cX4_chanceParts 16 = .ok (.lreturn, 1) := by decide +kernel
theorem dX5_init_0 : decode cX5_init 0 = .ok (.aload_n 0, 1) := by decide +kernel
theorem dX5_init_1 : decode cX5_init 1 = .ok (.invokespecial 3, 3) := by decide +kernel
theorem dX5_init_4 : decode cX5_init 4 = .ok (.return_, 1) := by decide +kernel
theorem dX5_maySee_0 : decode cX5_maySee 0 = .ok (.iload_n 0, 1) := by decide +kernel
theorem dX5_maySee_1 : decode cX5_maySee 1 = .ok (.iconst 1, 1) := by decide +kernel
theorem dX5_maySee_2 : decode cX5_maySee 2 = .ok (.if_icmp .eq 12, 3) := by decide +kernel
theorem dX5_maySee_5 : decode cX5_maySee 5 = .ok (.iload_n 0, 1) := by decide +kernel
theorem dX5_maySee_6 : decode cX5_maySee 6 = .ok (.ifCond .eq 8, 3) := by decide +kernel
theorem dX5_maySee_9 : decode cX5_maySee 9 = .ok (.iload_n 0, 1) := by decide +kernel
theorem dX5_maySee_10 : decode cX5_maySee 10 = .ok (.iconst (-1), 1) := by decide +kernel
theorem dX5_maySee_11 : decode cX5_maySee 11 = .ok (.if_icmp .ne 7, 3) := by decide +kernel
theorem dX5_maySee_14 : decode cX5_maySee 14 = .ok (.iconst 1, 1) := by decide +kernel
theorem dX5_maySee_15 : decode cX5_maySee 15 = .ok (.goto 4, 3) := by decide +kernel
theorem dX5_maySee_18 : decode cX5_maySee 18 = .ok (.iconst 0, 1) := by decide +kernel
theorem dX5_maySee_19 : decode cX5_maySee 19 = .ok (.ireturn, 1) := by decide +kernel
theorem dX5_isFull_0 : decode cX5_isFull 0 = .ok (.aload_n 0, 1) := by decide +kernel
theorem dX5_isFull_1 : decode cX5_isFull 1 = .ok (.getfield 9, 3) := by decide +kernel
theorem dX5_isFull_4 : decode cX5_isFull 4 = .ok (.bipush 15, 2) := by decide +kernel
theorem dX5_isFull_6 : decode cX5_isFull 6 = .ok (.if_icmp .lt 7, 3) := by decide +kernel
theorem dX5_isFull_9 : decode cX5_isFull 9 = .ok (.iconst 1, 1) := by decide +kernel
theorem dX5_isFull_10 : decode cX5_isFull 10 = .ok (.goto 4, 3) := by decide +kernel
theorem dX5_isFull_13 : decode cX5_isFull 13 = .ok (.iconst 0, 1) := by decide +kernel
theorem dX5_isFull_14 : decode cX5_isFull 14 = .ok (.ireturn, 1) := by decide +kernel
theorem dX5_isWhole_0 : decode cX5_isWhole 0 = .ok (.aload_n 0, 1) := by decide +kernel
theorem dX5_isWhole_1 : decode cX5_isWhole 1 = .ok (.getfield 15, 3) := by decide +kernel
theorem dX5_isWhole_4 : decode cX5_isWhole 4 = .ok (.ifCond .ne 7, 3) := by decide +kernel
theorem dX5_isWhole_7 : decode cX5_isWhole 7 = .ok (.iconst 1, 1) := by decide +kernel
theorem dX5_isWhole_8 : decode cX5_isWhole 8 = .ok (.goto 4, 3) := by decide +kernel
theorem dX5_isWhole_11 : decode cX5_isWhole 11 = .ok (.iconst 0, 1) := by decide +kernel
theorem dX5_isWhole_12 : decode cX5_isWhole 12 = .ok (.ireturn, 1) := by decide +kernel
theorem dX5_empty_0 : decode cX5_empty 0 = .ok (.aload_n 0, 1) := by decide +kernel
theorem dX5_empty_1 : decode cX5_empty 1 = .ok (.iconst 0, 1) := by decide +kernel
theorem dX5_empty_2 : decode cX5_empty 2 = .ok (.putfield 9, 3) := by decide +kernel
theorem dX5_empty_5 : decode cX5_empty 5 = .ok (.aload_n 0, 1) := by decide +kernel
theorem dX5_empty_6 : decode cX5_empty 6 = .ok (.iconst 0, 1) := by decide +kernel
theorem dX5_empty_7 : decode cX5_empty 7 = .ok (.putfield 18, 3) := by decide +kernel
theorem dX5_empty_10 : decode cX5_empty 10 = .ok (.aload_n 0, 1) := by decide +kernel
theorem dX5_empty_11 : decode cX5_empty 11 = .ok (.iconst 0, 1) := by decide +kernel
theorem dX5_empty_12 : decode cX5_empty 12 = .ok (.putfield 15, 3) := by decide +kernel
theorem dX5_empty_15 : decode cX5_empty 15 = .ok (.return_, 1) := by decide +kernel
theorem dX5_append_0 : decode cX5_append 0 = .ok (.aload_n 0, 1) := by decide +kernel
theorem dX5_append_1 : decode cX5_append 1 = .ok (.aload_n 0, 1) := by decide +kernel
theorem dX5_append_2 : decode cX5_append 2 = .ok (.getfield 18, 3) := by decide +kernel
theorem dX5_append_5 : decode cX5_append 5 = .ok (.iconst 1, 1) := by decide +kernel
theorem dX5_append_6 : decode cX5_append 6 = .ok (.ishl, 1) := by decide +kernel
theorem dX5_append_7 : decode cX5_append 7 = .ok (.iload_n 1, 1) := by decide +kernel
theorem dX5_append_8 : decode cX5_append 8 = .ok (.iconst 1, 1) := by decide +kernel
theorem dX5_append_9 : decode cX5_append 9 = .ok (.if_icmp .ne 7, 3) := by decide +kernel
theorem dX5_append_12 : decode cX5_append 12 = .ok (.iconst 1, 1) := by decide +kernel
theorem dX5_append_13 : decode cX5_append 13 = .ok (.goto 4, 3) := by decide +kernel
theorem dX5_append_16 : decode cX5_append 16 = .ok (.iconst 0, 1) := by decide +kernel
theorem dX5_append_17 : decode cX5_append 17 = .ok (.ior, 1) := by decide +kernel
theorem dX5_append_18 : decode cX5_append 18 = .ok (.putfield 18, 3) := by decide +kernel
theorem dX5_append_21 : decode cX5_append 21 = .ok (.aload_n 0, 1) := by decide +kernel
theorem dX5_append_22 : decode cX5_append 22 = .ok (.aload_n 0, 1) := by decide +kernel
theorem dX5_append_23 : decode cX5_append 23 = .ok (.getfield 15, 3) := by decide +kernel
theorem dX5_append_26 : decode cX5_append 26 = .ok (.iconst 1, 1) := by decide +kernel
theorem dX5_append_27 : decode cX5_append 27 = .ok (.ishl, 1) := by decide +kernel
theorem dX5_append_28 : decode cX5_append 28 = .ok (.iload_n 1, 1) := by decide +kernel
theorem dX5_append_29 : decode cX5_append 29 = .ok (.iconst (-1), 1) := by decide +kernel
theorem dX5_append_30 : decode cX5_append 30 = .ok (.if_icmp .ne 7, 3) := by decide +kernel
theorem dX5_append_33 : decode cX5_append 33 = .ok (.iconst 1, 1) := by decide +kernel
theorem dX5_append_34 : decode cX5_append 34 = .ok (.goto 4, 3) := by decide +kernel
theorem dX5_append_37 : decode cX5_append 37 = .ok (.iconst 0, 1) := by decide +kernel
theorem dX5_append_38 : decode cX5_append 38 = .ok (.ior, 1) := by decide +kernel
theorem dX5_append_39 : decode cX5_append 39 = .ok (.putfield 15, 3) := by decide +kernel
theorem dX5_append_42 : decode cX5_append 42 = .ok (.aload_n 0, 1) := by decide +kernel
theorem dX5_append_43 : decode cX5_append 43 = .ok (.dup, 1) := by decide +kernel
theorem dX5_append_44 : decode cX5_append 44 = .ok (.getfield 9, 3) := by decide +kernel
theorem dX5_append_47 : decode cX5_append 47 = .ok (.iconst 1, 1) := by decide +kernel
theorem dX5_append_48 : decode cX5_append 48 = .ok (.iadd, 1) := by decide +kernel
theorem dX5_append_49 : decode cX5_append 49 = .ok (.putfield 9, 3) := by decide +kernel
theorem dX5_append_52 : decode cX5_append 52 = .ok (.return_, 1) := by decide +kernel
theorem dX5_signAt_0 : decode cX5_signAt 0 = .ok (.aload_n 0, 1) := by decide +kernel
theorem dX5_signAt_1 : decode cX5_signAt 1 = .ok (.getfield 9, 3) := by decide +kernel
theorem dX5_signAt_4 : decode cX5_signAt 4 = .ok (.iconst 1, 1) := by decide +kernel
theorem dX5_signAt_5 : decode cX5_signAt 5 = .ok (.isub, 1) := by decide +kernel
theorem dX5_signAt_6 : decode cX5_signAt 6 = .ok (.iload_n 1, 1) := by decide +kernel
theorem dX5_signAt_7 : decode cX5_signAt 7 = .ok (.isub, 1) := by decide +kernel
theorem dX5_signAt_8 : decode cX5_signAt 8 = .ok (.istore_n 2, 1) := by decide +kernel
theorem dX5_signAt_9 : decode cX5_signAt 9 = .ok (.aload_n 0, 1) := by decide +kernel
theorem dX5_signAt_10 : decode cX5_signAt 10 = .ok (.getfield 15, 3) := by decide +kernel
theorem dX5_signAt_13 : decode cX5_signAt 13 = .ok (.iload_n 2, 1) := by decide +kernel
theorem dX5_signAt_14 : decode cX5_signAt 14 = .ok (.ishr, 1) := by decide +kernel
theorem dX5_signAt_15 : decode cX5_signAt 15 = .ok (.iconst 1, 1) := by decide +kernel
theorem dX5_signAt_16 : decode cX5_signAt 16 = .ok (.iand, 1) := by decide +kernel
theorem dX5_signAt_17 : decode cX5_signAt 17 = .ok (.iconst 1, 1) := by decide +kernel
theorem dX5_signAt_18 : decode cX5_signAt 18 = .ok (.if_icmp .ne 5, 3) := by decide +kernel
theorem dX5_signAt_21 : decode cX5_signAt 21 = .ok (.iconst (-1), 1) := by decide +kernel
theorem dX5_signAt_22 : decode cX5_signAt 22 = .ok (.ireturn, 1) := by decide +kernel
theorem dX5_signAt_23 : decode cX5_signAt 23 = .ok (.aload_n 0, 1) := by decide +kernel
theorem dX5_signAt_24 : decode cX5_signAt 24 = .ok (.getfield 18, 3) := by decide +kernel
theorem dX5_signAt_27 : decode cX5_signAt 27 = .ok (.iload_n 2, 1) := by decide +kernel
theorem dX5_signAt_28 : decode cX5_signAt 28 = .ok (.ishr, 1) := by decide +kernel
theorem dX5_signAt_29 : decode cX5_signAt 29 = .ok (.iconst 1, 1) := by decide +kernel
theorem dX5_signAt_30 : decode cX5_signAt 30 = .ok (.iand, 1) := by decide +kernel
theorem dX5_signAt_31 : decode cX5_signAt 31 = .ok (.ireturn, 1) := by decide +kernel
theorem dX5_isBehindItsEnd_0 : decode cX5_isBehindItsEnd 0 = .ok (.aload_n 0, 1) := by decide +kernel
theorem dX5_isBehindItsEnd_1 : decode cX5_isBehindItsEnd 1 = .ok (.getfield 9, 3) := by decide +kernel
theorem dX5_isBehindItsEnd_4 : decode cX5_isBehindItsEnd 4 = .ok (.iconst 1, 1) := by decide +kernel
theorem dX5_isBehindItsEnd_5 : decode cX5_isBehindItsEnd 5 = .ok (.isub, 1) := by decide +kernel
theorem dX5_isBehindItsEnd_6 : decode cX5_isBehindItsEnd 6 = .ok (.iload_n 1, 1) := by decide +kernel
theorem dX5_isBehindItsEnd_7 : decode cX5_isBehindItsEnd 7 = .ok (.isub, 1) := by decide +kernel
theorem dX5_isBehindItsEnd_8 : decode cX5_isBehindItsEnd 8 = .ok (.istore_n 3, 1) := by decide +kernel
theorem dX5_isBehindItsEnd_9 : decode cX5_isBehindItsEnd 9 = .ok (.iconst 1, 1) := by decide +kernel
theorem dX5_isBehindItsEnd_10 : decode cX5_isBehindItsEnd 10 = .ok (.iload_n 2, 1) := by decide +kernel
theorem dX5_isBehindItsEnd_11 : decode cX5_isBehindItsEnd 11 = .ok (.ishl, 1) := by decide +kernel
theorem dX5_isBehindItsEnd_12 : decode cX5_isBehindItsEnd 12 = .ok (.iconst 1, 1) := by decide +kernel
theorem dX5_isBehindItsEnd_13 : decode cX5_isBehindItsEnd 13 = .ok (.isub, 1) := by decide +kernel
theorem dX5_isBehindItsEnd_14 : decode cX5_isBehindItsEnd 14 = .ok (.istore 4, 2) := by decide +kernel
theorem dX5_isBehindItsEnd_16 : decode cX5_isBehindItsEnd 16 = .ok (.aload_n 0, 1) := by decide +kernel
theorem dX5_isBehindItsEnd_17 : decode cX5_isBehindItsEnd 17 = .ok (.getfield 15, 3) := by decide +kernel
theorem dX5_isBehindItsEnd_20 : decode cX5_isBehindItsEnd 20 = .ok (.iload_n 3, 1) := by decide +kernel
theorem dX5_isBehindItsEnd_21 : decode cX5_isBehindItsEnd 21 = .ok (.ishr, 1) := by decide +kernel
theorem dX5_isBehindItsEnd_22 : decode cX5_isBehindItsEnd 22 = .ok (.iconst 1, 1) := by decide +kernel
theorem dX5_isBehindItsEnd_23 : decode cX5_isBehindItsEnd 23 = .ok (.iload_n 2, 1) := by decide +kernel
theorem dX5_isBehindItsEnd_24 : decode cX5_isBehindItsEnd 24 = .ok (.iconst 1, 1) := by decide +kernel
theorem dX5_isBehindItsEnd_25 : decode cX5_isBehindItsEnd 25 = .ok (.iadd, 1) := by decide +kernel
theorem dX5_isBehindItsEnd_26 : decode cX5_isBehindItsEnd 26 = .ok (.ishl, 1) := by decide +kernel
theorem dX5_isBehindItsEnd_27 : decode cX5_isBehindItsEnd 27 = .ok (.iconst 1, 1) := by decide +kernel
theorem dX5_isBehindItsEnd_28 : decode cX5_isBehindItsEnd 28 = .ok (.isub, 1) := by decide +kernel
theorem dX5_isBehindItsEnd_29 : decode cX5_isBehindItsEnd 29 = .ok (.iand, 1) := by decide +kernel
theorem dX5_isBehindItsEnd_30 : decode cX5_isBehindItsEnd 30 = .ok (.ifCond .ne 7, 3) := by decide +kernel
theorem dX5_isBehindItsEnd_33 : decode cX5_isBehindItsEnd 33 = .ok (.iconst 1, 1) := by decide +kernel
theorem dX5_isBehindItsEnd_34 : decode cX5_isBehindItsEnd 34 = .ok (.goto 4, 3) := by decide +kernel
theorem dX5_isBehindItsEnd_37 : decode cX5_isBehindItsEnd 37 = .ok (.iconst 0, 1) := by decide +kernel
theorem dX5_isBehindItsEnd_38 : decode cX5_isBehindItsEnd 38 = .ok (.istore 5, 2) := by decide +kernel
theorem dX5_isBehindItsEnd_40 : decode cX5_isBehindItsEnd 40 = .ok (.iload 5, 2) := by decide +kernel
theorem dX5_isBehindItsEnd_42 : decode cX5_isBehindItsEnd 42 = .ok (.ifCond .eq 28, 3) := by decide +kernel
theorem dX5_isBehindItsEnd_45 : decode cX5_isBehindItsEnd 45 = .ok (.aload_n 0, 1) := by decide +kernel
theorem dX5_isBehindItsEnd_46 : decode cX5_isBehindItsEnd 46 = .ok (.getfield 18, 3) := by decide +kernel
theorem dX5_isBehindItsEnd_49 : decode cX5_isBehindItsEnd 49 = .ok (.iload_n 3, 1) := by decide +kernel
theorem dX5_isBehindItsEnd_50 : decode cX5_isBehindItsEnd 50 = .ok (.iconst 1, 1) := by decide +kernel
theorem dX5_isBehindItsEnd_51 : decode cX5_isBehindItsEnd 51 = .ok (.iadd, 1) := by decide +kernel
theorem dX5_isBehindItsEnd_52 : decode cX5_isBehindItsEnd 52 = .ok (.ishr, 1) := by decide +kernel
theorem dX5_isBehindItsEnd_53 : decode cX5_isBehindItsEnd 53 = .ok (.iload 4, 2) := by decide +kernel
theorem dX5_isBehindItsEnd_55 : decode cX5_isBehindItsEnd 55 = .ok (.iand, 1) := by decide +kernel
theorem dX5_isBehindItsEnd_56 : decode cX5_isBehindItsEnd 56 = .ok (.aload_n 0, 1) := by decide +kernel
theorem dX5_isBehindItsEnd_57 : decode cX5_isBehindItsEnd 57 = .ok (.getfield 18, 3) := by decide +kernel
theorem dX5_isBehindItsEnd_60 : decode cX5_isBehindItsEnd 60 = .ok (.iload 4, 2) := by decide +kernel
theorem dX5_isBehindItsEnd_62 : decode cX5_isBehindItsEnd 62 = .ok (.iand, 1) := by decide +kernel
theorem dX5_isBehindItsEnd_63 : decode cX5_isBehindItsEnd 63 = .ok (.if_icmp .ne 7, 3) := by decide +kernel
theorem dX5_isBehindItsEnd_66 : decode cX5_isBehindItsEnd 66 = .ok (.iconst 1, 1) := by decide +kernel
theorem dX5_isBehindItsEnd_67 : decode cX5_isBehindItsEnd 67 = .ok (.goto 4, 3) := by decide +kernel
theorem dX5_isBehindItsEnd_70 : decode cX5_isBehindItsEnd 70 = .ok (.iconst 0, 1) := by decide +kernel
theorem dX5_isBehindItsEnd_71 : decode cX5_isBehindItsEnd 71 = .ok (.ireturn, 1) := by decide +kernel
theorem dX6_init_0 : decode cX6_init 0 = .ok (.aload_n 0, 1) := by decide +kernel
theorem dX6_init_1 : decode cX6_init 1 = .ok (.invokespecial 3, 3) := by decide +kernel
theorem dX6_init_4 : decode cX6_init 4 = .ok (.aload_n 0, 1) := by decide +kernel
theorem dX6_init_5 : decode cX6_init 5 = .ok (.bipush 16, 2) := by decide +kernel
theorem dX6_init_7 : decode cX6_init 7 = .ok (.newarray .int, 2) := by decide +kernel
theorem dX6_init_9 : decode cX6_init 9 = .ok (.putfield 11, 3) := by decide +kernel
theorem dX6_init_12 : decode cX6_init 12 = .ok (.aload_n 0, 1) := by decide +kernel
theorem dX6_init_13 : decode cX6_init 13 = .ok (.bipush 16, 2) := by decide +kernel
theorem dX6_init_15 : decode cX6_init 15 = .ok (.newarray .int, 2) := by decide +kernel
theorem dX6_init_17 : decode cX6_init 17 = .ok (.putfield 15, 3) := by decide +kernel
theorem dX6_init_20 : decode cX6_init 20 = .ok (.aload_n 0, 1) := by decide +kernel
theorem dX6_init_21 : decode cX6_init 21 = .ok (.bipush 16, 2) := by decide +kernel
theorem dX6_init_23 : decode cX6_init 23 = .ok (.newarray .int, 2) := by decide +kernel
theorem dX6_init_25 : decode cX6_init 25 = .ok (.putfield 18, 3) := by decide +kernel
theorem dX6_init_28 : decode cX6_init 28 = .ok (.aload_n 0, 1) := by decide +kernel
theorem dX6_init_29 : decode cX6_init 29 = .ok (.bipush 16, 2) := by decide +kernel
theorem dX6_init_31 : decode cX6_init 31 = .ok (.newarray .boolean, 2) := by decide +kernel
theorem dX6_init_33 : decode cX6_init 33 = .ok (.putfield 21, 3) := by decide +kernel
theorem dX6_init_36 : decode cX6_init 36 = .ok (.aload_n 0, 1) := by decide +kernel
theorem dX6_init_37 : decode cX6_init 37 = .ok (.bipush 7, 2) := by decide +kernel
theorem dX6_init_39 : decode cX6_init 39 = .ok (.newarray .int, 2) := by decide +kernel
theorem dX6_init_41 : decode cX6_init 41 = .ok (.putfield 25, 3) := by decide +kernel
theorem dX6_init_44 : decode cX6_init 44 = .ok (.aload_n 0, 1) := by decide +kernel
theorem dX6_init_45 : decode cX6_init 45 = .ok (.iconst (-1), 1) := by decide +kernel
theorem dX6_init_46 : decode cX6_init 46 = .ok (.putfield 28, 3) := by decide +kernel
theorem dX6_init_49 : decode cX6_init 49 = .ok (.return_, 1) := by decide +kernel
theorem dX6_empty_0 : decode cX6_empty 0 = .ok (.aload_n 0, 1) := by decide +kernel
theorem dX6_empty_1 : decode cX6_empty 1 = .ok (.iconst 0, 1) := by decide +kernel
theorem dX6_empty_2 : decode cX6_empty 2 = .ok (.putfield 32, 3) := by decide +kernel
theorem dX6_empty_5 : decode cX6_empty 5 = .ok (.aload_n 0, 1) := by decide +kernel
theorem dX6_empty_6 : decode cX6_empty 6 = .ok (.iconst 0, 1) := by decide +kernel
theorem dX6_empty_7 : decode cX6_empty 7 = .ok (.putfield 35, 3) := by decide +kernel
theorem dX6_empty_10 : decode cX6_empty 10 = .ok (.aload_n 0, 1) := by decide +kernel
theorem dX6_empty_11 : decode cX6_empty 11 = .ok (.iconst 0, 1) := by decide +kernel
theorem dX6_empty_12 : decode cX6_empty 12 = .ok (.putfield 38, 3) := by decide +kernel
theorem dX6_empty_15 : decode cX6_empty 15 = .ok (.aload_n 0, 1) := by decide +kernel
theorem dX6_empty_16 : decode cX6_empty 16 = .ok (.iconst (-1), 1) := by decide +kernel
theorem dX6_empty_17 : decode cX6_empty 17 = .ok (.putfield 28, 3) := by decide +kernel
theorem dX6_empty_20 : decode cX6_empty 20 = .ok (.return_, 1) := by decide +kernel
theorem dX6_append_0 : decode cX6_append 0 = .ok (.aload_n 0, 1) := by decide +kernel
theorem dX6_append_1 : decode cX6_append 1 = .ok (.getfield 28, 3) := by decide +kernel
theorem dX6_append_4 : decode cX6_append 4 = .ok (.iconst (-1), 1) := by decide +kernel
theorem dX6_append_5 : decode cX6_append 5 = .ok (.if_icmp .ne 19, 3) := by decide +kernel
theorem dX6_append_8 : decode cX6_append 8 = .ok (.aload_n 0, 1) := by decide +kernel
theorem dX6_append_9 : decode cX6_append 9 = .ok (.iload_n 1, 1) := by decide +kernel
theorem dX6_append_10 : decode cX6_append 10 = .ok (.invokevirtual 41, 3) := by decide +kernel
theorem dX6_append_13 : decode cX6_append 13 = .ok (.ifCond .ne 11, 3) := by decide +kernel
theorem dX6_append_16 : decode cX6_append 16 = .ok (.aload_n 0, 1) := by decide +kernel
theorem dX6_append_17 : decode cX6_append 17 = .ok (.aload_n 0, 1) := by decide +kernel
theorem dX6_append_18 : decode cX6_append 18 = .ok (.getfield 32, 3) := by decide +kernel
theorem dX6_append_21 : decode cX6_append 21 = .ok (.putfield 28, 3) := by decide +kernel
theorem dX6_append_24 : decode cX6_append 24 = .ok (.aload_n 0, 1) := by decide +kernel
theorem dX6_append_25 : decode cX6_append 25 = .ok (.dup, 1) := by decide +kernel
theorem dX6_append_26 : decode cX6_append 26 = .ok (.getfield 32, 3) := by decide +kernel
theorem dX6_append_29 : decode cX6_append 29 = .ok (.iconst 1, 1) := by decide +kernel
theorem dX6_append_30 : decode cX6_append 30 = .ok (.iadd, 1) := by decide +kernel
theorem dX6_append_31 : decode cX6_append 31 = .ok (.putfield 32, 3) := by decide +kernel
theorem dX6_append_34 : decode cX6_append 34 = .ok (.return_, 1) := by decide +kernel
theorem dX6_faultPlace_0 : decode cX6_faultPlace 0 = .ok (.aload_n 0, 1) := by decide +kernel
theorem dX6_faultPlace_1 : decode cX6_faultPlace 1 = .ok (.getfield 28, 3) := by decide +kernel
theorem dX6_faultPlace_4 : decode cX6_faultPlace 4 = .ok (.iconst (-1), 1) := by decide +kernel
theorem dX6_faultPlace_5 : decode cX6_faultPlace 5 = .ok (.if_icmp .eq 8, 3) := by decide +kernel
theorem dX6_faultPlace_8 : decode cX6_faultPlace 8 = .ok (.aload_n 0, 1) := by decide +kernel
theorem dX6_faultPlace_9 : decode cX6_faultPlace 9 = .ok (.getfield 28, 3) := by decide +kernel
theorem dX6_faultPlace_12 : decode cX6_faultPlace 12 = .ok (.ireturn, 1) := by decide +kernel
theorem dX6_faultPlace_13 : decode cX6_faultPlace 13 = .ok (.aload_n 0, 1) := by decide +kernel
theorem dX6_faultPlace_14 : decode cX6_faultPlace 14 = .ok (.getfield 38, 3) := by decide +kernel
theorem dX6_faultPlace_17 : decode cX6_faultPlace 17 = .ok (.iconst 3, 1) := by decide +kernel
theorem dX6_faultPlace_18 : decode cX6_faultPlace 18 = .ok (.if_icmp .eq 11, 3) := by decide +kernel
theorem dX6_faultPlace_21 : decode cX6_faultPlace 21 = .ok (.aload_n 0, 1) := by decide +kernel
theorem dX6_faultPlace_22 : decode cX6_faultPlace 22 = .ok (.getfield 38, 3) := by decide +kernel
theorem dX6_faultPlace_25 : decode cX6_faultPlace 25 = .ok (.iconst 4, 1) := by decide +kernel
theorem dX6_faultPlace_26 : decode cX6_faultPlace 26 = .ok (.if_icmp .ne 7, 3) := by decide +kernel
theorem dX6_faultPlace_29 : decode cX6_faultPlace 29 = .ok (.iconst (-1), 1) := by decide +kernel
theorem dX6_faultPlace_30 : decode cX6_faultPlace 30 = .ok (.goto 7, 3) := by decide +kernel
theorem dX6_faultPlace_33 : decode cX6_faultPlace 33 = .ok (.aload_n 0, 1) := by decide +kernel
theorem dX6_faultPlace_34 : decode cX6_faultPlace 34 = .ok (.getfield 32, 3) := by decide +kernel
theorem dX6_faultPlace_37 : decode cX6_faultPlace 37 = .ok (.ireturn, 1) := by decide +kernel
theorem dX6_isFaulty_0 : decode cX6_isFaulty 0 = .ok (.aload_n 0, 1) := by decide +kernel
theorem dX6_isFaulty_1 : decode cX6_isFaulty 1 = .ok (.invokevirtual 45, 3) := by decide +kernel
theorem dX6_isFaulty_4 : decode cX6_isFaulty 4 = .ok (.iconst (-1), 1) := by decide +kernel
theorem dX6_isFaulty_5 : decode cX6_isFaulty 5 = .ok (.if_icmp .eq 7, 3) := by decide +kernel
theorem dX6_isFaulty_8 : decode cX6_isFaulty 8 = .ok (.iconst 1, 1) := by decide +kernel
theorem dX6_isFaulty_9 : decode cX6_isFaulty 9 = .ok (.goto 4, 3) := by decide +kernel
theorem dX6_isFaulty_12 : decode cX6_isFaulty 12 = .ok (.iconst 0, 1) := by decide +kernel
theorem dX6_isFaulty_13 : decode cX6_isFaulty 13 = .ok (.ireturn, 1) := by decide +kernel
theorem dX6_goesOn_0 : decode cX6_goesOn 0 = .ok (.aload_n 0, 1) := by decide +kernel
theorem dX6_goesOn_1 : decode cX6_goesOn 1 = .ok (.getfield 38, 3) := by decide +kernel
theorem dX6_goesOn_4 : decode cX6_goesOn 4 = .ok (.tableswitch 72 0 3 #[32, 38, 44, 50], 32) := by decide +kernel
theorem dX6_goesOn_36 : decode cX6_goesOn 36 = .ok (.aload_n 0, 1) := by decide +kernel
theorem dX6_goesOn_37 : decode cX6_goesOn 37 = .ok (.iload_n 1, 1) := by decide +kernel
theorem dX6_goesOn_38 : decode cX6_goesOn 38 = .ok (.invokevirtual 49, 3) := by decide +kernel
theorem dX6_goesOn_41 : decode cX6_goesOn 41 = .ok (.ireturn, 1) := by decide +kernel
theorem dX6_goesOn_42 : decode cX6_goesOn 42 = .ok (.aload_n 0, 1) := by decide +kernel
theorem dX6_goesOn_43 : decode cX6_goesOn 43 = .ok (.iload_n 1, 1) := by decide +kernel
theorem dX6_goesOn_44 : decode cX6_goesOn 44 = .ok (.invokevirtual 52, 3) := by decide +kernel
theorem dX6_goesOn_47 : decode cX6_goesOn 47 = .ok (.ireturn, 1) := by decide +kernel
theorem dX6_goesOn_48 : decode cX6_goesOn 48 = .ok (.aload_n 0, 1) := by decide +kernel
theorem dX6_goesOn_49 : decode cX6_goesOn 49 = .ok (.iload_n 1, 1) := by decide +kernel
theorem dX6_goesOn_50 : decode cX6_goesOn 50 = .ok (.invokevirtual 55, 3) := by decide +kernel
theorem dX6_goesOn_53 : decode cX6_goesOn 53 = .ok (.ireturn, 1) := by decide +kernel
theorem dX6_goesOn_54 : decode cX6_goesOn 54 = .ok (.aload_n 0, 1) := by decide +kernel
theorem dX6_goesOn_55 : decode cX6_goesOn 55 = .ok (.iload_n 1, 1) := by decide +kernel
theorem dX6_goesOn_56 : decode cX6_goesOn 56 = .ok (.invokevirtual 58, 3) := by decide +kernel
theorem dX6_goesOn_59 : decode cX6_goesOn 59 = .ok (.ifCond .ne 11, 3) := by decide +kernel
theorem dX6_goesOn_62 : decode cX6_goesOn 62 = .ok (.aload_n 0, 1) := by decide +kernel
theorem dX6_goesOn_63 : decode cX6_goesOn 63 = .ok (.iload_n 1, 1) := by decide +kernel
theorem dX6_goesOn_64 : decode cX6_goesOn 64 = .ok (.invokevirtual 61, 3) := by decide +kernel
theorem dX6_goesOn_67 : decode cX6_goesOn 67 = .ok (.ifCond .eq 7, 3) := by decide +kernel
theorem dX6_goesOn_70 : decode cX6_goesOn 70 = .ok (.iconst 1, 1) := by decide +kernel
theorem dX6_goesOn_71 : decode cX6_goesOn 71 = .ok (.goto 4, 3) := by decide +kernel
theorem dX6_goesOn_74 : decode cX6_goesOn 74 = .ok (.iconst 0, 1) := by decide +kernel
theorem dX6_goesOn_75 : decode cX6_goesOn 75 = .ok (.ireturn, 1) := by decide +kernel
theorem dX6_goesOn_76 : decode cX6_goesOn 76 = .ok (.aload_n 0, 1) := by decide +kernel
theorem dX6_goesOn_77 : decode cX6_goesOn 77 = .ok (.iload_n 1, 1) := by decide +kernel
theorem dX6_goesOn_78 : decode cX6_goesOn 78 = .ok (.invokevirtual 61, 3) := by decide +kernel
theorem dX6_goesOn_81 : decode cX6_goesOn 81 = .ok (.ireturn, 1) := by decide +kernel
theorem dX6_takesLetter_0 : decode cX6_takesLetter 0 = .ok (.ldc 64, 2) := by decide +kernel
theorem dX6_takesLetter_2 : decode cX6_takesLetter 2 = .ok (.iload_n 1, 1) := by decide +kernel
theorem dX6_takesLetter_3 : decode cX6_takesLetter 3 = .ok (.i2c, 1) := by decide +kernel
theorem dX6_takesLetter_4 : decode cX6_takesLetter 4 = .ok (.invokevirtual 66, 3) := by decide +kernel
theorem dX6_takesLetter_7 : decode cX6_takesLetter 7 = .ok (.istore_n 2, 1) := by decide +kernel
theorem dX6_takesLetter_8 : decode cX6_takesLetter 8 = .ok (.iload_n 2, 1) := by decide +kernel
theorem dX6_takesLetter_9 : decode cX6_takesLetter 9 = .ok (.ifCond .lt 12, 3) := by decide +kernel
theorem dX6_takesLetter_12 : decode cX6_takesLetter 12 = .ok (.aload_n 0, 1) := by decide +kernel
theorem dX6_takesLetter_13 : decode cX6_takesLetter 13 = .ok (.getfield 35, 3) := by decide +kernel
theorem dX6_takesLetter_16 : decode cX6_takesLetter 16 = .ok (.bipush 16, 2) := by decide +kernel
theorem dX6_takesLetter_18 : decode cX6_takesLetter 18 = .ok (.if_icmp .lt 5, 3) := by decide +kernel
theorem dX6_takesLetter_21 : decode cX6_takesLetter 21 = .ok (.iconst 0, 1) := by decide +kernel
theorem dX6_takesLetter_22 : decode cX6_takesLetter 22 = .ok (.ireturn, 1) := by decide +kernel
theorem dX6_takesLetter_23 : decode cX6_takesLetter 23 = .ok (.aload_n 0, 1) := by decide +kernel
theorem dX6_takesLetter_24 : decode cX6_takesLetter 24 = .ok (.getfield 11, 3) := by decide +kernel
theorem dX6_takesLetter_27 : decode cX6_takesLetter 27 = .ok (.aload_n 0, 1) := by decide +kernel
theorem dX6_takesLetter_28 : decode cX6_takesLetter 28 = .ok (.getfield 35, 3) := by decide +kernel
theorem dX6_takesLetter_31 : decode cX6_takesLetter 31 = .ok (.iload_n 2, 1) := by decide +kernel
theorem dX6_takesLetter_32 : decode cX6_takesLetter 32 = .ok (.iastore, 1) := by decide +kernel
theorem dX6_takesLetter_33 : decode cX6_takesLetter 33 = .ok (.aload_n 0, 1) := by decide +kernel
theorem dX6_takesLetter_34 : decode cX6_takesLetter 34 = .ok (.iconst 1, 1) := by decide +kernel
theorem dX6_takesLetter_35 : decode cX6_takesLetter 35 = .ok (.putfield 38, 3) := by decide +kernel
theorem dX6_takesLetter_38 : decode cX6_takesLetter 38 = .ok (.iconst 1, 1) := by decide +kernel
theorem dX6_takesLetter_39 : decode cX6_takesLetter 39 = .ok (.ireturn, 1) := by decide +kernel
theorem dX6_takesRelation_0 : decode cX6_takesRelation 0 = .ok (.iload_n 1, 1) := by decide +kernel
theorem dX6_takesRelation_1 : decode cX6_takesRelation 1 = .ok (.bipush 60, 2) := by decide +kernel
theorem dX6_takesRelation_3 : decode cX6_takesRelation 3 = .ok (.if_icmp .eq 15, 3) := by decide +kernel
theorem dX6_takesRelation_6 : decode cX6_takesRelation 6 = .ok (.iload_n 1, 1) := by decide +kernel
theorem dX6_takesRelation_7 : decode cX6_takesRelation 7 = .ok (.bipush 61, 2) := by decide +kernel
theorem dX6_takesRelation_9 : decode cX6_takesRelation 9 = .ok (.if_icmp .eq 9, 3) := by decide +kernel
theorem dX6_takesRelation_12 : decode cX6_takesRelation 12 = .ok (.iload_n 1, 1) := by decide +kernel
theorem dX6_takesRelation_13 : decode cX6_takesRelation 13 = .ok (.bipush 62, 2) := by decide +kernel
theorem dX6_takesRelation_15 : decode cX6_takesRelation 15 = .ok (.if_icmp .ne 12, 3) := by decide +kernel
theorem dX6_takesRelation_18 : decode cX6_takesRelation 18 = .ok (.aload_n 0, 1) := by decide +kernel
theorem dX6_takesRelation_19 : decode cX6_takesRelation 19 = .ok (.getfield 35, 3) := by decide +kernel
theorem dX6_takesRelation_22 : decode cX6_takesRelation 22 = .ok (.bipush 16, 2) := by decide +kernel
theorem dX6_takesRelation_24 : decode cX6_takesRelation 24 = .ok (.if_icmp .lt 5, 3) := by decide +kernel
theorem dX6_takesRelation_27 : decode cX6_takesRelation 27 = .ok (.iconst 0, 1) := by decide +kernel
theorem dX6_takesRelation_28 : decode cX6_takesRelation 28 = .ok (.ireturn, 1) := by decide +kernel
theorem dX6_takesRelation_29 : decode cX6_takesRelation 29 = .ok (.aload_n 0, 1) := by decide +kernel
theorem dX6_takesRelation_30 : decode cX6_takesRelation 30 = .ok (.getfield 15, 3) := by decide +kernel
theorem dX6_takesRelation_33 : decode cX6_takesRelation 33 = .ok (.aload_n 0, 1) := by decide +kernel
theorem dX6_takesRelation_34 : decode cX6_takesRelation 34 = .ok (.getfield 35, 3) := by decide +kernel
theorem dX6_takesRelation_37 : decode cX6_takesRelation 37 = .ok (.iload_n 1, 1) := by decide +kernel
theorem dX6_takesRelation_38 : decode cX6_takesRelation 38 = .ok (.iastore, 1) := by decide +kernel
theorem dX6_takesRelation_39 : decode cX6_takesRelation 39 = .ok (.aload_n 0, 1) := by decide +kernel
theorem dX6_takesRelation_40 : decode cX6_takesRelation 40 = .ok (.iconst 2, 1) := by decide +kernel
theorem dX6_takesRelation_41 : decode cX6_takesRelation 41 = .ok (.putfield 38, 3) := by decide +kernel
theorem dX6_takesRelation_44 : decode cX6_takesRelation 44 = .ok (.iconst 1, 1) := by decide +kernel
theorem dX6_takesRelation_45 : decode cX6_takesRelation 45 = .ok (.ireturn, 1) := by decide +kernel
theorem dX6_takesFigure_0 : decode cX6_takesFigure 0 = .ok (.iload_n 1, 1) := by decide +kernel
theorem dX6_takesFigure_1 : decode cX6_takesFigure 1 = .ok (.bipush 48, 2) := by decide +kernel
theorem dX6_takesFigure_3 : decode cX6_takesFigure 3 = .ok (.if_icmp .lt 18, 3) := by decide +kernel
theorem dX6_takesFigure_6 : decode cX6_takesFigure 6 = .ok (.iload_n 1, 1) := by decide +kernel
theorem dX6_takesFigure_7 : decode cX6_takesFigure 7 = .ok (.bipush 57, 2) := by decide +kernel
theorem dX6_takesFigure_9 : decode cX6_takesFigure 9 = .ok (.if_icmp .gt 12, 3) := by decide +kernel
theorem dX6_takesFigure_12 : decode cX6_takesFigure 12 = .ok (.aload_n 0, 1) := by decide +kernel
theorem dX6_takesFigure_13 : decode cX6_takesFigure 13 = .ok (.getfield 35, 3) := by decide +kernel
theorem dX6_takesFigure_16 : decode cX6_takesFigure 16 = .ok (.bipush 16, 2) := by decide +kernel
theorem dX6_takesFigure_18 : decode cX6_takesFigure 18 = .ok (.if_icmp .lt 5, 3) := by decide +kernel
theorem dX6_takesFigure_21 : decode cX6_takesFigure 21 = .ok (.iconst 0, 1) := by decide +kernel
theorem dX6_takesFigure_22 : decode cX6_takesFigure 22 = .ok (.ireturn, 1) := by decide +kernel
theorem dX6_takesFigure_23 : decode cX6_takesFigure 23 = .ok (.aload_n 0, 1) := by decide +kernel
theorem dX6_takesFigure_24 : decode cX6_takesFigure 24 = .ok (.getfield 18, 3) := by decide +kernel
theorem dX6_takesFigure_27 : decode cX6_takesFigure 27 = .ok (.aload_n 0, 1) := by decide +kernel
theorem dX6_takesFigure_28 : decode cX6_takesFigure 28 = .ok (.getfield 35, 3) := by decide +kernel
theorem dX6_takesFigure_31 : decode cX6_takesFigure 31 = .ok (.iload_n 1, 1) := by decide +kernel
theorem dX6_takesFigure_32 : decode cX6_takesFigure 32 = .ok (.bipush 48, 2) := by decide +kernel
theorem dX6_takesFigure_34 : decode cX6_takesFigure 34 = .ok (.isub, 1) := by decide +kernel
theorem dX6_takesFigure_35 : decode cX6_takesFigure 35 = .ok (.iastore, 1) := by decide +kernel
theorem dX6_takesFigure_36 : decode cX6_takesFigure 36 = .ok (.aload_n 0, 1) := by decide +kernel
theorem dX6_takesFigure_37 : decode cX6_takesFigure 37 = .ok (.dup, 1) := by decide +kernel
theorem dX6_takesFigure_38 : decode cX6_takesFigure 38 = .ok (.getfield 35, 3) := by decide +kernel
theorem dX6_takesFigure_41 : decode cX6_takesFigure 41 = .ok (.iconst 1, 1) := by decide +kernel
theorem dX6_takesFigure_42 : decode cX6_takesFigure 42 = .ok (.iadd, 1) := by decide +kernel
theorem dX6_takesFigure_43 : decode cX6_takesFigure 43 = .ok (.putfield 35, 3) := by decide +kernel
theorem dX6_takesFigure_46 : decode cX6_takesFigure 46 = .ok (.aload_n 0, 1) := by decide +kernel
theorem dX6_takesFigure_47 : decode cX6_takesFigure 47 = .ok (.iconst 3, 1) := by decide +kernel
theorem dX6_takesFigure_48 : decode cX6_takesFigure 48 = .ok (.putfield 38, 3) := by decide +kernel
theorem dX6_takesFigure_51 : decode cX6_takesFigure 51 = .ok (.iconst 1, 1) := by decide +kernel
theorem dX6_takesFigure_52 : decode cX6_takesFigure 52 = .ok (.ireturn, 1) := by decide +kernel
theorem dX6_takesSecondFigure_0 : decode cX6_takesSecondFigure 0 = .ok (.iload_n 1, 1) := by decide +kernel
theorem dX6_takesSecondFigure_1 : decode cX6_takesSecondFigure 1 = .ok (.bipush 48, 2) := by decide +kernel
theorem dX6_takesSecondFigure_3 : decode cX6_takesSecondFigure 3 = .ok (.if_icmp .lt 17, 3) := by decide +kernel
theorem dX6_takesSecondFigure_6 : decode cX6_takesSecondFigure 6 = .ok (.iload_n 1, 1) := by decide +kernel
theorem dX6_takesSecondFigure_7 : decode cX6_takesSecondFigure 7 = .ok (.bipush 57, 2) := by decide +kernel
theorem dX6_takesSecondFigure_9 : decode cX6_takesSecondFigure 9 = .ok (.if_icmp .gt 11, 3) := by decide +kernel
theorem dX6_takesSecondFigure_12 : decode cX6_takesSecondFigure 12 = .ok (.aload_n 0, 1) := by decide +kernel
theorem dX6_takesSecondFigure_13 : decode cX6_takesSecondFigure 13 = .ok (.getfield 35, 3) := by decide +kernel
theorem dX6_takesSecondFigure_16 : decode cX6_takesSecondFigure 16 = .ok (.iconst 1, 1) := by decide +kernel
theorem dX6_takesSecondFigure_17 : decode cX6_takesSecondFigure 17 = .ok (.if_icmp .ge 5, 3) := by decide +kernel
theorem dX6_takesSecondFigure_20 : decode cX6_takesSecondFigure 20 = .ok (.iconst 0, 1) := by decide +kernel
theorem dX6_takesSecondFigure_21 : decode cX6_takesSecondFigure 21 = .ok (.ireturn, 1) := by decide +kernel
theorem dX6_takesSecondFigure_22 : decode cX6_takesSecondFigure 22 = .ok (.aload_n 0, 1) := by decide +kernel
theorem dX6_takesSecondFigure_23 : decode cX6_takesSecondFigure 23 = .ok (.getfield 18, 3) := by decide +kernel
theorem dX6_takesSecondFigure_26 : decode cX6_takesSecondFigure 26 = .ok (.aload_n 0, 1) := by decide +kernel
theorem dX6_takesSecondFigure_27 : decode cX6_takesSecondFigure 27 = .ok (.getfield 35, 3) := by decide +kernel
theorem dX6_takesSecondFigure_30 : decode cX6_takesSecondFigure 30 = .ok (.iconst 1, 1) := by decide +kernel
theorem dX6_takesSecondFigure_31 : decode cX6_takesSecondFigure 31 = .ok (.isub, 1) := by decide +kernel
theorem dX6_takesSecondFigure_32 : decode cX6_takesSecondFigure 32 = .ok (.bipush 10, 2) := by decide +kernel
theorem dX6_takesSecondFigure_34 : decode cX6_takesSecondFigure 34 = .ok (.aload_n 0, 1) := by decide +kernel
theorem dX6_takesSecondFigure_35 : decode cX6_takesSecondFigure 35 = .ok (.getfield 18, 3) := by decide +kernel
theorem dX6_takesSecondFigure_38 : decode cX6_takesSecondFigure 38 = .ok (.aload_n 0, 1) := by decide +kernel
theorem dX6_takesSecondFigure_39 : decode cX6_takesSecondFigure 39 = .ok (.getfield 35, 3) := by decide +kernel
theorem dX6_takesSecondFigure_42 : decode cX6_takesSecondFigure 42 = .ok (.iconst 1, 1) := by decide +kernel
theorem dX6_takesSecondFigure_43 : decode cX6_takesSecondFigure 43 = .ok (.isub, 1) := by decide +kernel
theorem dX6_takesSecondFigure_44 : decode cX6_takesSecondFigure 44 = .ok (.iaload, 1) := by decide +kernel
theorem dX6_takesSecondFigure_45 : decode cX6_takesSecondFigure 45 = .ok (.imul, 1) := by decide +kernel
theorem dX6_takesSecondFigure_46 : decode cX6_takesSecondFigure 46 = .ok (.iload_n 1, 1) := by decide +kernel
theorem dX6_takesSecondFigure_47 : decode cX6_takesSecondFigure 47 = .ok (.iadd, 1) := by decide +kernel
theorem dX6_takesSecondFigure_48 : decode cX6_takesSecondFigure 48 = .ok (.bipush 48, 2) := by decide +kernel
theorem dX6_takesSecondFigure_50 : decode cX6_takesSecondFigure 50 = .ok (.isub, 1) := by decide +kernel
theorem dX6_takesSecondFigure_51 : decode cX6_takesSecondFigure 51 = .ok (.iastore, 1) := by decide +kernel
theorem dX6_takesSecondFigure_52 : decode cX6_takesSecondFigure 52 = .ok (.aload_n 0, 1) := by decide +kernel
theorem dX6_takesSecondFigure_53 : decode cX6_takesSecondFigure 53 = .ok (.iconst 4, 1) := by decide +kernel
theorem dX6_takesSecondFigure_54 : decode cX6_takesSecondFigure 54 = .ok (.putfield 38, 3) := by decide +kernel
theorem dX6_takesSecondFigure_57 : decode cX6_takesSecondFigure 57 = .ok (.iconst 1, 1) := by decide +kernel
theorem dX6_takesSecondFigure_58 : decode cX6_takesSecondFigure 58 = .ok (.ireturn, 1) := by decide +kernel
theorem dX6_takesJoint_0 : decode cX6_takesJoint 0 = .ok (.iload_n 1, 1) := by decide +kernel
theorem dX6_takesJoint_1 : decode cX6_takesJoint 1 = .ok (.bipush 43, 2) := by decide +kernel
theorem dX6_takesJoint_3 : decode cX6_takesJoint 3 = .ok (.if_icmp .eq 9, 3) := by decide +kernel
theorem dX6_takesJoint_6 : decode cX6_takesJoint 6 = .ok (.iload_n 1, 1) := by decide +kernel
theorem dX6_takesJoint_7 : decode cX6_takesJoint 7 = .ok (.bipush 124, 2) := by decide +kernel
theorem dX6_takesJoint_9 : decode cX6_takesJoint 9 = .ok (.if_icmp .ne 12, 3) := by decide +kernel
theorem dX6_takesJoint_12 : decode cX6_takesJoint 12 = .ok (.aload_n 0, 1) := by decide +kernel
theorem dX6_takesJoint_13 : decode cX6_takesJoint 13 = .ok (.getfield 35, 3) := by decide +kernel
theorem dX6_takesJoint_16 : decode cX6_takesJoint 16 = .ok (.bipush 16, 2) := by decide +kernel
theorem dX6_takesJoint_18 : decode cX6_takesJoint 18 = .ok (.if_icmp .lt 5, 3) := by decide +kernel
theorem dX6_takesJoint_21 : decode cX6_takesJoint 21 = .ok (.iconst 0, 1) := by decide +kernel
theorem dX6_takesJoint_22 : decode cX6_takesJoint 22 = .ok (.ireturn, 1) := by decide +kernel
theorem dX6_takesJoint_23 : decode cX6_takesJoint 23 = .ok (.aload_n 0, 1) := by decide +kernel
theorem dX6_takesJoint_24 : decode cX6_takesJoint 24 = .ok (.getfield 21, 3) := by decide +kernel
theorem dX6_takesJoint_27 : decode cX6_takesJoint 27 = .ok (.aload_n 0, 1) := by decide +kernel
theorem dX6_takesJoint_28 : decode cX6_takesJoint 28 = .ok (.getfield 35, 3) := by decide +kernel
theorem dX6_takesJoint_31 : decode cX6_takesJoint 31 = .ok (.iload_n 1, 1) := by decide +kernel
theorem dX6_takesJoint_32 : decode cX6_takesJoint 32 = .ok (.bipush 124, 2) := by decide +kernel
theorem dX6_takesJoint_34 : decode cX6_takesJoint 34 = .ok (.if_icmp .ne 7, 3) := by decide +kernel
theorem dX6_takesJoint_37 : decode cX6_takesJoint 37 = .ok (.iconst 1, 1) := by decide +kernel
theorem dX6_takesJoint_38 : decode cX6_takesJoint 38 = .ok (.goto 4, 3) := by decide +kernel
theorem dX6_takesJoint_41 : decode cX6_takesJoint 41 = .ok (.iconst 0, 1) := by decide +kernel
theorem dX6_takesJoint_42 : decode cX6_takesJoint 42 = .ok (.bastore, 1) := by decide +kernel
theorem dX6_takesJoint_43 : decode cX6_takesJoint 43 = .ok (.aload_n 0, 1) := by decide +kernel
theorem dX6_takesJoint_44 : decode cX6_takesJoint 44 = .ok (.iconst 0, 1) := by decide +kernel
theorem dX6_takesJoint_45 : decode cX6_takesJoint 45 = .ok (.putfield 38, 3) := by decide +kernel
theorem dX6_takesJoint_48 : decode cX6_takesJoint 48 = .ok (.iconst 1, 1) := by decide +kernel
theorem dX6_takesJoint_49 : decode cX6_takesJoint 49 = .ok (.ireturn, 1) := by decide +kernel
theorem dX6_hold_0 : decode cX6_hold 0 = .ok (.iconst 1, 1) := by decide +kernel
theorem dX6_hold_1 : decode cX6_hold 1 = .ok (.istore 4, 2) := by decide +kernel
theorem dX6_hold_3 : decode cX6_hold 3 = .ok (.iconst 0, 1) := by decide +kernel
theorem dX6_hold_4 : decode cX6_hold 4 = .ok (.istore 5, 2) := by decide +kernel
theorem dX6_hold_6 : decode cX6_hold 6 = .ok (.iconst 0, 1) := by decide +kernel
theorem dX6_hold_7 : decode cX6_hold 7 = .ok (.istore 6, 2) := by decide +kernel
theorem dX6_hold_9 : decode cX6_hold 9 = .ok (.iload 6, 2) := by decide +kernel
theorem dX6_hold_11 : decode cX6_hold 11 = .ok (.aload_n 0, 1) := by decide +kernel
theorem dX6_hold_12 : decode cX6_hold 12 = .ok (.getfield 35, 3) := by decide +kernel
theorem dX6_hold_15 : decode cX6_hold 15 = .ok (.if_icmp .ge 85, 3) := by decide +kernel
theorem dX6_hold_18 : decode cX6_hold 18 = .ok (.aload_n 0, 1) := by decide +kernel
theorem dX6_hold_19 : decode cX6_hold 19 = .ok (.getfield 21, 3) := by decide +kernel
theorem dX6_hold_22 : decode cX6_hold 22 = .ok (.iload 6, 2) := by decide +kernel
theorem dX6_hold_24 : decode cX6_hold 24 = .ok (.baload, 1) := by decide +kernel
theorem dX6_hold_25 : decode cX6_hold 25 = .ok (.ifCond .eq 13, 3) := by decide +kernel
theorem dX6_hold_28 : decode cX6_hold 28 = .ok (.iload 4, 2) := by decide +kernel
theorem dX6_hold_30 : decode cX6_hold 30 = .ok (.ifCond .eq 5, 3) := by decide +kernel
theorem dX6_hold_33 : decode cX6_hold 33 = .ok (.iconst 1, 1) := by decide +kernel
theorem dX6_hold_34 : decode cX6_hold 34 = .ok (.ireturn, 1) := by decide +kernel
theorem dX6_hold_35 : decode cX6_hold 35 = .ok (.iconst 1, 1) := by decide +kernel
theorem dX6_hold_36 : decode cX6_hold 36 = .ok (.istore 4, 2) := by decide +kernel
theorem dX6_hold_38 : decode cX6_hold 38 = .ok (.iload 4, 2) := by decide +kernel
theorem dX6_hold_40 : decode cX6_hold 40 = .ok (.ifCond .eq 54, 3) := by decide +kernel
theorem dX6_hold_43 : decode cX6_hold 43 = .ok (.aload_n 0, 1) := by decide +kernel
theorem dX6_hold_44 : decode cX6_hold 44 = .ok (.getfield 11, 3) := by decide +kernel
theorem dX6_hold_47 : decode cX6_hold 47 = .ok (.iload 6, 2) := by decide +kernel
theorem dX6_hold_49 : decode cX6_hold 49 = .ok (.iaload, 1) := by decide +kernel
theorem dX6_hold_50 : decode cX6_hold 50 = .ok (.istore 7, 2) := by decide +kernel
theorem dX6_hold_52 : decode cX6_hold 52 = .ok (.iload 5, 2) := by decide +kernel
theorem dX6_hold_54 : decode cX6_hold 54 = .ok (.iload 7, 2) := by decide +kernel
theorem dX6_hold_56 : decode cX6_hold 56 = .ok (.ishr, 1) := by decide +kernel
theorem dX6_hold_57 : decode cX6_hold 57 = .ok (.iconst 1, 1) := by decide +kernel
theorem dX6_hold_58 : decode cX6_hold 58 = .ok (.iand, 1) := by decide +kernel
theorem dX6_hold_59 : decode cX6_hold 59 = .ok (.ifCond .ne 27, 3) := by decide +kernel
theorem dX6_hold_62 : decode cX6_hold 62 = .ok (.aload_n 0, 1) := by decide +kernel
theorem dX6_hold_63 : decode cX6_hold 63 = .ok (.getfield 25, 3) := by decide +kernel
theorem dX6_hold_66 : decode cX6_hold 66 = .ok (.iload 7, 2) := by decide +kernel
theorem dX6_hold_68 : decode cX6_hold 68 = .ok (.iload 7, 2) := by decide +kernel
theorem dX6_hold_70 : decode cX6_hold 70 = .ok (.iload_n 1, 1) := by decide +kernel
theorem dX6_hold_71 : decode cX6_hold 71 = .ok (.iload_n 2, 1) := by decide +kernel
theorem dX6_hold_72 : decode cX6_hold 72 = .ok (.iload_n 3, 1) := by decide +kernel
theorem dX6_hold_73 : decode cX6_hold 73 = .ok (.invokestatic 72, 3) := by decide +kernel
theorem dX6_hold_76 : decode cX6_hold 76 = .ok (.iastore, 1) := by decide +kernel
theorem dX6_hold_77 : decode cX6_hold 77 = .ok (.iload 5, 2) := by decide +kernel
theorem dX6_hold_79 : decode cX6_hold 79 = .ok (.iconst 1, 1) := by decide +kernel
theorem dX6_hold_80 : decode cX6_hold 80 = .ok (.iload 7, 2) := by decide +kernel
theorem dX6_hold_82 : decode cX6_hold 82 = .ok (.ishl, 1) := by decide +kernel
theorem dX6_hold_83 : decode cX6_hold 83 = .ok (.ior, 1) := by decide +kernel
theorem dX6_hold_84 : decode cX6_hold 84 = .ok (.istore 5, 2) := by decide +kernel
theorem dX6_hold_86 : decode cX6_hold 86 = .ok (.aload_n 0, 1) := by decide +kernel
theorem dX6_hold_87 : decode cX6_hold 87 = .ok (.iload 6, 2) := by decide +kernel
theorem dX6_hold_89 : decode cX6_hold 89 = .ok (.invokevirtual 78, 3) := by decide +kernel
theorem dX6_hold_92 : decode cX6_hold 92 = .ok (.istore 4, 2) := by decide +kernel
theorem dX6_hold_94 : decode cX6_hold 94 = .ok (.iinc 6 1, 3) := by decide +kernel
theorem dX6_hold_97 : decode cX6_hold 97 = .ok (.goto (-88), 3) := by decide +kernel
theorem dX6_hold_100 : decode cX6_hold 100 = .ok (.iload 4, 2) := by decide +kernel
theorem dX6_hold_102 : decode cX6_hold 102 = .ok (.ireturn, 1) := by decide +kernel
theorem dX6_isDone_0 : decode cX6_isDone 0 = .ok (.aload_n 0, 1) := by decide +kernel
theorem dX6_isDone_1 : decode cX6_isDone 1 = .ok (.getfield 25, 3) := by decide +kernel
theorem dX6_isDone_4 : decode cX6_isDone 4 = .ok (.aload_n 0, 1) := by decide +kernel
theorem dX6_isDone_5 : decode cX6_isDone 5 = .ok (.getfield 11, 3) := by decide +kernel
theorem dX6_isDone_8 : decode cX6_isDone 8 = .ok (.iload_n 1, 1) := by decide +kernel
theorem dX6_isDone_9 : decode cX6_isDone 9 = .ok (.iaload, 1) := by decide +kernel
theorem dX6_isDone_10 : decode cX6_isDone 10 = .ok (.iaload, 1) := by decide +kernel
theorem dX6_isDone_11 : decode cX6_isDone 11 = .ok (.istore_n 2, 1) := by decide +kernel
theorem dX6_isDone_12 : decode cX6_isDone 12 = .ok (.aload_n 0, 1) := by decide +kernel
theorem dX6_isDone_13 : decode cX6_isDone 13 = .ok (.getfield 15, 3) := by decide +kernel
theorem dX6_isDone_16 : decode cX6_isDone 16 = .ok (.iload_n 1, 1) := by decide +kernel
theorem dX6_isDone_17 : decode cX6_isDone 17 = .ok (.iaload, 1) := by decide +kernel
theorem dX6_isDone_18 : decode cX6_isDone 18 = .ok (.lookupswitch 58 #[(60, 26), (62, 42)], 26) := by decide +kernel
theorem dX6_isDone_44 : decode cX6_isDone 44 = .ok (.iload_n 2, 1) := by decide +kernel
theorem dX6_isDone_45 : decode cX6_isDone 45 = .ok (.aload_n 0, 1) := by decide +kernel
theorem dX6_isDone_46 : decode cX6_isDone 46 = .ok (.getfield 18, 3) := by decide +kernel
theorem dX6_isDone_49 : decode cX6_isDone 49 = .ok (.iload_n 1, 1) := by decide +kernel
theorem dX6_isDone_50 : decode cX6_isDone 50 = .ok (.iaload, 1) := by decide +kernel
theorem dX6_isDone_51 : decode cX6_isDone 51 = .ok (.if_icmp .ge 7, 3) := by decide +kernel
theorem dX6_isDone_54 : decode cX6_isDone 54 = .ok (.iconst 1, 1) := by decide +kernel
theorem dX6_isDone_55 : decode cX6_isDone 55 = .ok (.goto 4, 3) := by decide +kernel
theorem dX6_isDone_58 : decode cX6_isDone 58 = .ok (.iconst 0, 1) := by decide +kernel
theorem dX6_isDone_59 : decode cX6_isDone 59 = .ok (.ireturn, 1) := by decide +kernel
theorem dX6_isDone_60 : decode cX6_isDone 60 = .ok (.iload_n 2, 1) := by decide +kernel
theorem dX6_isDone_61 : decode cX6_isDone 61 = .ok (.aload_n 0, 1) := by decide +kernel
theorem dX6_isDone_62 : decode cX6_isDone 62 = .ok (.getfield 18, 3) := by decide +kernel
theorem dX6_isDone_65 : decode cX6_isDone 65 = .ok (.iload_n 1, 1) := by decide +kernel
theorem dX6_isDone_66 : decode cX6_isDone 66 = .ok (.iaload, 1) := by decide +kernel
theorem dX6_isDone_67 : decode cX6_isDone 67 = .ok (.if_icmp .le 7, 3) := by decide +kernel
theorem dX6_isDone_70 : decode cX6_isDone 70 = .ok (.iconst 1, 1) := by decide +kernel
theorem dX6_isDone_71 : decode cX6_isDone 71 = .ok (.goto 4, 3) := by decide +kernel
theorem dX6_isDone_74 : decode cX6_isDone 74 = .ok (.iconst 0, 1) := by decide +kernel
theorem dX6_isDone_75 : decode cX6_isDone 75 = .ok (.ireturn, 1) := by decide +kernel
theorem dX6_isDone_76 : decode cX6_isDone 76 = .ok (.iload_n 2, 1) := by decide +kernel
theorem dX6_isDone_77 : decode cX6_isDone 77 = .ok (.aload_n 0, 1) := by decide +kernel
theorem dX6_isDone_78 : decode cX6_isDone 78 = .ok (.getfield 18, 3) := by decide +kernel
theorem dX6_isDone_81 : decode cX6_isDone 81 = .ok (.iload_n 1, 1) := by decide +kernel
theorem dX6_isDone_82 : decode cX6_isDone 82 = .ok (.iaload, 1) := by decide +kernel
theorem dX6_isDone_83 : decode cX6_isDone 83 = .ok (.if_icmp .ne 7, 3) := by decide +kernel
theorem dX6_isDone_86 : decode cX6_isDone 86 = .ok (.iconst 1, 1) := by decide +kernel
theorem dX6_isDone_87 : decode cX6_isDone 87 = .ok (.goto 4, 3) := by decide +kernel
theorem dX6_isDone_90 : decode cX6_isDone 90 = .ok (.iconst 0, 1) := by decide +kernel
theorem dX6_isDone_91 : decode cX6_isDone 91 = .ok (.ireturn, 1) := by decide +kernel
theorem dX7_init_0 : decode cX7_init 0 = .ok (.aload_n 0, 1) := by decide +kernel
theorem dX7_init_1 : decode cX7_init 1 = .ok (.invokespecial 3, 3) := by decide +kernel
theorem dX7_init_4 : decode cX7_init 4 = .ok (.aload_n 0, 1) := by decide +kernel
theorem dX7_init_5 : decode cX7_init 5 = .ok (.bipush 40, 2) := by decide +kernel
theorem dX7_init_7 : decode cX7_init 7 = .ok (.newarray .int, 2) := by decide +kernel
theorem dX7_init_9 : decode cX7_init 9 = .ok (.putfield 9, 3) := by decide +kernel
theorem dX7_init_12 : decode cX7_init 12 = .ok (.aload_n 0, 1) := by decide +kernel
theorem dX7_init_13 : decode cX7_init 13 = .ok (.iconst 1, 1) := by decide +kernel
theorem dX7_init_14 : decode cX7_init 14 = .ok (.putfield 15, 3) := by decide +kernel
theorem dX7_init_17 : decode cX7_init 17 = .ok (.return_, 1) := by decide +kernel
theorem dX7_renew_0 : decode cX7_renew 0 = .ok (.iconst 0, 1) := by decide +kernel
theorem dX7_renew_1 : decode cX7_renew 1 = .ok (.istore_n 3, 1) := by decide +kernel
theorem dX7_renew_2 : decode cX7_renew 2 = .ok (.iload_n 3, 1) := by decide +kernel
theorem dX7_renew_3 : decode cX7_renew 3 = .ok (.bipush 40, 2) := by decide +kernel
theorem dX7_renew_5 : decode cX7_renew 5 = .ok (.if_icmp .ge 16, 3) := by decide +kernel
theorem dX7_renew_8 : decode cX7_renew 8 = .ok (.aload_n 0, 1) := by decide +kernel
theorem dX7_renew_9 : decode cX7_renew 9 = .ok (.getfield 9, 3) := by decide +kernel
theorem dX7_renew_12 : decode cX7_renew 12 = .ok (.iload_n 3, 1) := by decide +kernel
theorem dX7_renew_13 : decode cX7_renew 13 = .ok (.iconst 0, 1) := by decide +kernel
theorem dX7_renew_14 : decode cX7_renew 14 = .ok (.iastore, 1) := by decide +kernel
theorem dX7_renew_15 : decode cX7_renew 15 = .ok (.iinc 3 1, 3) := by decide +kernel
theorem dX7_renew_18 : decode cX7_renew 18 = .ok (.goto (-16), 3) := by decide +kernel
theorem dX7_renew_21 : decode cX7_renew 21 = .ok (.aload_n 0, 1) := by decide +kernel
theorem dX7_renew_22 : decode cX7_renew 22 = .ok (.iconst 0, 1) := by decide +kernel
theorem dX7_renew_23 : decode cX7_renew 23 = .ok (.putfield 15, 3) := by decide +kernel
theorem dX7_renew_26 : decode cX7_renew 26 = .ok (.aload_n 0, 1) := by decide +kernel
theorem dX7_renew_27 : decode cX7_renew 27 = .ok (.iload_n 1, 1) := by decide +kernel
theorem dX7_renew_28 : decode cX7_renew 28 = .ok (.putfield 19, 3) := by decide +kernel
theorem dX7_renew_31 : decode cX7_renew 31 = .ok (.aload_n 0, 1) := by decide +kernel
theorem dX7_renew_32 : decode cX7_renew 32 = .ok (.iload_n 2, 1) := by decide +kernel
theorem dX7_renew_33 : decode cX7_renew 33 = .ok (.putfield 23, 3) := by decide +kernel
theorem dX7_renew_36 : decode cX7_renew 36 = .ok (.return_, 1) := by decide +kernel
theorem dX7_store_0 : decode cX7_store 0 = .ok (.aload_n 0, 1) := by decide +kernel
theorem dX7_store_1 : decode cX7_store 1 = .ok (.getfield 19, 3) := by decide +kernel
theorem dX7_store_4 : decode cX7_store 4 = .ok (.lookupswitch 50 #[(0, 28), (1, 39)], 28) := by decide +kernel
theorem dX7_store_32 : decode cX7_store 32 = .ok (.aload_n 0, 1) := by decide +kernel
theorem dX7_store_33 : decode cX7_store 33 = .ok (.getfield 9, 3) := by decide +kernel
theorem dX7_store_36 : decode cX7_store 36 = .ok (.iload_n 1, 1) := by decide +kernel
theorem dX7_store_37 : decode cX7_store 37 = .ok (.iload_n 2, 1) := by decide +kernel
theorem dX7_store_38 : decode cX7_store 38 = .ok (.i2b, 1) := by decide +kernel
theorem dX7_store_39 : decode cX7_store 39 = .ok (.iastore, 1) := by decide +kernel
theorem dX7_store_40 : decode cX7_store 40 = .ok (.goto 21, 3) := by decide +kernel
theorem dX7_store_43 : decode cX7_store 43 = .ok (.aload_n 0, 1) := by decide +kernel
theorem dX7_store_44 : decode cX7_store 44 = .ok (.getfield 9, 3) := by decide +kernel
theorem dX7_store_47 : decode cX7_store 47 = .ok (.iload_n 1, 1) := by decide +kernel
theorem dX7_store_48 : decode cX7_store 48 = .ok (.iload_n 2, 1) := by decide +kernel
theorem dX7_store_49 : decode cX7_store 49 = .ok (.i2s, 1) := by decide +kernel
theorem dX7_store_50 : decode cX7_store 50 = .ok (.iastore, 1) := by decide +kernel
theorem dX7_store_51 : decode cX7_store 51 = .ok (.goto 10, 3) := by decide +kernel
theorem dX7_store_54 : decode cX7_store 54 = .ok (.aload_n 0, 1) := by decide +kernel
theorem dX7_store_55 : decode cX7_store 55 = .ok (.getfield 9, 3) := by decide +kernel
theorem dX7_store_58 : decode cX7_store 58 = .ok (.iload_n 1, 1) := by decide +kernel
theorem dX7_store_59 : decode cX7_store 59 = .ok (.iload_n 2, 1) := by decide +kernel
theorem dX7_store_60 : decode cX7_store 60 = .ok (.iastore, 1) := by decide +kernel
theorem dX7_store_61 : decode cX7_store 61 = .ok (.return_, 1) := by decide +kernel
theorem dX7_hasSpan_0 : decode cX7_hasSpan 0 = .ok (.iload_n 1, 1) := by decide +kernel
theorem dX7_hasSpan_1 : decode cX7_hasSpan 1 = .ok (.ifCond .lt 21, 3) := by decide +kernel
theorem dX7_hasSpan_4 : decode cX7_hasSpan 4 = .ok (.iload_n 2, 1) := by decide +kernel
theorem dX7_hasSpan_5 : decode cX7_hasSpan 5 = .ok (.ifCond .lt 17, 3) := by decide +kernel
theorem dX7_hasSpan_8 : decode cX7_hasSpan 8 = .ok (.iload_n 2, 1) := by decide +kernel
theorem dX7_hasSpan_9 : decode cX7_hasSpan 9 = .ok (.aload_n 0, 1) := by decide +kernel
theorem dX7_hasSpan_10 : decode cX7_hasSpan 10 = .ok (.getfield 23, 3) := by decide +kernel
theorem dX7_hasSpan_13 : decode cX7_hasSpan 13 = .ok (.iload_n 1, 1) := by decide +kernel
theorem dX7_hasSpan_14 : decode cX7_hasSpan 14 = .ok (.isub, 1) := by decide +kernel
theorem dX7_hasSpan_15 : decode cX7_hasSpan 15 = .ok (.if_icmp .gt 7, 3) := by decide +kernel
theorem dX7_hasSpan_18 : decode cX7_hasSpan 18 = .ok (.iconst 1, 1) := by decide +kernel
theorem dX7_hasSpan_19 : decode cX7_hasSpan 19 = .ok (.goto 4, 3) := by decide +kernel
theorem dX7_hasSpan_22 : decode cX7_hasSpan 22 = .ok (.iconst 0, 1) := by decide +kernel
theorem dX7_hasSpan_23 : decode cX7_hasSpan 23 = .ok (.ireturn, 1) := by decide +kernel
theorem dX8_init_0 : decode cX8_init 0 = .ok (.aload_n 0, 1) := by decide +kernel
theorem dX8_init_1 : decode cX8_init 1 = .ok (.invokespecial 3, 3) := by decide +kernel
theorem dX8_init_4 : decode cX8_init 4 = .ok (.aload_n 0, 1) := by decide +kernel
theorem dX8_init_5 : decode cX8_init 5 = .ok (.bipush 16, 2) := by decide +kernel
theorem dX8_init_7 : decode cX8_init 7 = .ok (.bipush 16, 2) := by decide +kernel
theorem dX8_init_9 : decode cX8_init 9 = .ok (.multianewarray 9 2, 4) := by decide +kernel
theorem dX8_init_13 : decode cX8_init 13 = .ok (.putfield 11, 3) := by decide +kernel
theorem dX8_init_16 : decode cX8_init 16 = .ok (.aload_n 0, 1) := by decide +kernel
theorem dX8_init_17 : decode cX8_init 17 = .ok (.bipush 16, 2) := by decide +kernel
theorem dX8_init_19 : decode cX8_init 19 = .ok (.newarray .boolean, 2) := by decide +kernel
theorem dX8_init_21 : decode cX8_init 21 = .ok (.putfield 16, 3) := by decide +kernel
theorem dX8_init_24 : decode cX8_init 24 = .ok (.return_, 1) := by decide +kernel
theorem dX8_forget_0 : decode cX8_forget 0 = .ok (.iconst 0, 1) := by decide +kernel
theorem dX8_forget_1 : decode cX8_forget 1 = .ok (.istore_n 1, 1) := by decide +kernel
theorem dX8_forget_2 : decode cX8_forget 2 = .ok (.iload_n 1, 1) := by decide +kernel
theorem dX8_forget_3 : decode cX8_forget 3 = .ok (.bipush 15, 2) := by decide +kernel
theorem dX8_forget_5 : decode cX8_forget 5 = .ok (.if_icmp .gt 16, 3) := by decide +kernel
theorem dX8_forget_8 : decode cX8_forget 8 = .ok (.aload_n 0, 1) := by decide +kernel
theorem dX8_forget_9 : decode cX8_forget 9 = .ok (.getfield 16, 3) := by decide +kernel
theorem dX8_forget_12 : decode cX8_forget 12 = .ok (.iload_n 1, 1) := by decide +kernel
theorem dX8_forget_13 : decode cX8_forget 13 = .ok (.iconst 0, 1) := by decide +kernel
theorem dX8_forget_14 : decode cX8_forget 14 = .ok (.bastore, 1) := by decide +kernel
theorem dX8_forget_15 : decode cX8_forget 15 = .ok (.iinc 1 1, 3) := by decide +kernel
theorem dX8_forget_18 : decode cX8_forget 18 = .ok (.goto (-16), 3) := by decide +kernel
theorem dX8_forget_21 : decode cX8_forget 21 = .ok (.return_, 1) := by decide +kernel
theorem dX8_learn_0 : decode cX8_learn 0 = .ok (.aload_n 0, 1) := by decide +kernel
theorem dX8_learn_1 : decode cX8_learn 1 = .ok (.getfield 16, 3) := by decide +kernel
theorem dX8_learn_4 : decode cX8_learn 4 = .ok (.iload_n 1, 1) := by decide +kernel
theorem dX8_learn_5 : decode cX8_learn 5 = .ok (.baload, 1) := by decide +kernel
theorem dX8_learn_6 : decode cX8_learn 6 = .ok (.ifCond .eq 4, 3) := by decide +kernel
theorem dX8_learn_9 : decode cX8_learn 9 = .ok (.return_, 1) := by decide +kernel
theorem dX8_learn_10 : decode cX8_learn 10 = .ok (.aload_n 0, 1) := by decide +kernel
theorem dX8_learn_11 : decode cX8_learn 11 = .ok (.getfield 11, 3) := by decide +kernel
theorem dX8_learn_14 : decode cX8_learn 14 = .ok (.iload_n 1, 1) := by decide +kernel
theorem dX8_learn_15 : decode cX8_learn 15 = .ok (.aaload, 1) := by decide +kernel
theorem dX8_learn_16 : decode cX8_learn 16 = .ok (.astore 4, 2) := by decide +kernel
theorem dX8_learn_18 : decode cX8_learn 18 = .ok (.iconst 0, 1) := by decide +kernel
theorem dX8_learn_19 : decode cX8_learn 19 = .ok (.istore 5, 2) := by decide +kernel
theorem dX8_learn_21 : decode cX8_learn 21 = .ok (.iload 5, 2) := by decide +kernel
theorem dX8_learn_23 : decode cX8_learn 23 = .ok (.bipush 15, 2) := by decide +kernel
theorem dX8_learn_25 : decode cX8_learn 25 = .ok (.if_icmp .gt 15, 3) := by decide +kernel
theorem dX8_learn_28 : decode cX8_learn 28 = .ok (.aload 4, 2) := by decide +kernel
theorem dX8_learn_30 : decode cX8_learn 30 = .ok (.iload 5, 2) := by decide +kernel
theorem dX8_learn_32 : decode cX8_learn 32 = .ok (.iconst 0, 1) := by decide +kernel
theorem dX8_learn_33 : decode cX8_learn 33 = .ok (.iastore, 1) := by decide +kernel
theorem dX8_learn_34 : decode cX8_learn 34 = .ok (.iinc 5 1, 3) := by decide +kernel
theorem dX8_learn_37 : decode cX8_learn 37 = .ok (.goto (-16), 3) := by decide +kernel
theorem dX8_learn_40 : decode cX8_learn 40 = .ok (.iconst 0, 1) := by decide +kernel
theorem dX8_learn_41 : decode cX8_learn 41 = .ok (.istore 5, 2) := by decide +kernel
theorem dX8_learn_43 : decode cX8_learn 43 = .ok (.iload 5, 2) := by decide +kernel
theorem dX8_learn_45 : decode cX8_learn 45 = .ok (.iconst 1, 1) := by decide +kernel
theorem dX8_learn_46 : decode cX8_learn 46 = .ok (.iload_n 1, 1) := by decide +kernel
theorem dX8_learn_47 : decode cX8_learn 47 = .ok (.ishl, 1) := by decide +kernel
theorem dX8_learn_48 : decode cX8_learn 48 = .ok (.if_icmp .ge 32, 3) := by decide +kernel
theorem dX8_learn_51 : decode cX8_learn 51 = .ok (.aload_n 2, 1) := by decide +kernel
theorem dX8_learn_52 : decode cX8_learn 52 = .ok (.iload_n 1, 1) := by decide +kernel
theorem dX8_learn_53 : decode cX8_learn 53 = .ok (.iload 5, 2) := by decide +kernel
theorem dX8_learn_55 : decode cX8_learn 55 = .ok (.iload_n 3, 1) := by decide +kernel
theorem dX8_learn_56 : decode cX8_learn 56 = .ok (.invokevirtual 20, 3) := by decide +kernel
theorem dX8_learn_59 : decode cX8_learn 59 = .ok (.ifCond .eq 15, 3) := by decide +kernel
theorem dX8_learn_62 : decode cX8_learn 62 = .ok (.aload 4, 2) := by decide +kernel
theorem dX8_learn_64 : decode cX8_learn 64 = .ok (.iload 5, 2) := by decide +kernel
theorem dX8_learn_66 : decode cX8_learn 66 = .ok (.invokestatic 26, 3) := by decide +kernel
theorem dX8_learn_69 : decode cX8_learn 69 = .ok (.dup2, 1) := by decide +kernel
theorem dX8_learn_70 : decode cX8_learn 70 = .ok (.iaload, 1) := by decide +kernel
theorem dX8_learn_71 : decode cX8_learn 71 = .ok (.iconst 1, 1) := by decide +kernel
theorem dX8_learn_72 : decode cX8_learn 72 = .ok (.iadd, 1) := by decide +kernel
theorem dX8_learn_73 : decode cX8_learn 73 = .ok (.iastore, 1) := by decide +kernel
theorem dX8_learn_74 : decode cX8_learn 74 = .ok (.iinc 5 1, 3) := by decide +kernel
theorem dX8_learn_77 : decode cX8_learn 77 = .ok (.goto (-34), 3) := by decide +kernel
theorem dX8_learn_80 : decode cX8_learn 80 = .ok (.aload_n 0, 1) := by decide +kernel
theorem dX8_learn_81 : decode cX8_learn 81 = .ok (.getfield 16, 3) := by decide +kernel
theorem dX8_learn_84 : decode cX8_learn 84 = .ok (.iload_n 1, 1) := by decide +kernel
theorem dX8_learn_85 : decode cX8_learn 85 = .ok (.iconst 1, 1) := by decide +kernel
theorem dX8_learn_86 : decode cX8_learn 86 = .ok (.bastore, 1) := by decide +kernel
theorem dX8_learn_87 : decode cX8_learn 87 = .ok (.return_, 1) := by decide +kernel
theorem dX9_sum_0 : decode cX9_sum 0 = .ok (.iconst 0, 1) := by decide +kernel
theorem dX9_sum_1 : decode cX9_sum 1 = .ok (.istore_n 1, 1) := by decide +kernel
theorem dX9_sum_2 : decode cX9_sum 2 = .ok (.aload_n 0, 1) := by decide +kernel
theorem dX9_sum_3 : decode cX9_sum 3 = .ok (.astore_n 2, 1) := by decide +kernel
theorem dX9_sum_4 : decode cX9_sum 4 = .ok (.aload_n 2, 1) := by decide +kernel
theorem dX9_sum_5 : decode cX9_sum 5 = .ok (.arraylength, 1) := by decide +kernel
theorem dX9_sum_6 : decode cX9_sum 6 = .ok (.istore_n 3, 1) := by decide +kernel
theorem dX9_sum_7 : decode cX9_sum 7 = .ok (.iconst 0, 1) := by decide +kernel
theorem dX9_sum_8 : decode cX9_sum 8 = .ok (.istore 4, 2) := by decide +kernel
theorem dX9_sum_10 : decode cX9_sum 10 = .ok (.iload 4, 2) := by decide +kernel
theorem dX9_sum_12 : decode cX9_sum 12 = .ok (.iload_n 3, 1) := by decide +kernel
theorem dX9_sum_13 : decode cX9_sum 13 = .ok (.if_icmp .ge 20, 3) := by decide +kernel
theorem dX9_sum_16 : decode cX9_sum 16 = .ok (.aload_n 2, 1) := by decide +kernel
theorem dX9_sum_17 : decode cX9_sum 17 = .ok (.iload 4, 2) := by decide +kernel
theorem dX9_sum_19 : decode cX9_sum 19 = .ok (.iaload, 1) := by decide +kernel
theorem dX9_sum_20 : decode cX9_sum 20 = .ok (.istore 5, 2) := by decide +kernel
theorem dX9_sum_22 : decode cX9_sum 22 = .ok (.iload_n 1, 1) := by decide +kernel
theorem dX9_sum_23 : decode cX9_sum 23 = .ok (.iload 5, 2) := by decide +kernel
theorem dX9_sum_25 : decode cX9_sum 25 = .ok (.iadd, 1) := by decide +kernel
theorem dX9_sum_26 : decode cX9_sum 26 = .ok (.istore_n 1, 1) := by decide +kernel
theorem dX9_sum_27 : decode cX9_sum 27 = .ok (.iinc 4 1, 3) := by decide +kernel
theorem dX9_sum_30 : decode cX9_sum 30 = .ok (.goto (-20), 3) := by decide +kernel
theorem dX9_sum_33 : decode cX9_sum 33 = .ok (.iload_n 1, 1) := by decide +kernel
theorem dX9_sum_34 : decode cX9_sum 34 = .ok (.ireturn, 1) := by decide +kernel
theorem dX9_sharePart_0 : decode cX9_sharePart 0 = .ok (.lconst 0, 1) := by decide +kernel
theorem dX9_sharePart_1 : decode cX9_sharePart 1 = .ok (.lstore 4, 2) := by decide +kernel
theorem dX9_sharePart_3 : decode cX9_sharePart 3 = .ok (.iconst 0, 1) := by decide +kernel
theorem dX9_sharePart_4 : decode cX9_sharePart 4 = .ok (.istore 6, 2) := by decide +kernel
theorem dX9_sharePart_6 : decode cX9_sharePart 6 = .ok (.iload 6, 2) := by decide +kernel
theorem dX9_sharePart_8 : decode cX9_sharePart 8 = .ok (.iload_n 1, 1) := by decide +kernel
theorem dX9_sharePart_9 : decode cX9_sharePart 9 = .ok (.if_icmp .gt 51, 3) := by decide +kernel
theorem dX9_sharePart_12 : decode cX9_sharePart 12 = .ok (.iload 6, 2) := by decide +kernel
theorem dX9_sharePart_14 : decode cX9_sharePart 14 = .ok (.aload_n 0, 1) := by decide +kernel
theorem dX9_sharePart_15 : decode cX9_sharePart 15 = .ok (.arraylength, 1) := by decide +kernel
theorem dX9_sharePart_16 : decode cX9_sharePart 16 = .ok (.if_icmp .ge 44, 3) := by decide +kernel
theorem dX9_sharePart_19 : decode cX9_sharePart 19 = .ok (.iload_n 2, 1) := by decide +kernel
theorem dX9_sharePart_20 : decode cX9_sharePart 20 = .ok (.i2l, 1) := by decide +kernel
theorem dX9_sharePart_21 : decode cX9_sharePart 21 = .ok (.iload 6, 2) := by decide +kernel
theorem dX9_sharePart_23 : decode cX9_sharePart 23 = .ok (.invokestatic 9, 3) := by decide +kernel
theorem dX9_sharePart_26 : decode cX9_sharePart 26 = .ok (.bipush 16, 2) := by decide +kernel
theorem dX9_sharePart_28 : decode cX9_sharePart 28 = .ok (.iload_n 2, 1) := by decide +kernel
theorem dX9_sharePart_29 : decode cX9_sharePart 29 = .ok (.isub, 1) := by decide +kernel
theorem dX9_sharePart_30 : decode cX9_sharePart 30 = .ok (.i2l, 1) := by decide +kernel
theorem dX9_sharePart_31 : decode cX9_sharePart 31 = .ok (.iload_n 1, 1) := by decide +kernel
theorem dX9_sharePart_32 : decode cX9_sharePart 32 = .ok (.iload 6, 2) := by decide +kernel
theorem dX9_sharePart_34 : decode cX9_sharePart 34 = .ok (.isub, 1) := by decide +kernel
theorem dX9_sharePart_35 : decode cX9_sharePart 35 = .ok (.invokestatic 9, 3) := by decide +kernel
theorem dX9_sharePart_38 : decode cX9_sharePart 38 = .ok (.lmul, 1) := by decide +kernel
theorem dX9_sharePart_39 : decode cX9_sharePart 39 = .ok (.lstore 7, 2) := by decide +kernel
theorem dX9_sharePart_41 : decode cX9_sharePart 41 = .ok (.lload 4, 2) := by decide +kernel
theorem dX9_sharePart_43 : decode cX9_sharePart 43 = .ok (.aload_n 0, 1) := by decide +kernel
theorem dX9_sharePart_44 : decode cX9_sharePart 44 = .ok (.iload 6, 2) := by decide +kernel
theorem dX9_sharePart_46 : decode cX9_sharePart 46 = .ok (.iaload, 1) := by decide +kernel
theorem dX9_sharePart_47 : decode cX9_sharePart 47 = .ok (.i2l, 1) := by decide +kernel
theorem dX9_sharePart_48 : decode cX9_sharePart 48 = .ok (.lload 7, 2) := by decide +kernel
theorem dX9_sharePart_50 : decode cX9_sharePart 50 = .ok (.lmul, 1) := by decide +kernel
theorem dX9_sharePart_51 : decode cX9_sharePart 51 = .ok (.ladd, 1) := by decide +kernel
theorem dX9_sharePart_52 : decode cX9_sharePart 52 = .ok (.lstore 4, 2) := by decide +kernel
theorem dX9_sharePart_54 : decode cX9_sharePart 54 = .ok (.iinc 6 1, 3) := by decide +kernel
theorem dX9_sharePart_57 : decode cX9_sharePart 57 = .ok (.goto (-51), 3) := by decide +kernel
theorem dX9_sharePart_60 : decode cX9_sharePart 60 = .ok (.lload 4, 2) := by decide +kernel
theorem dX9_sharePart_62 : decode cX9_sharePart 62 = .ok (.ldc2_w 15, 3) := by decide +kernel
theorem dX9_sharePart_65 : decode cX9_sharePart 65 = .ok (.iload_n 1, 1) := by decide +kernel
theorem dX9_sharePart_66 : decode cX9_sharePart 66 = .ok (.invokestatic 9, 3) := by decide +kernel
theorem dX9_sharePart_69 : decode cX9_sharePart 69 = .ok (.iload_n 3, 1) := by decide +kernel
theorem dX9_sharePart_70 : decode cX9_sharePart 70 = .ok (.invokestatic 17, 3) := by decide +kernel
theorem dX9_sharePart_73 : decode cX9_sharePart 73 = .ok (.lreturn, 1) := by decide +kernel
theorem dJ11_isValidCodePoint_9a6ad_0 : decode cJ11_isValidCodePoint_9a6ad 0 = .ok (.iload_n 0, 1) := by decide +kernel
theorem dJ11_isValidCodePoint_9a6ad_1 : decode cJ11_isValidCodePoint_9a6ad 1 = .ok (.bipush 16, 2) := by decide +kernel
theorem dJ11_isValidCodePoint_9a6ad_3 : decode cJ11_isValidCodePoint_9a6ad 3 = .ok (.iushr, 1) := by decide +kernel
theorem dJ11_isValidCodePoint_9a6ad_4 : decode cJ11_isValidCodePoint_9a6ad 4 = .ok (.istore_n 1, 1) := by decide +kernel
theorem dJ11_isValidCodePoint_9a6ad_5 : decode cJ11_isValidCodePoint_9a6ad 5 = .ok (.iload_n 1, 1) := by decide +kernel
theorem dJ11_isValidCodePoint_9a6ad_6 : decode cJ11_isValidCodePoint_9a6ad 6 = .ok (.bipush 17, 2) := by decide +kernel
theorem dJ11_isValidCodePoint_9a6ad_8 : decode cJ11_isValidCodePoint_9a6ad 8 = .ok (.if_icmp .ge 7, 3) := by decide +kernel
theorem dJ11_isValidCodePoint_9a6ad_11 : decode cJ11_isValidCodePoint_9a6ad 11 = .ok (.iconst 1, 1) := by decide +kernel
theorem dJ11_isValidCodePoint_9a6ad_12 : decode cJ11_isValidCodePoint_9a6ad 12 = .ok (.goto 4, 3) := by decide +kernel
theorem dJ11_isValidCodePoint_9a6ad_15 : decode cJ11_isValidCodePoint_9a6ad 15 = .ok (.iconst 0, 1) := by decide +kernel
theorem dJ11_isValidCodePoint_9a6ad_16 : decode cJ11_isValidCodePoint_9a6ad 16 = .ok (.ireturn, 1) := by decide +kernel
theorem dJ11_highSurrogate_5068e_0 : decode cJ11_highSurrogate_5068e 0 = .ok (.iload_n 0, 1) := by decide +kernel
theorem dJ11_highSurrogate_5068e_1 : decode cJ11_highSurrogate_5068e 1 = .ok (.bipush 10, 2) := by decide +kernel
theorem dJ11_highSurrogate_5068e_3 : decode cJ11_highSurrogate_5068e 3 = .ok (.iushr, 1) := by decide +kernel
theorem dJ11_highSurrogate_5068e_4 : decode cJ11_highSurrogate_5068e 4 = .ok (.ldc 110, 2) := by decide +kernel
theorem dJ11_highSurrogate_5068e_6 : decode cJ11_highSurrogate_5068e 6 = .ok (.iadd, 1) := by decide +kernel
theorem dJ11_highSurrogate_5068e_7 : decode cJ11_highSurrogate_5068e 7 = .ok (.i2c, 1) := by decide +kernel
theorem dJ11_highSurrogate_5068e_8 : decode cJ11_highSurrogate_5068e 8 = .ok (.ireturn, 1) := by decide +kernel
theorem dJ11_lowSurrogate_5068e_0 : decode cJ11_lowSurrogate_5068e 0 = .ok (.iload_n 0, 1) := by decide +kernel
theorem dJ11_lowSurrogate_5068e_1 : decode cJ11_lowSurrogate_5068e 1 = .ok (.sipush 1023, 3) := by decide +kernel
theorem dJ11_lowSurrogate_5068e_4 : decode cJ11_lowSurrogate_5068e 4 = .ok (.iand, 1) := by decide +kernel
theorem dJ11_lowSurrogate_5068e_5 : decode cJ11_lowSurrogate_5068e 5 = .ok (.ldc 76, 2) := by decide +kernel
theorem dJ11_lowSurrogate_5068e_7 : decode cJ11_lowSurrogate_5068e 7 = .ok (.iadd, 1) := by decide +kernel
theorem dJ11_lowSurrogate_5068e_8 : decode cJ11_lowSurrogate_5068e 8 = .ok (.i2c, 1) := by decide +kernel
theorem dJ11_lowSurrogate_5068e_9 : decode cJ11_lowSurrogate_5068e 9 = .ok (.ireturn, 1) := by decide +kernel
theorem dJ6_bitCount_0f7a4_0 : decode cJ6_bitCount_0f7a4 0 = .ok (.iload_n 0, 1) := by decide +kernel
theorem dJ6_bitCount_0f7a4_1 : decode cJ6_bitCount_0f7a4 1 = .ok (.iload_n 0, 1) := by decide +kernel
theorem dJ6_bitCount_0f7a4_2 : decode cJ6_bitCount_0f7a4 2 = .ok (.iconst 1, 1) := by decide +kernel
theorem dJ6_bitCount_0f7a4_3 : decode cJ6_bitCount_0f7a4 3 = .ok (.iushr, 1) := by decide +kernel
theorem dJ6_bitCount_0f7a4_4 : decode cJ6_bitCount_0f7a4 4 = .ok (.ldc_w 265, 3) := by decide +kernel
theorem dJ6_bitCount_0f7a4_7 : decode cJ6_bitCount_0f7a4 7 = .ok (.iand, 1) := by decide +kernel
theorem dJ6_bitCount_0f7a4_8 : decode cJ6_bitCount_0f7a4 8 = .ok (.isub, 1) := by decide +kernel
theorem dJ6_bitCount_0f7a4_9 : decode cJ6_bitCount_0f7a4 9 = .ok (.istore_n 0, 1) := by decide +kernel
theorem dJ6_bitCount_0f7a4_10 : decode cJ6_bitCount_0f7a4 10 = .ok (.iload_n 0, 1) := by decide +kernel
theorem dJ6_bitCount_0f7a4_11 : decode cJ6_bitCount_0f7a4 11 = .ok (.ldc_w 266, 3) := by decide +kernel
theorem dJ6_bitCount_0f7a4_14 : decode cJ6_bitCount_0f7a4 14 = .ok (.iand, 1) := by decide +kernel
theorem dJ6_bitCount_0f7a4_15 : decode cJ6_bitCount_0f7a4 15 = .ok (.iload_n 0, 1) := by decide +kernel
theorem dJ6_bitCount_0f7a4_16 : decode cJ6_bitCount_0f7a4 16 = .ok (.iconst 2, 1) := by decide +kernel
theorem dJ6_bitCount_0f7a4_17 : decode cJ6_bitCount_0f7a4 17 = .ok (.iushr, 1) := by decide +kernel
theorem dJ6_bitCount_0f7a4_18 : decode cJ6_bitCount_0f7a4 18 = .ok (.ldc_w 266, 3) := by decide +kernel
theorem dJ6_bitCount_0f7a4_21 : decode cJ6_bitCount_0f7a4 21 = .ok (.iand, 1) := by decide +kernel
theorem dJ6_bitCount_0f7a4_22 : decode cJ6_bitCount_0f7a4 22 = .ok (.iadd, 1) := by decide +kernel
theorem dJ6_bitCount_0f7a4_23 : decode cJ6_bitCount_0f7a4 23 = .ok (.istore_n 0, 1) := by decide +kernel
theorem dJ6_bitCount_0f7a4_24 : decode cJ6_bitCount_0f7a4 24 = .ok (.iload_n 0, 1) := by decide +kernel
theorem dJ6_bitCount_0f7a4_25 : decode cJ6_bitCount_0f7a4 25 = .ok (.iload_n 0, 1) := by decide +kernel
theorem dJ6_bitCount_0f7a4_26 : decode cJ6_bitCount_0f7a4 26 = .ok (.iconst 4, 1) := by decide +kernel
theorem dJ6_bitCount_0f7a4_27 : decode cJ6_bitCount_0f7a4 27 = .ok (.iushr, 1) := by decide +kernel
theorem dJ6_bitCount_0f7a4_28 : decode cJ6_bitCount_0f7a4 28 = .ok (.iadd, 1) := by decide +kernel
theorem dJ6_bitCount_0f7a4_29 : decode cJ6_bitCount_0f7a4 29 = .ok (.ldc_w 267, 3) := by decide +kernel
theorem dJ6_bitCount_0f7a4_32 : decode cJ6_bitCount_0f7a4 32 = .ok (.iand, 1) := by decide +kernel
theorem dJ6_bitCount_0f7a4_33 : decode cJ6_bitCount_0f7a4 33 = .ok (.istore_n 0, 1) := by decide +kernel
theorem dJ6_bitCount_0f7a4_34 : decode cJ6_bitCount_0f7a4 34 = .ok (.iload_n 0, 1) := by decide +kernel
theorem dJ6_bitCount_0f7a4_35 : decode cJ6_bitCount_0f7a4 35 = .ok (.iload_n 0, 1) := by decide +kernel
theorem dJ6_bitCount_0f7a4_36 : decode cJ6_bitCount_0f7a4 36 = .ok (.bipush 8, 2) := by decide +kernel
theorem dJ6_bitCount_0f7a4_38 : decode cJ6_bitCount_0f7a4 38 = .ok (.iushr, 1) := by decide +kernel
theorem dJ6_bitCount_0f7a4_39 : decode cJ6_bitCount_0f7a4 39 = .ok (.iadd, 1) := by decide +kernel
theorem dJ6_bitCount_0f7a4_40 : decode cJ6_bitCount_0f7a4 40 = .ok (.istore_n 0, 1) := by decide +kernel
theorem dJ6_bitCount_0f7a4_41 : decode cJ6_bitCount_0f7a4 41 = .ok (.iload_n 0, 1) := by decide +kernel
theorem dJ6_bitCount_0f7a4_42 : decode cJ6_bitCount_0f7a4 42 = .ok (.iload_n 0, 1) := by decide +kernel
theorem dJ6_bitCount_0f7a4_43 : decode cJ6_bitCount_0f7a4 43 = .ok (.bipush 16, 2) := by decide +kernel
theorem dJ6_bitCount_0f7a4_45 : decode cJ6_bitCount_0f7a4 45 = .ok (.iushr, 1) := by decide +kernel
theorem dJ6_bitCount_0f7a4_46 : decode cJ6_bitCount_0f7a4 46 = .ok (.iadd, 1) := by decide +kernel
theorem dJ6_bitCount_0f7a4_47 : decode cJ6_bitCount_0f7a4 47 = .ok (.istore_n 0, 1) := by decide +kernel
theorem dJ6_bitCount_0f7a4_48 : decode cJ6_bitCount_0f7a4 48 = .ok (.iload_n 0, 1) := by decide +kernel
theorem dJ6_bitCount_0f7a4_49 : decode cJ6_bitCount_0f7a4 49 = .ok (.bipush 63, 2) := by decide +kernel
theorem dJ6_bitCount_0f7a4_51 : decode cJ6_bitCount_0f7a4 51 = .ok (.iand, 1) := by decide +kernel
theorem dJ6_bitCount_0f7a4_52 : decode cJ6_bitCount_0f7a4 52 = .ok (.ireturn, 1) := by decide +kernel
theorem dJ9_max_7cf53_0 : decode cJ9_max_7cf53 0 = .ok (.iload_n 0, 1) := by decide +kernel
theorem dJ9_max_7cf53_1 : decode cJ9_max_7cf53 1 = .ok (.iload_n 1, 1) := by decide +kernel
theorem dJ9_max_7cf53_2 : decode cJ9_max_7cf53 2 = .ok (.if_icmp .lt 7, 3) := by decide +kernel
theorem dJ9_max_7cf53_5 : decode cJ9_max_7cf53 5 = .ok (.iload_n 0, 1) := by decide +kernel
theorem dJ9_max_7cf53_6 : decode cJ9_max_7cf53 6 = .ok (.goto 4, 3) := by decide +kernel
theorem dJ9_max_7cf53_9 : decode cJ9_max_7cf53 9 = .ok (.iload_n 1, 1) := by decide +kernel
theorem dJ9_max_7cf53_10 : decode cJ9_max_7cf53 10 = .ok (.ireturn, 1) := by decide +kernel
theorem dJ9_min_7cf53_0 : decode cJ9_min_7cf53 0 = .ok (.iload_n 0, 1) := by decide +kernel
theorem dJ9_min_7cf53_1 : decode cJ9_min_7cf53 1 = .ok (.iload_n 1, 1) := by decide +kernel
theorem dJ9_min_7cf53_2 : decode cJ9_min_7cf53 2 = .ok (.if_icmp .gt 7, 3) := by decide +kernel
theorem dJ9_min_7cf53_5 : decode cJ9_min_7cf53 5 = .ok (.iload_n 0, 1) := by decide +kernel
theorem dJ9_min_7cf53_6 : decode cJ9_min_7cf53 6 = .ok (.goto 4, 3) := by decide +kernel
theorem dJ9_min_7cf53_9 : decode cJ9_min_7cf53 9 = .ok (.iload_n 1, 1) := by decide +kernel
theorem dJ9_min_7cf53_10 : decode cJ9_min_7cf53 10 = .ok (.ireturn, 1) := by decide +kernel
theorem dJ0_length_8abf5_0 : decode cJ0_length_8abf5 0 = .ok (.aload_n 0, 1) := by decide +kernel
theorem dJ0_length_8abf5_1 : decode cJ0_length_8abf5 1 = .ok (.getfield 9, 3) := by decide +kernel
theorem dJ0_length_8abf5_4 : decode cJ0_length_8abf5 4 = .ok (.arraylength, 1) := by decide +kernel
theorem dJ0_length_8abf5_5 : decode cJ0_length_8abf5 5 = .ok (.aload_n 0, 1) := by decide +kernel
theorem dJ0_length_8abf5_6 : decode cJ0_length_8abf5 6 = .ok (.invokevirtual 335, 3) := by decide +kernel
theorem dJ0_length_8abf5_9 : decode cJ0_length_8abf5 9 = .ok (.ishr, 1) := by decide +kernel
theorem dJ0_length_8abf5_10 : decode cJ0_length_8abf5 10 = .ok (.ireturn, 1) := by decide +kernel
theorem dJ0_indexOf_0f7a4_0 : decode cJ0_indexOf_0f7a4 0 = .ok (.aload_n 0, 1) := by decide +kernel
theorem dJ0_indexOf_0f7a4_1 : decode cJ0_indexOf_0f7a4 1 = .ok (.iload_n 1, 1) := by decide +kernel
theorem dJ0_indexOf_0f7a4_2 : decode cJ0_indexOf_0f7a4 2 = .ok (.iconst 0, 1) := by decide +kernel
theorem dJ0_indexOf_0f7a4_3 : decode cJ0_indexOf_0f7a4 3 = .ok (.invokevirtual 633, 3) := by decide +kernel
theorem dJ0_indexOf_0f7a4_6 : decode cJ0_indexOf_0f7a4 6 = .ok (.ireturn, 1) := by decide +kernel
theorem dJ0_indexOf_7cf53_0 : decode cJ0_indexOf_7cf53 0 = .ok (.aload_n 0, 1) := by decide +kernel
theorem dJ0_indexOf_7cf53_1 : decode cJ0_indexOf_7cf53 1 = .ok (.invokevirtual 492, 3) := by decide +kernel
theorem dJ0_indexOf_7cf53_4 : decode cJ0_indexOf_7cf53 4 = .ok (.ifCond .eq 19, 3) := by decide +kernel
theorem dJ0_indexOf_7cf53_7 : decode cJ0_indexOf_7cf53 7 = .ok (.aload_n 0, 1) := by decide +kernel
theorem dJ0_indexOf_7cf53_8 : decode cJ0_indexOf_7cf53 8 = .ok (.getfield 9, 3) := by decide +kernel
theorem dJ0_indexOf_7cf53_11 : decode cJ0_indexOf_7cf53 11 = .ok (.iload_n 1, 1) := by decide +kernel
theorem dJ0_indexOf_7cf53_12 : decode cJ0_indexOf_7cf53 12 = .ok (.iload_n 2, 1) := by decide +kernel
theorem dJ0_indexOf_7cf53_13 : decode cJ0_indexOf_7cf53 13 = .ok (.aload_n 0, 1) := by decide +kernel
theorem dJ0_indexOf_7cf53_14 : decode cJ0_indexOf_7cf53 14 = .ok (.invokevirtual 505, 3) := by decide +kernel
theorem dJ0_indexOf_7cf53_17 : decode cJ0_indexOf_7cf53 17 = .ok (.invokestatic 637, 3) := by decide +kernel
theorem dJ0_indexOf_7cf53_20 : decode cJ0_indexOf_7cf53 20 = .ok (.goto 16, 3) := by decide +kernel
theorem dJ0_indexOf_7cf53_23 : decode cJ0_indexOf_7cf53 23 = .ok (.aload_n 0, 1) := by decide +kernel
theorem dJ0_indexOf_7cf53_24 : decode cJ0_indexOf_7cf53 24 = .ok (.getfield 9, 3) := by decide +kernel
theorem dJ0_indexOf_7cf53_27 : decode cJ0_indexOf_7cf53 27 = .ok (.iload_n 1, 1) := by decide +kernel
theorem dJ0_indexOf_7cf53_28 : decode cJ0_indexOf_7cf53 28 = .ok (.iload_n 2, 1) := by decide +kernel
theorem dJ0_indexOf_7cf53_29 : decode cJ0_indexOf_7cf53 29 = .ok (.aload_n 0, 1) := by decide +kernel
theorem dJ0_indexOf_7cf53_30 : decode cJ0_indexOf_7cf53 30 = .ok (.invokevirtual 505, 3) := by decide +kernel
theorem dJ0_indexOf_7cf53_33 : decode cJ0_indexOf_7cf53 33 = .ok (.invokestatic 640, 3) := by decide +kernel
theorem dJ0_indexOf_7cf53_36 : decode cJ0_indexOf_7cf53 36 = .ok (.ireturn, 1) := by decide +kernel
theorem dJ0_coder_7d493_0 : decode cJ0_coder_7d493 0 = .ok (.getstatic 38, 3) := by decide +kernel
theorem dJ0_coder_7d493_3 : decode cJ0_coder_7d493 3 = .ok (.ifCond .eq 10, 3) := by decide +kernel
theorem dJ0_coder_7d493_6 : decode cJ0_coder_7d493 6 = .ok (.aload_n 0, 1) := by decide +kernel
theorem dJ0_coder_7d493_7 : decode cJ0_coder_7d493 7 = .ok (.getfield 15, 3) := by decide +kernel
theorem dJ0_coder_7d493_10 : decode cJ0_coder_7d493 10 = .ok (.goto 4, 3) := by decide +kernel
theorem dJ0_coder_7d493_13 : decode cJ0_coder_7d493 13 = .ok (.iconst 1, 1) := by decide +kernel
theorem dJ0_coder_7d493_14 : decode cJ0_coder_7d493 14 = .ok (.ireturn, 1) := by decide +kernel
theorem dJ0_isLatin1_aae02_0 : decode cJ0_isLatin1_aae02 0 = .ok (.getstatic 38, 3) := by decide +kernel
theorem dJ0_isLatin1_aae02_3 : decode cJ0_isLatin1_aae02 3 = .ok (.ifCond .eq 14, 3) := by decide +kernel
theorem dJ0_isLatin1_aae02_6 : decode cJ0_isLatin1_aae02 6 = .ok (.aload_n 0, 1) := by decide +kernel
theorem dJ0_isLatin1_aae02_7 : decode cJ0_isLatin1_aae02 7 = .ok (.getfield 15, 3) := by decide +kernel
theorem dJ0_isLatin1_aae02_10 : decode cJ0_isLatin1_aae02 10 = .ok (.ifCond .ne 7, 3) := by decide +kernel
theorem dJ0_isLatin1_aae02_13 : decode cJ0_isLatin1_aae02 13 = .ok (.iconst 1, 1) := by decide +kernel
theorem dJ0_isLatin1_aae02_14 : decode cJ0_isLatin1_aae02 14 = .ok (.goto 4, 3) := by decide +kernel
theorem dJ0_isLatin1_aae02_17 : decode cJ0_isLatin1_aae02 17 = .ok (.iconst 0, 1) := by decide +kernel
theorem dJ0_isLatin1_aae02_18 : decode cJ0_isLatin1_aae02 18 = .ok (.ireturn, 1) := by decide +kernel
theorem dJ0_checkBoundsBeginEnd_23922_0 : decode cJ0_checkBoundsBeginEnd_23922 0 = .ok (.iload_n 0, 1) := by decide +kernel
theorem dJ0_checkBoundsBeginEnd_23922_1 : decode cJ0_checkBoundsBeginEnd_23922 1 = .ok (.iload_n 1, 1) := by decide +kernel
theorem dJ0_checkBoundsBeginEnd_23922_2 : decode cJ0_checkBoundsBeginEnd_23922 2 = .ok (.iload_n 2, 1) := by decide +kernel
theorem dJ0_checkBoundsBeginEnd_23922_3 : decode cJ0_checkBoundsBeginEnd_23922 3 = .ok (.getstatic 1053, 3) := by decide +kernel
theorem dJ0_checkBoundsBeginEnd_23922_6 : decode cJ0_checkBoundsBeginEnd_23922 6 = .ok (.invokestatic 1062, 3) := by decide +kernel
theorem dJ0_checkBoundsBeginEnd_23922_9 : decode cJ0_checkBoundsBeginEnd_23922 9 = .ok (.pop, 1) := by decide +kernel
theorem dJ0_checkBoundsBeginEnd_23922_10 : decode cJ0_checkBoundsBeginEnd_23922 10 = .ok (.return_, 1) := by decide +kernel
theorem dJ1_canEncode_9a6ad_0 : decode cJ1_canEncode_9a6ad 0 = .ok (.iload_n 0, 1) := by decide +kernel
theorem dJ1_canEncode_9a6ad_1 : decode cJ1_canEncode_9a6ad 1 = .ok (.ifCond .lt 14, 3) := by decide +kernel
theorem dJ1_canEncode_9a6ad_4 : decode cJ1_canEncode_9a6ad 4 = .ok (.iload_n 0, 1) := by decide +kernel
theorem dJ1_canEncode_9a6ad_5 : decode cJ1_canEncode_9a6ad 5 = .ok (.sipush 255, 3) := by decide +kernel
theorem dJ1_canEncode_9a6ad_8 : decode cJ1_canEncode_9a6ad 8 = .ok (.if_icmp .gt 7, 3) := by decide +kernel
theorem dJ1_canEncode_9a6ad_11 : decode cJ1_canEncode_9a6ad 11 = .ok (.iconst 1, 1) := by decide +kernel
theorem dJ1_canEncode_9a6ad_12 : decode cJ1_canEncode_9a6ad 12 = .ok (.goto 4, 3) := by decide +kernel
theorem dJ1_canEncode_9a6ad_15 : decode cJ1_canEncode_9a6ad 15 = .ok (.iconst 0, 1) := by decide +kernel
theorem dJ1_canEncode_9a6ad_16 : decode cJ1_canEncode_9a6ad 16 = .ok (.ireturn, 1) := by decide +kernel
theorem dJ1_indexOf_4cfef_0 : decode cJ1_indexOf_4cfef 0 = .ok (.iload_n 1, 1) := by decide +kernel
theorem dJ1_indexOf_4cfef_1 : decode cJ1_indexOf_4cfef 1 = .ok (.invokestatic 88, 3) := by decide +kernel
theorem dJ1_indexOf_4cfef_4 : decode cJ1_indexOf_4cfef 4 = .ok (.ifCond .ne 5, 3) := by decide +kernel
theorem dJ1_indexOf_4cfef_7 : decode cJ1_indexOf_4cfef 7 = .ok (.iconst (-1), 1) := by decide +kernel
theorem dJ1_indexOf_4cfef_8 : decode cJ1_indexOf_4cfef 8 = .ok (.ireturn, 1) := by decide +kernel
theorem dJ1_indexOf_4cfef_9 : decode cJ1_indexOf_4cfef 9 = .ok (.iload_n 2, 1) := by decide +kernel
theorem dJ1_indexOf_4cfef_10 : decode cJ1_indexOf_4cfef 10 = .ok (.iconst 0, 1) := by decide +kernel
theorem dJ1_indexOf_4cfef_11 : decode cJ1_indexOf_4cfef 11 = .ok (.invokestatic 92, 3) := by decide +kernel
theorem dJ1_indexOf_4cfef_14 : decode cJ1_indexOf_4cfef 14 = .ok (.istore_n 2, 1) := by decide +kernel
theorem dJ1_indexOf_4cfef_15 : decode cJ1_indexOf_4cfef 15 = .ok (.iload_n 3, 1) := by decide +kernel
theorem dJ1_indexOf_4cfef_16 : decode cJ1_indexOf_4cfef 16 = .ok (.aload_n 0, 1) := by decide +kernel
theorem dJ1_indexOf_4cfef_17 : decode cJ1_indexOf_4cfef 17 = .ok (.arraylength, 1) := by decide +kernel
theorem dJ1_indexOf_4cfef_18 : decode cJ1_indexOf_4cfef 18 = .ok (.invokestatic 38, 3) := by decide +kernel
theorem dJ1_indexOf_4cfef_21 : decode cJ1_indexOf_4cfef 21 = .ok (.istore_n 3, 1) := by decide +kernel
theorem dJ1_indexOf_4cfef_22 : decode cJ1_indexOf_4cfef 22 = .ok (.iload_n 2, 1) := by decide +kernel
theorem dJ1_indexOf_4cfef_23 : decode cJ1_indexOf_4cfef 23 = .ok (.iload_n 3, 1) := by decide +kernel
theorem dJ1_indexOf_4cfef_24 : decode cJ1_indexOf_4cfef 24 = .ok (.if_icmp .lt 5, 3) := by decide +kernel
theorem dJ1_indexOf_4cfef_27 : decode cJ1_indexOf_4cfef 27 = .ok (.iconst (-1), 1) := by decide +kernel
theorem dJ1_indexOf_4cfef_28 : decode cJ1_indexOf_4cfef 28 = .ok (.ireturn, 1) := by decide +kernel
theorem dJ1_indexOf_4cfef_29 : decode cJ1_indexOf_4cfef 29 = .ok (.aload_n 0, 1) := by decide +kernel
theorem dJ1_indexOf_4cfef_30 : decode cJ1_indexOf_4cfef 30 = .ok (.iload_n 1, 1) := by decide +kernel
theorem dJ1_indexOf_4cfef_31 : decode cJ1_indexOf_4cfef 31 = .ok (.iload_n 2, 1) := by decide +kernel
theorem dJ1_indexOf_4cfef_32 : decode cJ1_indexOf_4cfef 32 = .ok (.iload_n 3, 1) := by decide +kernel
theorem dJ1_indexOf_4cfef_33 : decode cJ1_indexOf_4cfef 33 = .ok (.invokestatic 95, 3) := by decide +kernel
theorem dJ1_indexOf_4cfef_36 : decode cJ1_indexOf_4cfef 36 = .ok (.ireturn, 1) := by decide +kernel
theorem dJ1_indexOfChar_4cfef_0 : decode cJ1_indexOfChar_4cfef 0 = .ok (.iload_n 1, 1) := by decide +kernel
theorem dJ1_indexOfChar_4cfef_1 : decode cJ1_indexOfChar_4cfef 1 = .ok (.i2b, 1) := by decide +kernel
theorem dJ1_indexOfChar_4cfef_2 : decode cJ1_indexOfChar_4cfef 2 = .ok (.istore 4, 2) := by decide +kernel
theorem dJ1_indexOfChar_4cfef_4 : decode cJ1_indexOfChar_4cfef 4 = .ok (.iload_n 2, 1) := by decide +kernel
theorem dJ1_indexOfChar_4cfef_5 : decode cJ1_indexOfChar_4cfef 5 = .ok (.istore 5, 2) := by decide +kernel
theorem dJ1_indexOfChar_4cfef_7 : decode cJ1_indexOfChar_4cfef 7 = .ok (.iload 5, 2) := by decide +kernel
theorem dJ1_indexOfChar_4cfef_9 : decode cJ1_indexOfChar_4cfef 9 = .ok (.iload_n 3, 1) := by decide +kernel
theorem dJ1_indexOfChar_4cfef_10 : decode cJ1_indexOfChar_4cfef 10 = .ok (.if_icmp .ge 21, 3) := by decide +kernel
theorem dJ1_indexOfChar_4cfef_13 : decode cJ1_indexOfChar_4cfef 13 = .ok (.aload_n 0, 1) := by decide +kernel
theorem dJ1_indexOfChar_4cfef_14 : decode cJ1_indexOfChar_4cfef 14 = .ok (.iload 5, 2) := by decide +kernel
theorem dJ1_indexOfChar_4cfef_16 : decode cJ1_indexOfChar_4cfef 16 = .ok (.baload, 1) := by decide +kernel
theorem dJ1_indexOfChar_4cfef_17 : decode cJ1_indexOfChar_4cfef 17 = .ok (.iload 4, 2) := by decide +kernel
theorem dJ1_indexOfChar_4cfef_19 : decode cJ1_indexOfChar_4cfef 19 = .ok (.if_icmp .ne 6, 3) := by decide +kernel
theorem dJ1_indexOfChar_4cfef_22 : decode cJ1_indexOfChar_4cfef 22 = .ok (.iload 5, 2) := by decide +kernel
theorem dJ1_indexOfChar_4cfef_24 : decode cJ1_indexOfChar_4cfef 24 = .ok (.ireturn, 1) := by decide +kernel
theorem dJ1_indexOfChar_4cfef_25 : decode cJ1_indexOfChar_4cfef 25 = .ok (.iinc 5 1, 3) := by decide +kernel
theorem dJ1_indexOfChar_4cfef_28 : decode cJ1_indexOfChar_4cfef 28 = .ok (.goto (-21), 3) := by decide +kernel
theorem dJ1_indexOfChar_4cfef_31 : decode cJ1_indexOfChar_4cfef 31 = .ok (.iconst (-1), 1) := by decide +kernel
theorem dJ1_indexOfChar_4cfef_32 : decode cJ1_indexOfChar_4cfef 32 = .ok (.ireturn, 1) := by decide +kernel
theorem dJ2_getChar_3b067_0 : decode cJ2_getChar_3b067 0 = .ok (.getstatic 44, 3) := by decide +kernel
theorem dJ2_getChar_3b067_3 : decode cJ2_getChar_3b067 3 = .ok (.ifCond .ne 25, 3) := by decide +kernel
theorem dJ2_getChar_3b067_6 : decode cJ2_getChar_3b067 6 = .ok (.iload_n 1, 1) := by decide +kernel
theorem dJ2_getChar_3b067_7 : decode cJ2_getChar_3b067 7 = .ok (.ifCond .lt 11, 3) := by decide +kernel
theorem dJ2_getChar_3b067_10 : decode cJ2_getChar_3b067 10 = .ok (.iload_n 1, 1) := by decide +kernel
theorem dJ2_getChar_3b067_11 : decode cJ2_getChar_3b067 11 = .ok (.aload_n 0, 1) := by decide +kernel
theorem dJ2_getChar_3b067_12 : decode cJ2_getChar_3b067 12 = .ok (.invokestatic 48, 3) := by decide +kernel
theorem dJ2_getChar_3b067_15 : decode cJ2_getChar_3b067 15 = .ok (.if_icmp .lt 13, 3) := by decide +kernel
theorem dJ2_getChar_3b067_18 : decode cJ2_getChar_3b067 18 = .ok (.new 52, 3) := by decide +kernel
theorem dJ2_getChar_3b067_21 : decode cJ2_getChar_3b067 21 = .ok (.dup, 1) := by decide +kernel
theorem dJ2_getChar_3b067_22 : decode cJ2_getChar_3b067 22 = .ok (.ldc 54, 2) := by decide +kernel
theorem dJ2_getChar_3b067_24 : decode cJ2_getChar_3b067 24 = .ok (.invokespecial 56, 3) := by decide +kernel
theorem dJ2_getChar_3b067_27 : decode cJ2_getChar_3b067 27 = .ok (.athrow, 1) := by decide +kernel
theorem dJ2_getChar_3b067_28 : decode cJ2_getChar_3b067 28 = .ok (.iload_n 1, 1) := by decide +kernel
theorem dJ2_getChar_3b067_29 : decode cJ2_getChar_3b067 29 = .ok (.iconst 1, 1) := by decide +kernel
theorem dJ2_getChar_3b067_30 : decode cJ2_getChar_3b067 30 = .ok (.ishl, 1) := by decide +kernel
theorem dJ2_getChar_3b067_31 : decode cJ2_getChar_3b067 31 = .ok (.istore_n 1, 1) := by decide +kernel
theorem dJ2_getChar_3b067_32 : decode cJ2_getChar_3b067 32 = .ok (.aload_n 0, 1) := by decide +kernel
theorem dJ2_getChar_3b067_33 : decode cJ2_getChar_3b067 33 = .ok (.iload_n 1, 1) := by decide +kernel
theorem dJ2_getChar_3b067_34 : decode cJ2_getChar_3b067 34 = .ok (.iinc 1 1, 3) := by decide +kernel
theorem dJ2_getChar_3b067_37 : decode cJ2_getChar_3b067 37 = .ok (.baload, 1) := by decide +kernel
theorem dJ2_getChar_3b067_38 : decode cJ2_getChar_3b067 38 = .ok (.sipush 255, 3) := by decide +kernel
theorem dJ2_getChar_3b067_41 : decode cJ2_getChar_3b067 41 = .ok (.iand, 1) := by decide +kernel
theorem dJ2_getChar_3b067_42 : decode cJ2_getChar_3b067 42 = .ok (.getstatic 59, 3) := by decide +kernel
theorem dJ2_getChar_3b067_45 : decode cJ2_getChar_3b067 45 = .ok (.ishl, 1) := by decide +kernel
theorem dJ2_getChar_3b067_46 : decode cJ2_getChar_3b067 46 = .ok (.aload_n 0, 1) := by decide +kernel
theorem dJ2_getChar_3b067_47 : decode cJ2_getChar_3b067 47 = .ok (.iload_n 1, 1) := by decide +kernel
theorem dJ2_getChar_3b067_48 : decode cJ2_getChar_3b067 48 = .ok (.baload, 1) := by decide +kernel
theorem dJ2_getChar_3b067_49 : decode cJ2_getChar_3b067 49 = .ok (.sipush 255, 3) := by decide +kernel
theorem dJ2_getChar_3b067_52 : decode cJ2_getChar_3b067 52 = .ok (.iand, 1) := by decide +kernel
theorem dJ2_getChar_3b067_53 : decode cJ2_getChar_3b067 53 = .ok (.getstatic 63, 3) := by decide +kernel
theorem dJ2_getChar_3b067_56 : decode cJ2_getChar_3b067 56 = .ok (.ishl, 1) := by decide +kernel
theorem dJ2_getChar_3b067_57 : decode cJ2_getChar_3b067 57 = .ok (.ior, 1) := by decide +kernel
theorem dJ2_getChar_3b067_58 : decode cJ2_getChar_3b067 58 = .ok (.i2c, 1) := by decide +kernel
theorem dJ2_getChar_3b067_59 : decode cJ2_getChar_3b067 59 = .ok (.ireturn, 1) := by decide +kernel
theorem dJ2_length_9d52b_0 : decode cJ2_length_9d52b 0 = .ok (.aload_n 0, 1) := by decide +kernel
theorem dJ2_length_9d52b_1 : decode cJ2_length_9d52b 1 = .ok (.arraylength, 1) := by decide +kernel
theorem dJ2_length_9d52b_2 : decode cJ2_length_9d52b 2 = .ok (.iconst 1, 1) := by decide +kernel
theorem dJ2_length_9d52b_3 : decode cJ2_length_9d52b 3 = .ok (.ishr, 1) := by decide +kernel
theorem dJ2_length_9d52b_4 : decode cJ2_length_9d52b 4 = .ok (.ireturn, 1) := by decide +kernel
theorem dJ2_indexOf_4cfef_0 : decode cJ2_indexOf_4cfef 0 = .ok (.iload_n 2, 1) := by decide +kernel
theorem dJ2_indexOf_4cfef_1 : decode cJ2_indexOf_4cfef 1 = .ok (.iconst 0, 1) := by decide +kernel
theorem dJ2_indexOf_4cfef_2 : decode cJ2_indexOf_4cfef 2 = .ok (.invokestatic 224, 3) := by decide +kernel
theorem dJ2_indexOf_4cfef_5 : decode cJ2_indexOf_4cfef 5 = .ok (.istore_n 2, 1) := by decide +kernel
theorem dJ2_indexOf_4cfef_6 : decode cJ2_indexOf_4cfef 6 = .ok (.iload_n 3, 1) := by decide +kernel
theorem dJ2_indexOf_4cfef_7 : decode cJ2_indexOf_4cfef 7 = .ok (.aload_n 0, 1) := by decide +kernel
theorem dJ2_indexOf_4cfef_8 : decode cJ2_indexOf_4cfef 8 = .ok (.arraylength, 1) := by decide +kernel
theorem dJ2_indexOf_4cfef_9 : decode cJ2_indexOf_4cfef 9 = .ok (.iconst 1, 1) := by decide +kernel
theorem dJ2_indexOf_4cfef_10 : decode cJ2_indexOf_4cfef 10 = .ok (.ishr, 1) := by decide +kernel
theorem dJ2_indexOf_4cfef_11 : decode cJ2_indexOf_4cfef 11 = .ok (.invokestatic 183, 3) := by decide +kernel
theorem dJ2_indexOf_4cfef_14 : decode cJ2_indexOf_4cfef 14 = .ok (.istore_n 3, 1) := by decide +kernel
theorem dJ2_indexOf_4cfef_15 : decode cJ2_indexOf_4cfef 15 = .ok (.iload_n 2, 1) := by decide +kernel
theorem dJ2_indexOf_4cfef_16 : decode cJ2_indexOf_4cfef 16 = .ok (.iload_n 3, 1) := by decide +kernel
theorem dJ2_indexOf_4cfef_17 : decode cJ2_indexOf_4cfef 17 = .ok (.if_icmp .lt 5, 3) := by decide +kernel
theorem dJ2_indexOf_4cfef_20 : decode cJ2_indexOf_4cfef 20 = .ok (.iconst (-1), 1) := by decide +kernel
theorem dJ2_indexOf_4cfef_21 : decode cJ2_indexOf_4cfef 21 = .ok (.ireturn, 1) := by decide +kernel
theorem dJ2_indexOf_4cfef_22 : decode cJ2_indexOf_4cfef 22 = .ok (.iload_n 1, 1) := by decide +kernel
theorem dJ2_indexOf_4cfef_23 : decode cJ2_indexOf_4cfef 23 = .ok (.ldc 227, 2) := by decide +kernel
theorem dJ2_indexOf_4cfef_25 : decode cJ2_indexOf_4cfef 25 = .ok (.if_icmp .ge 11, 3) := by decide +kernel
theorem dJ2_indexOf_4cfef_28 : decode cJ2_indexOf_4cfef 28 = .ok (.aload_n 0, 1) := by decide +kernel
theorem dJ2_indexOf_4cfef_29 : decode cJ2_indexOf_4cfef 29 = .ok (.iload_n 1, 1) := by decide +kernel
theorem dJ2_indexOf_4cfef_30 : decode cJ2_indexOf_4cfef 30 = .ok (.iload_n 2, 1) := by decide +kernel
theorem dJ2_indexOf_4cfef_31 : decode cJ2_indexOf_4cfef 31 = .ok (.iload_n 3, 1) := by decide +kernel
theorem dJ2_indexOf_4cfef_32 : decode cJ2_indexOf_4cfef 32 = .ok (.invokestatic 228, 3) := by decide +kernel
theorem dJ2_indexOf_4cfef_35 : decode cJ2_indexOf_4cfef 35 = .ok (.ireturn, 1) := by decide +kernel
theorem dJ2_indexOf_4cfef_36 : decode cJ2_indexOf_4cfef 36 = .ok (.aload_n 0, 1) := by decide +kernel
theorem dJ2_indexOf_4cfef_37 : decode cJ2_indexOf_4cfef 37 = .ok (.iload_n 1, 1) := by decide +kernel
theorem dJ2_indexOf_4cfef_38 : decode cJ2_indexOf_4cfef 38 = .ok (.iload_n 2, 1) := by decide +kernel
theorem dJ2_indexOf_4cfef_39 : decode cJ2_indexOf_4cfef 39 = .ok (.iload_n 3, 1) := by decide +kernel
theorem dJ2_indexOf_4cfef_40 : decode cJ2_indexOf_4cfef 40 = .ok (.invokestatic 232, 3) := by decide +kernel
theorem dJ2_indexOf_4cfef_43 : decode cJ2_indexOf_4cfef 43 = .ok (.ireturn, 1) := by decide +kernel
theorem dJ2_indexOfChar_4cfef_0 : decode cJ2_indexOfChar_4cfef 0 = .ok (.iload_n 2, 1) := by decide +kernel
theorem dJ2_indexOfChar_4cfef_1 : decode cJ2_indexOfChar_4cfef 1 = .ok (.iload_n 3, 1) := by decide +kernel
theorem dJ2_indexOfChar_4cfef_2 : decode cJ2_indexOfChar_4cfef 2 = .ok (.aload_n 0, 1) := by decide +kernel
theorem dJ2_indexOfChar_4cfef_3 : decode cJ2_indexOfChar_4cfef 3 = .ok (.invokestatic 96, 3) := by decide +kernel
theorem dJ2_indexOfChar_4cfef_6 : decode cJ2_indexOfChar_4cfef 6 = .ok (.aload_n 0, 1) := by decide +kernel
theorem dJ2_indexOfChar_4cfef_7 : decode cJ2_indexOfChar_4cfef 7 = .ok (.iload_n 1, 1) := by decide +kernel
theorem dJ2_indexOfChar_4cfef_8 : decode cJ2_indexOfChar_4cfef 8 = .ok (.iload_n 2, 1) := by decide +kernel
theorem dJ2_indexOfChar_4cfef_9 : decode cJ2_indexOfChar_4cfef 9 = .ok (.iload_n 3, 1) := by decide +kernel
theorem dJ2_indexOfChar_4cfef_10 : decode cJ2_indexOfChar_4cfef 10 = .ok (.invokestatic 244, 3) := by decide +kernel
theorem dJ2_indexOfChar_4cfef_13 : decode cJ2_indexOfChar_4cfef 13 = .ok (.ireturn, 1) := by decide +kernel
theorem dJ2_indexOfCharUnsafe_4cfef_0 : decode cJ2_indexOfCharUnsafe_4cfef 0 = .ok (.iload_n 2, 1) := by decide +kernel
theorem dJ2_indexOfCharUnsafe_4cfef_1 : decode cJ2_indexOfCharUnsafe_4cfef 1 = .ok (.istore 4, 2) := by decide +kernel
theorem dJ2_indexOfCharUnsafe_4cfef_3 : decode cJ2_indexOfCharUnsafe_4cfef 3 = .ok (.iload 4, 2) := by decide +kernel
theorem dJ2_indexOfCharUnsafe_4cfef_5 : decode cJ2_indexOfCharUnsafe_4cfef 5 = .ok (.iload_n 3, 1) := by decide +kernel
theorem dJ2_indexOfCharUnsafe_4cfef_6 : decode cJ2_indexOfCharUnsafe_4cfef 6 = .ok (.if_icmp .ge 22, 3) := by decide +kernel
theorem dJ2_indexOfCharUnsafe_4cfef_9 : decode cJ2_indexOfCharUnsafe_4cfef 9 = .ok (.aload_n 0, 1) := by decide +kernel
theorem dJ2_indexOfCharUnsafe_4cfef_10 : decode cJ2_indexOfCharUnsafe_4cfef 10 = .ok (.iload 4, 2) := by decide +kernel
theorem dJ2_indexOfCharUnsafe_4cfef_12 : decode cJ2_indexOfCharUnsafe_4cfef 12 = .ok (.invokestatic 71, 3) := by decide +kernel
theorem dJ2_indexOfCharUnsafe_4cfef_15 : decode cJ2_indexOfCharUnsafe_4cfef 15 = .ok (.iload_n 1, 1) := by decide +kernel
theorem dJ2_indexOfCharUnsafe_4cfef_16 : decode cJ2_indexOfCharUnsafe_4cfef 16 = .ok (.if_icmp .ne 6, 3) := by decide +kernel
theorem dJ2_indexOfCharUnsafe_4cfef_19 : decode cJ2_indexOfCharUnsafe_4cfef 19 = .ok (.iload 4, 2) := by decide +kernel
theorem dJ2_indexOfCharUnsafe_4cfef_21 : decode cJ2_indexOfCharUnsafe_4cfef 21 = .ok (.ireturn, 1) := by decide +kernel
theorem dJ2_indexOfCharUnsafe_4cfef_22 : decode cJ2_indexOfCharUnsafe_4cfef 22 = .ok (.iinc 4 1, 3) := by decide +kernel
theorem dJ2_indexOfCharUnsafe_4cfef_25 : decode cJ2_indexOfCharUnsafe_4cfef 25 = .ok (.goto (-22), 3) := by decide +kernel
theorem dJ2_indexOfCharUnsafe_4cfef_28 : decode cJ2_indexOfCharUnsafe_4cfef 28 = .ok (.iconst (-1), 1) := by decide +kernel
theorem dJ2_indexOfCharUnsafe_4cfef_29 : decode cJ2_indexOfCharUnsafe_4cfef 29 = .ok (.ireturn, 1) := by decide +kernel
theorem dJ2_indexOfSupplementary_4cfef_0 : decode cJ2_indexOfSupplementary_4cfef 0 = .ok (.iload_n 1, 1) := by decide +kernel
theorem dJ2_indexOfSupplementary_4cfef_1 : decode cJ2_indexOfSupplementary_4cfef 1 = .ok (.invokestatic 164, 3) := by decide +kernel
theorem dJ2_indexOfSupplementary_4cfef_4 : decode cJ2_indexOfSupplementary_4cfef 4 = .ok (.ifCond .eq 65, 3) := by decide +kernel
theorem dJ2_indexOfSupplementary_4cfef_7 : decode cJ2_indexOfSupplementary_4cfef 7 = .ok (.iload_n 1, 1) := by decide +kernel
theorem dJ2_indexOfSupplementary_4cfef_8 : decode cJ2_indexOfSupplementary_4cfef 8 = .ok (.invokestatic 157, 3) := by decide +kernel
theorem dJ2_indexOfSupplementary_4cfef_11 : decode cJ2_indexOfSupplementary_4cfef 11 = .ok (.istore 4, 2) := by decide +kernel
theorem dJ2_indexOfSupplementary_4cfef_13 : decode cJ2_indexOfSupplementary_4cfef 13 = .ok (.iload_n 1, 1) := by decide +kernel
theorem dJ2_indexOfSupplementary_4cfef_14 : decode cJ2_indexOfSupplementary_4cfef 14 = .ok (.invokestatic 161, 3) := by decide +kernel
theorem dJ2_indexOfSupplementary_4cfef_17 : decode cJ2_indexOfSupplementary_4cfef 17 = .ok (.istore 5, 2) := by decide +kernel
theorem dJ2_indexOfSupplementary_4cfef_19 : decode cJ2_indexOfSupplementary_4cfef 19 = .ok (.iload_n 2, 1) := by decide +kernel
theorem dJ2_indexOfSupplementary_4cfef_20 : decode cJ2_indexOfSupplementary_4cfef 20 = .ok (.iload_n 3, 1) := by decide +kernel
theorem dJ2_indexOfSupplementary_4cfef_21 : decode cJ2_indexOfSupplementary_4cfef 21 = .ok (.aload_n 0, 1) := by decide +kernel
theorem dJ2_indexOfSupplementary_4cfef_22 : decode cJ2_indexOfSupplementary_4cfef 22 = .ok (.invokestatic 96, 3) := by decide +kernel
theorem dJ2_indexOfSupplementary_4cfef_25 : decode cJ2_indexOfSupplementary_4cfef 25 = .ok (.iload_n 2, 1) := by decide +kernel
theorem dJ2_indexOfSupplementary_4cfef_26 : decode cJ2_indexOfSupplementary_4cfef 26 = .ok (.istore 6, 2) := by decide +kernel
theorem dJ2_indexOfSupplementary_4cfef_28 : decode cJ2_indexOfSupplementary_4cfef 28 = .ok (.iload 6, 2) := by decide +kernel
theorem dJ2_indexOfSupplementary_4cfef_30 : decode cJ2_indexOfSupplementary_4cfef 30 = .ok (.iload_n 3, 1) := by decide +kernel
theorem dJ2_indexOfSupplementary_4cfef_31 : decode cJ2_indexOfSupplementary_4cfef 31 = .ok (.iconst 1, 1) := by decide +kernel
theorem dJ2_indexOfSupplementary_4cfef_32 : decode cJ2_indexOfSupplementary_4cfef 32 = .ok (.isub, 1) := by decide +kernel
theorem dJ2_indexOfSupplementary_4cfef_33 : decode cJ2_indexOfSupplementary_4cfef 33 = .ok (.if_icmp .ge 36, 3) := by decide +kernel
theorem dJ2_indexOfSupplementary_4cfef_36 : decode cJ2_indexOfSupplementary_4cfef 36 = .ok (.aload_n 0, 1) := by decide +kernel
theorem dJ2_indexOfSupplementary_4cfef_37 : decode cJ2_indexOfSupplementary_4cfef 37 = .ok (.iload 6, 2) := by decide +kernel
theorem dJ2_indexOfSupplementary_4cfef_39 : decode cJ2_indexOfSupplementary_4cfef 39 = .ok (.invokestatic 71, 3) := by decide +kernel
theorem dJ2_indexOfSupplementary_4cfef_42 : decode cJ2_indexOfSupplementary_4cfef 42 = .ok (.iload 4, 2) := by decide +kernel
theorem dJ2_indexOfSupplementary_4cfef_44 : decode cJ2_indexOfSupplementary_4cfef 44 = .ok (.if_icmp .ne 19, 3) := by decide +kernel
theorem dJ2_indexOfSupplementary_4cfef_47 : decode cJ2_indexOfSupplementary_4cfef 47 = .ok (.aload_n 0, 1) := by decide +kernel
theorem dJ2_indexOfSupplementary_4cfef_48 : decode cJ2_indexOfSupplementary_4cfef 48 = .ok (.iload 6, 2) := by decide +kernel
theorem dJ2_indexOfSupplementary_4cfef_50 : decode cJ2_indexOfSupplementary_4cfef 50 = .ok (.iconst 1, 1) := by decide +kernel
theorem dJ2_indexOfSupplementary_4cfef_51 : decode cJ2_indexOfSupplementary_4cfef 51 = .ok (.iadd, 1) := by decide +kernel
theorem dJ2_indexOfSupplementary_4cfef_52 : decode cJ2_indexOfSupplementary_4cfef 52 = .ok (.invokestatic 71, 3) := by decide +kernel
theorem dJ2_indexOfSupplementary_4cfef_55 : decode cJ2_indexOfSupplementary_4cfef 55 = .ok (.iload 5, 2) := by decide +kernel
theorem dJ2_indexOfSupplementary_4cfef_57 : decode cJ2_indexOfSupplementary_4cfef 57 = .ok (.if_icmp .ne 6, 3) := by decide +kernel
theorem dJ2_indexOfSupplementary_4cfef_60 : decode cJ2_indexOfSupplementary_4cfef 60 = .ok (.iload 6, 2) := by decide +kernel
theorem dJ2_indexOfSupplementary_4cfef_62 : decode cJ2_indexOfSupplementary_4cfef 62 = .ok (.ireturn, 1) := by decide +kernel
theorem dJ2_indexOfSupplementary_4cfef_63 : decode cJ2_indexOfSupplementary_4cfef 63 = .ok (.iinc 6 1, 3) := by decide +kernel
theorem dJ2_indexOfSupplementary_4cfef_66 : decode cJ2_indexOfSupplementary_4cfef 66 = .ok (.goto (-38), 3) := by decide +kernel
theorem dJ2_indexOfSupplementary_4cfef_69 : decode cJ2_indexOfSupplementary_4cfef 69 = .ok (.iconst (-1), 1) := by decide +kernel
theorem dJ2_indexOfSupplementary_4cfef_70 : decode cJ2_indexOfSupplementary_4cfef 70 = .ok (.ireturn, 1) := by decide +kernel
theorem dJ2_checkBoundsBeginEnd_d044e_0 : decode cJ2_checkBoundsBeginEnd_d044e 0 = .ok (.iload_n 0, 1) := by decide +kernel
theorem dJ2_checkBoundsBeginEnd_d044e_1 : decode cJ2_checkBoundsBeginEnd_d044e 1 = .ok (.iload_n 1, 1) := by decide +kernel
theorem dJ2_checkBoundsBeginEnd_d044e_2 : decode cJ2_checkBoundsBeginEnd_d044e 2 = .ok (.aload_n 2, 1) := by decide +kernel
theorem dJ2_checkBoundsBeginEnd_d044e_3 : decode cJ2_checkBoundsBeginEnd_d044e 3 = .ok (.invokestatic 48, 3) := by decide +kernel
theorem dJ2_checkBoundsBeginEnd_d044e_6 : decode cJ2_checkBoundsBeginEnd_d044e 6 = .ok (.invokestatic 241, 3) := by decide +kernel
theorem dJ2_checkBoundsBeginEnd_d044e_9 : decode cJ2_checkBoundsBeginEnd_d044e 9 = .ok (.return_, 1) := by decide +kernel
theorem dJ3_checkFromToIndex_8c36e_0 : decode cJ3_checkFromToIndex_8c36e 0 = .ok (.iload_n 0, 1) := by decide +kernel
theorem dJ3_checkFromToIndex_8c36e_1 : decode cJ3_checkFromToIndex_8c36e 1 = .ok (.ifCond .lt 13, 3) := by decide +kernel
theorem dJ3_checkFromToIndex_8c36e_4 : decode cJ3_checkFromToIndex_8c36e 4 = .ok (.iload_n 0, 1) := by decide +kernel
theorem dJ3_checkFromToIndex_8c36e_5 : decode cJ3_checkFromToIndex_8c36e 5 = .ok (.iload_n 1, 1) := by decide +kernel
theorem dJ3_checkFromToIndex_8c36e_6 : decode cJ3_checkFromToIndex_8c36e 6 = .ok (.if_icmp .gt 8, 3) := by decide +kernel
theorem dJ3_checkFromToIndex_8c36e_9 : decode cJ3_checkFromToIndex_8c36e 9 = .ok (.iload_n 1, 1) := by decide +kernel
theorem dJ3_checkFromToIndex_8c36e_10 : decode cJ3_checkFromToIndex_8c36e 10 = .ok (.iload_n 2, 1) := by decide +kernel
theorem dJ3_checkFromToIndex_8c36e_11 : decode cJ3_checkFromToIndex_8c36e 11 = .ok (.if_icmp .le 11, 3) := by decide +kernel
theorem dJ3_checkFromToIndex_8c36e_14 : decode cJ3_checkFromToIndex_8c36e 14 = .ok (.aload_n 3, 1) := by decide +kernel
theorem dJ3_checkFromToIndex_8c36e_15 : decode cJ3_checkFromToIndex_8c36e 15 = .ok (.iload_n 0, 1) := by decide +kernel
theorem dJ3_checkFromToIndex_8c36e_16 : decode cJ3_checkFromToIndex_8c36e 16 = .ok (.iload_n 1, 1) := by decide +kernel
theorem dJ3_checkFromToIndex_8c36e_17 : decode cJ3_checkFromToIndex_8c36e 17 = .ok (.iload_n 2, 1) := by decide +kernel
theorem dJ3_checkFromToIndex_8c36e_18 : decode cJ3_checkFromToIndex_8c36e 18 = .ok (.invokestatic 99, 3) := by decide +kernel
theorem dJ3_checkFromToIndex_8c36e_21 : decode cJ3_checkFromToIndex_8c36e 21 = .ok (.athrow, 1) := by decide +kernel
theorem dJ3_checkFromToIndex_8c36e_22 : decode cJ3_checkFromToIndex_8c36e 22 = .ok (.iload_n 0, 1) := by decide +kernel
theorem dJ3_checkFromToIndex_8c36e_23 : decode cJ3_checkFromToIndex_8c36e 23 = .ok (.ireturn, 1) := by decide +kernel
